theorem dX12_thrown_0 : decode cX12_thrown 0 = .ok (.aload_n 0, 1) := by decide +kernel
theorem dX12_thrown_1 : decode cX12_thrown 1 = .ok (.getfield 117, 3) := by decide +kernel
theorem dX12_thrown_4 : decode cX12_thrown 4 = .ok (.ireturn, 1) := by decide +kernel
theorem dX12_refuse_0 : decode cX12_refuse 0 = .ok (.aload_n 0, 1) := by decide +kernel
theorem dX12_refuse_1 : decode cX12_refuse 1 = .ok (.iconst 1, 1) := by decide +kernel
theorem dX12_refuse_2 : decode cX12_refuse 2 = .ok (.putfield 117, 3) := by decide +kernel
theorem dX12_refuse_5 : decode cX12_refuse 5 = .ok (.iconst 0, 1) := by decide +kernel
theorem dX12_refuse_6 : decode cX12_refuse 6 = .ok (.ireturn, 1) := by decide +kernel
theorem dX12_in_0 : decode cX12_in 0 = .ok (.lload_n 0, 1) := by decide +kernel
theorem dX12_in_1 : decode cX12_in 1 = .ok (.lload_n 2, 1) := by decide +kernel
theorem dX12_in_2 : decode cX12_in 2 = .ok (.lcmp, 1) := by decide +kernel
theorem dX12_in_3 : decode cX12_in 3 = .ok (.ifCond .lt 14, 3) := by decide +kernel
theorem dX12_in_17 : decode cX12_in 17 = .ok (.iconst 0, 1) := by decide +kernel
theorem dX12_in_18 : decode cX12_in 18 = .ok (.ireturn, 1) := by decide +kernel
theorem dX12_in_6 : decode cX12_in 6 = .ok (.lload_n 0, 1) := by decide +kernel
theorem dX12_in_7 : decode cX12_in 7 = .ok (.lload 4, 2) := by decide +kernel
theorem dX12_in_9 : decode cX12_in 9 = .ok (.lcmp, 1) := by decide +kernel
theorem dX12_in_10 : decode cX12_in 10 = .ok (.ifCond .gt 7, 3) := by decide +kernel
theorem dX12_in_13 : decode cX12_in 13 = .ok (.iconst 1, 1) := by decide +kernel
theorem dX12_in_14 : decode cX12_in 14 = .ok (.goto 4, 3) := by decide +kernel
theorem dX12_has_0 : decode cX12_has 0 = .ok (.iload_n 0, 1) := by decide +kernel
theorem dX12_has_1 : decode cX12_has 1 = .ok (.iload_n 1, 1) := by decide +kernel
theorem dX12_has_2 : decode cX12_has 2 = .ok (.ishr, 1) := by decide +kernel
theorem dX12_has_3 : decode cX12_has 3 = .ok (.iconst 1, 1) := by decide +kernel
theorem dX12_has_4 : decode cX12_has 4 = .ok (.iand, 1) := by decide +kernel
theorem dX12_has_5 : decode cX12_has 5 = .ok (.iconst 1, 1) := by decide +kernel
theorem dX12_has_6 : decode cX12_has 6 = .ok (.if_icmp .ne 7, 3) := by decide +kernel
theorem dX12_has_13 : decode cX12_has 13 = .ok (.iconst 0, 1) := by decide +kernel
theorem dX12_has_14 : decode cX12_has 14 = .ok (.ireturn, 1) := by decide +kernel
theorem dX12_has_9 : decode cX12_has 9 = .ok (.iconst 1, 1) := by decide +kernel
theorem dX12_has_10 : decode cX12_has 10 = .ok (.goto 4, 3) := by decide +kernel
theorem dX12_flag_0 : decode cX12_flag 0 = .ok (.iload_n 0, 1) := by decide +kernel
theorem dX12_flag_1 : decode cX12_flag 1 = .ok (.ifCond .eq 7, 3) := by decide +kernel
theorem dX12_flag_8 : decode cX12_flag 8 = .ok (.iconst 0, 1) := by decide +kernel
theorem dX12_flag_9 : decode cX12_flag 9 = .ok (.ireturn, 1) := by decide +kernel
theorem dX12_flag_4 : decode cX12_flag 4 = .ok (.iconst 1, 1) := by decide +kernel
theorem dX12_flag_5 : decode cX12_flag 5 = .ok (.goto 4, 3) := by decide +kernel
theorem dX12_common_0 : decode cX12_common 0 = .ok (.lload_n 2, 1) := by decide +kernel
theorem dX12_common_1 : decode cX12_common 1 = .ok (.lconst 0, 1) := by decide +kernel
theorem dX12_common_2 : decode cX12_common 2 = .ok (.lcmp, 1) := by decide +kernel
theorem dX12_common_3 : decode cX12_common 3 = .ok (.ifCond .ne 7, 3) := by decide +kernel
theorem dX12_common_10 : decode cX12_common 10 = .ok (.lload_n 2, 1) := by decide +kernel
theorem dX12_common_11 : decode cX12_common 11 = .ok (.lload_n 0, 1) := by decide +kernel
theorem dX12_common_12 : decode cX12_common 12 = .ok (.lload_n 2, 1) := by decide +kernel
theorem dX12_common_13 : decode cX12_common 13 = .ok (.lrem, 1) := by decide +kernel
theorem dX12_common_14 : decode cX12_common 14 = .ok (.invokestatic 121, 3) := by decide +kernel
theorem dX12_common_17 : decode cX12_common 17 = .ok (.lreturn, 1) := by decide +kernel
theorem dX12_common_6 : decode cX12_common 6 = .ok (.lload_n 0, 1) := by decide +kernel
theorem dX12_common_7 : decode cX12_common 7 = .ok (.goto 10, 3) := by decide +kernel
theorem dX12_enters_0 : decode cX12_enters 0 = .ok (.aload_n 0, 1) := by decide +kernel
theorem dX12_enters_1 : decode cX12_enters 1 = .ok (.getfield 9, 3) := by decide +kernel
theorem dX12_enters_4 : decode cX12_enters 4 = .ok (.aload_n 0, 1) := by decide +kernel
theorem dX12_enters_5 : decode cX12_enters 5 = .ok (.getfield 125, 3) := by decide +kernel
theorem dX12_enters_8 : decode cX12_enters 8 = .ok (.lload_n 1, 1) := by decide +kernel
theorem dX12_enters_9 : decode cX12_enters 9 = .ok (.lastore, 1) := by decide +kernel
theorem dX12_enters_10 : decode cX12_enters 10 = .ok (.aload_n 0, 1) := by decide +kernel
theorem dX12_enters_11 : decode cX12_enters 11 = .ok (.dup, 1) := by decide +kernel
theorem dX12_enters_12 : decode cX12_enters 12 = .ok (.getfield 125, 3) := by decide +kernel
theorem dX12_enters_15 : decode cX12_enters 15 = .ok (.iconst 1, 1) := by decide +kernel
theorem dX12_enters_16 : decode cX12_enters 16 = .ok (.iadd, 1) := by decide +kernel
theorem dX12_enters_17 : decode cX12_enters 17 = .ok (.putfield 125, 3) := by decide +kernel
theorem dX12_enters_20 : decode cX12_enters 20 = .ok (.return_, 1) := by decide +kernel
theorem dX12_isRing_0 : decode cX12_isRing 0 = .ok (.iload_n 1, 1) := by decide +kernel
theorem dX12_isRing_1 : decode cX12_isRing 1 = .ok (.i2l, 1) := by decide +kernel
theorem dX12_isRing_2 : decode cX12_isRing 2 = .ok (.lconst 0, 1) := by decide +kernel
theorem dX12_isRing_3 : decode cX12_isRing 3 = .ok (.aload_n 0, 1) := by decide +kernel
theorem dX12_isRing_4 : decode cX12_isRing 4 = .ok (.getfield 128, 3) := by decide +kernel
theorem dX12_isRing_7 : decode cX12_isRing 7 = .ok (.iconst 1, 1) := by decide +kernel
theorem dX12_isRing_8 : decode cX12_isRing 8 = .ok (.isub, 1) := by decide +kernel
theorem dX12_isRing_9 : decode cX12_isRing 9 = .ok (.i2l, 1) := by decide +kernel
theorem dX12_isRing_10 : decode cX12_isRing 10 = .ok (.invokestatic 131, 3) := by decide +kernel
theorem dX12_isRing_13 : decode cX12_isRing 13 = .ok (.ireturn, 1) := by decide +kernel
theorem dX12_isBalloon_0 : decode cX12_isBalloon 0 = .ok (.iload_n 1, 1) := by decide +kernel
theorem dX12_isBalloon_1 : decode cX12_isBalloon 1 = .ok (.i2l, 1) := by decide +kernel
theorem dX12_isBalloon_2 : decode cX12_isBalloon 2 = .ok (.lconst 0, 1) := by decide +kernel
theorem dX12_isBalloon_3 : decode cX12_isBalloon 3 = .ok (.aload_n 0, 1) := by decide +kernel
theorem dX12_isBalloon_4 : decode cX12_isBalloon 4 = .ok (.getfield 135, 3) := by decide +kernel
theorem dX12_isBalloon_7 : decode cX12_isBalloon 7 = .ok (.iconst 1, 1) := by decide +kernel
theorem dX12_isBalloon_8 : decode cX12_isBalloon 8 = .ok (.isub, 1) := by decide +kernel
theorem dX12_isBalloon_9 : decode cX12_isBalloon 9 = .ok (.i2l, 1) := by decide +kernel
theorem dX12_isBalloon_10 : decode cX12_isBalloon 10 = .ok (.invokestatic 131, 3) := by decide +kernel
theorem dX12_isBalloon_13 : decode cX12_isBalloon 13 = .ok (.ireturn, 1) := by decide +kernel
theorem dX12_how_0 : decode cX12_how 0 = .ok (.aload_n 0, 1) := by decide +kernel
theorem dX12_how_1 : decode cX12_how 1 = .ok (.getfield 32, 3) := by decide +kernel
theorem dX12_how_4 : decode cX12_how 4 = .ok (.bipush 7, 2) := by decide +kernel
theorem dX12_how_6 : decode cX12_how 6 = .ok (.iload_n 1, 1) := by decide +kernel
theorem dX12_how_7 : decode cX12_how 7 = .ok (.imul, 1) := by decide +kernel
theorem dX12_how_8 : decode cX12_how 8 = .ok (.iconst 3, 1) := by decide +kernel
theorem dX12_how_9 : decode cX12_how 9 = .ok (.iadd, 1) := by decide +kernel
theorem dX12_how_10 : decode cX12_how 10 = .ok (.iaload, 1) := by decide +kernel
theorem dX12_how_11 : decode cX12_how 11 = .ok (.ireturn, 1) := by decide +kernel
theorem dX12_sign_0 : decode cX12_sign 0 = .ok (.aload_n 0, 1) := by decide +kernel
theorem dX12_sign_1 : decode cX12_sign 1 = .ok (.iconst 0, 1) := by decide +kernel
theorem dX12_sign_2 : decode cX12_sign 2 = .ok (.putfield 117, 3) := by decide +kernel
theorem dX12_sign_5 : decode cX12_sign 5 = .ok (.aload_n 0, 1) := by decide +kernel
theorem dX12_sign_6 : decode cX12_sign 6 = .ok (.getfield 138, 3) := by decide +kernel
theorem dX12_sign_9 : decode cX12_sign 9 = .ok (.bipush 76, 2) := by decide +kernel
theorem dX12_sign_11 : decode cX12_sign 11 = .ok (.if_icmp .le 5, 3) := by decide +kernel
theorem dX12_sign_16 : decode cX12_sign 16 = .ok (.iconst 0, 1) := by decide +kernel
theorem dX12_sign_17 : decode cX12_sign 17 = .ok (.istore_n 2, 1) := by decide +kernel
theorem dX12_sign_18 : decode cX12_sign 18 = .ok (.iload_n 2, 1) := by decide +kernel
theorem dX12_sign_19 : decode cX12_sign 19 = .ok (.iconst 4, 1) := by decide +kernel
theorem dX12_sign_20 : decode cX12_sign 20 = .ok (.if_icmp .ge 33, 3) := by decide +kernel
theorem dX12_sign_23 : decode cX12_sign 23 = .ok (.aload_n 0, 1) := by decide +kernel
theorem dX12_sign_24 : decode cX12_sign 24 = .ok (.getfield 38, 3) := by decide +kernel
theorem dX12_sign_27 : decode cX12_sign 27 = .ok (.aload_n 0, 1) := by decide +kernel
theorem dX12_sign_28 : decode cX12_sign 28 = .ok (.getfield 138, 3) := by decide +kernel
theorem dX12_sign_31 : decode cX12_sign 31 = .ok (.iload_n 2, 1) := by decide +kernel
theorem dX12_sign_32 : decode cX12_sign 32 = .ok (.iadd, 1) := by decide +kernel
theorem dX12_sign_33 : decode cX12_sign 33 = .ok (.iload_n 1, 1) := by decide +kernel
theorem dX12_sign_34 : decode cX12_sign 34 = .ok (.bipush 24, 2) := by decide +kernel
theorem dX12_sign_36 : decode cX12_sign 36 = .ok (.bipush 8, 2) := by decide +kernel
theorem dX12_sign_38 : decode cX12_sign 38 = .ok (.iload_n 2, 1) := by decide +kernel
theorem dX12_sign_39 : decode cX12_sign 39 = .ok (.imul, 1) := by decide +kernel
theorem dX12_sign_40 : decode cX12_sign 40 = .ok (.isub, 1) := by decide +kernel
theorem dX12_sign_41 : decode cX12_sign 41 = .ok (.ishr, 1) := by decide +kernel
theorem dX12_sign_42 : decode cX12_sign 42 = .ok (.sipush 255, 3) := by decide +kernel
theorem dX12_sign_45 : decode cX12_sign 45 = .ok (.iand, 1) := by decide +kernel
theorem dX12_sign_46 : decode cX12_sign 46 = .ok (.iastore, 1) := by decide +kernel
theorem dX12_sign_47 : decode cX12_sign 47 = .ok (.iinc 2 1, 3) := by decide +kernel
theorem dX12_sign_50 : decode cX12_sign 50 = .ok (.goto (-32), 3) := by decide +kernel
theorem dX12_sign_53 : decode cX12_sign 53 = .ok (.aload_n 0, 1) := by decide +kernel
theorem dX12_sign_54 : decode cX12_sign 54 = .ok (.dup, 1) := by decide +kernel
theorem dX12_sign_55 : decode cX12_sign 55 = .ok (.getfield 138, 3) := by decide +kernel
theorem dX12_sign_58 : decode cX12_sign 58 = .ok (.iconst 4, 1) := by decide +kernel
theorem dX12_sign_59 : decode cX12_sign 59 = .ok (.iadd, 1) := by decide +kernel
theorem dX12_sign_60 : decode cX12_sign 60 = .ok (.putfield 138, 3) := by decide +kernel
theorem dX12_sign_63 : decode cX12_sign 63 = .ok (.aload_n 0, 1) := by decide +kernel
theorem dX12_sign_64 : decode cX12_sign 64 = .ok (.getfield 138, 3) := by decide +kernel
theorem dX12_sign_67 : decode cX12_sign 67 = .ok (.ireturn, 1) := by decide +kernel
theorem dX12_sign_14 : decode cX12_sign 14 = .ok (.iconst (-1), 1) := by decide +kernel
theorem dX12_sign_15 : decode cX12_sign 15 = .ok (.ireturn, 1) := by decide +kernel
theorem dX12_end_0 : decode cX12_end 0 = .ok (.aload_n 0, 1) := by decide +kernel
theorem dX12_end_1 : decode cX12_end 1 = .ok (.iconst 0, 1) := by decide +kernel
theorem dX12_end_2 : decode cX12_end 2 = .ok (.putfield 117, 3) := by decide +kernel
theorem dX12_end_5 : decode cX12_end 5 = .ok (.iload_n 1, 1) := by decide +kernel
theorem dX12_end_6 : decode cX12_end 6 = .ok (.i2l, 1) := by decide +kernel
theorem dX12_end_7 : decode cX12_end 7 = .ok (.lconst 0, 1) := by decide +kernel
theorem dX12_end_8 : decode cX12_end 8 = .ok (.aload_n 0, 1) := by decide +kernel
theorem dX12_end_9 : decode cX12_end 9 = .ok (.getfield 138, 3) := by decide +kernel
theorem dX12_end_12 : decode cX12_end 12 = .ok (.i2l, 1) := by decide +kernel
theorem dX12_end_13 : decode cX12_end 13 = .ok (.invokestatic 131, 3) := by decide +kernel
theorem dX12_end_16 : decode cX12_end 16 = .ok (.ifCond .ne 5, 3) := by decide +kernel
theorem dX12_end_21 : decode cX12_end 21 = .ok (.aload_n 0, 1) := by decide +kernel
theorem dX12_end_22 : decode cX12_end 22 = .ok (.iload_n 1, 1) := by decide +kernel
theorem dX12_end_23 : decode cX12_end 23 = .ok (.putfield 138, 3) := by decide +kernel
theorem dX12_end_26 : decode cX12_end 26 = .ok (.iconst 1, 1) := by decide +kernel
theorem dX12_end_27 : decode cX12_end 27 = .ok (.ireturn, 1) := by decide +kernel
theorem dX12_end_19 : decode cX12_end 19 = .ok (.iconst 0, 1) := by decide +kernel
theorem dX12_end_20 : decode cX12_end 20 = .ok (.ireturn, 1) := by decide +kernel
theorem dX12_begins_0 : decode cX12_begins 0 = .ok (.aload_n 0, 1) := by decide +kernel
theorem dX12_begins_1 : decode cX12_begins 1 = .ok (.getfield 138, 3) := by decide +kernel
theorem dX12_begins_4 : decode cX12_begins 4 = .ok (.istore_n 2, 1) := by decide +kernel
theorem dX12_begins_5 : decode cX12_begins 5 = .ok (.aload_n 0, 1) := by decide +kernel
theorem dX12_begins_6 : decode cX12_begins 6 = .ok (.iconst 0, 1) := by decide +kernel
theorem dX12_begins_7 : decode cX12_begins 7 = .ok (.putfield 138, 3) := by decide +kernel
theorem dX12_begins_10 : decode cX12_begins 10 = .ok (.aload_n 0, 1) := by decide +kernel
theorem dX12_begins_11 : decode cX12_begins 11 = .ok (.iconst 0, 1) := by decide +kernel
theorem dX12_begins_12 : decode cX12_begins 12 = .ok (.putfield 141, 3) := by decide +kernel
theorem dX12_begins_15 : decode cX12_begins 15 = .ok (.aload_n 0, 1) := by decide +kernel
theorem dX12_begins_16 : decode cX12_begins 16 = .ok (.iconst 0, 1) := by decide +kernel
theorem dX12_begins_17 : decode cX12_begins 17 = .ok (.putfield 144, 3) := by decide +kernel
theorem dX12_begins_20 : decode cX12_begins 20 = .ok (.aload_n 0, 1) := by decide +kernel
theorem dX12_begins_21 : decode cX12_begins 21 = .ok (.iload_n 2, 1) := by decide +kernel
theorem dX12_begins_22 : decode cX12_begins 22 = .ok (.iload_n 1, 1) := by decide +kernel
theorem dX12_begins_23 : decode cX12_begins 23 = .ok (.invokestatic 147, 3) := by decide +kernel
theorem dX12_begins_26 : decode cX12_begins 26 = .ok (.putfield 153, 3) := by decide +kernel
theorem dX12_begins_29 : decode cX12_begins 29 = .ok (.iload_n 2, 1) := by decide +kernel
theorem dX12_begins_30 : decode cX12_begins 30 = .ok (.ireturn, 1) := by decide +kernel
theorem dX12_takes_0 : decode cX12_takes 0 = .ok (.aload_n 0, 1) := by decide +kernel
theorem dX12_takes_1 : decode cX12_takes 1 = .ok (.getfield 141, 3) := by decide +kernel
theorem dX12_takes_4 : decode cX12_takes 4 = .ok (.aload_n 0, 1) := by decide +kernel
theorem dX12_takes_5 : decode cX12_takes 5 = .ok (.getfield 153, 3) := by decide +kernel
theorem dX12_takes_29 : decode cX12_takes 29 = .ok (.istore_n 2, 1) := by decide +kernel
theorem dX12_takes_30 : decode cX12_takes 30 = .ok (.aload_n 0, 1) := by decide +kernel
theorem dX12_takes_31 : decode cX12_takes 31 = .ok (.dup, 1) := by decide +kernel
theorem dX12_takes_32 : decode cX12_takes 32 = .ok (.getfield 141, 3) := by decide +kernel
theorem dX12_takes_35 : decode cX12_takes 35 = .ok (.iload_n 2, 1) := by decide +kernel
theorem dX12_takes_36 : decode cX12_takes 36 = .ok (.invokestatic 156, 3) := by decide +kernel
theorem dX12_takes_39 : decode cX12_takes 39 = .ok (.iadd, 1) := by decide +kernel
theorem dX12_takes_40 : decode cX12_takes 40 = .ok (.putfield 141, 3) := by decide +kernel
theorem dX12_takes_43 : decode cX12_takes 43 = .ok (.iload_n 2, 1) := by decide +kernel
theorem dX12_takes_44 : decode cX12_takes 44 = .ok (.ireturn, 1) := by decide +kernel
theorem dX12_takes_28 : decode cX12_takes 28 = .ok (.iconst 0, 1) := by decide +kernel
theorem dX12_takes_8 : decode cX12_takes 8 = .ok (.if_icmp .ge 20, 3) := by decide +kernel
theorem dX12_takes_11 : decode cX12_takes 11 = .ok (.aload_n 0, 1) := by decide +kernel
theorem dX12_takes_12 : decode cX12_takes 12 = .ok (.getfield 38, 3) := by decide +kernel
theorem dX12_takes_15 : decode cX12_takes 15 = .ok (.aload_n 0, 1) := by decide +kernel
theorem dX12_takes_16 : decode cX12_takes 16 = .ok (.getfield 141, 3) := by decide +kernel
theorem dX12_takes_19 : decode cX12_takes 19 = .ok (.iaload, 1) := by decide +kernel
theorem dX12_takes_20 : decode cX12_takes 20 = .ok (.iload_n 1, 1) := by decide +kernel
theorem dX12_takes_21 : decode cX12_takes 21 = .ok (.if_icmp .ne 7, 3) := by decide +kernel
theorem dX12_takes_24 : decode cX12_takes 24 = .ok (.iconst 1, 1) := by decide +kernel
theorem dX12_takes_25 : decode cX12_takes 25 = .ok (.goto 4, 3) := by decide +kernel
theorem dX12_isDigit_0 : decode cX12_isDigit 0 = .ok (.aload_n 0, 1) := by decide +kernel
theorem dX12_isDigit_1 : decode cX12_isDigit 1 = .ok (.getfield 141, 3) := by decide +kernel
theorem dX12_isDigit_4 : decode cX12_isDigit 4 = .ok (.aload_n 0, 1) := by decide +kernel
theorem dX12_isDigit_5 : decode cX12_isDigit 5 = .ok (.getfield 153, 3) := by decide +kernel
theorem dX12_isDigit_8 : decode cX12_isDigit 8 = .ok (.if_icmp .ge 29, 3) := by decide +kernel
theorem dX12_isDigit_37 : decode cX12_isDigit 37 = .ok (.iconst 0, 1) := by decide +kernel
theorem dX12_isDigit_38 : decode cX12_isDigit 38 = .ok (.ireturn, 1) := by decide +kernel
theorem dX12_isDigit_11 : decode cX12_isDigit 11 = .ok (.aload_n 0, 1) := by decide +kernel
theorem dX12_isDigit_12 : decode cX12_isDigit 12 = .ok (.getfield 38, 3) := by decide +kernel
theorem dX12_isDigit_15 : decode cX12_isDigit 15 = .ok (.aload_n 0, 1) := by decide +kernel
theorem dX12_isDigit_16 : decode cX12_isDigit 16 = .ok (.getfield 141, 3) := by decide +kernel
theorem dX12_isDigit_19 : decode cX12_isDigit 19 = .ok (.iaload, 1) := by decide +kernel
theorem dX12_isDigit_20 : decode cX12_isDigit 20 = .ok (.i2l, 1) := by decide +kernel
theorem dX12_isDigit_21 : decode cX12_isDigit 21 = .ok (.ldc2_w 160, 3) := by decide +kernel
theorem dX12_isDigit_24 : decode cX12_isDigit 24 = .ok (.ldc2_w 162, 3) := by decide +kernel
theorem dX12_isDigit_27 : decode cX12_isDigit 27 = .ok (.invokestatic 131, 3) := by decide +kernel
theorem dX12_isDigit_30 : decode cX12_isDigit 30 = .ok (.ifCond .eq 7, 3) := by decide +kernel
theorem dX12_isDigit_33 : decode cX12_isDigit 33 = .ok (.iconst 1, 1) := by decide +kernel
theorem dX12_isDigit_34 : decode cX12_isDigit 34 = .ok (.goto 4, 3) := by decide +kernel
theorem dX12_among_0 : decode cX12_among 0 = .ok (.iconst 0, 1) := by decide +kernel
theorem dX12_among_1 : decode cX12_among 1 = .ok (.istore_n 2, 1) := by decide +kernel
theorem dX12_among_2 : decode cX12_among 2 = .ok (.iload_n 2, 1) := by decide +kernel
theorem dX12_among_3 : decode cX12_among 3 = .ok (.aload_n 1, 1) := by decide +kernel
theorem dX12_among_4 : decode cX12_among 4 = .ok (.invokevirtual 164, 3) := by decide +kernel
theorem dX12_among_7 : decode cX12_among 7 = .ok (.if_icmp .ge 39, 3) := by decide +kernel
theorem dX12_among_10 : decode cX12_among 10 = .ok (.aload_n 0, 1) := by decide +kernel
theorem dX12_among_11 : decode cX12_among 11 = .ok (.getfield 141, 3) := by decide +kernel
theorem dX12_among_14 : decode cX12_among 14 = .ok (.aload_n 0, 1) := by decide +kernel
theorem dX12_among_15 : decode cX12_among 15 = .ok (.getfield 153, 3) := by decide +kernel
theorem dX12_among_18 : decode cX12_among 18 = .ok (.if_icmp .ge 28, 3) := by decide +kernel
theorem dX12_among_21 : decode cX12_among 21 = .ok (.aload_n 1, 1) := by decide +kernel
theorem dX12_among_22 : decode cX12_among 22 = .ok (.iload_n 2, 1) := by decide +kernel
theorem dX12_among_23 : decode cX12_among 23 = .ok (.invokevirtual 170, 3) := by decide +kernel
theorem dX12_among_26 : decode cX12_among 26 = .ok (.aload_n 0, 1) := by decide +kernel
theorem dX12_among_27 : decode cX12_among 27 = .ok (.getfield 38, 3) := by decide +kernel
theorem dX12_among_30 : decode cX12_among 30 = .ok (.aload_n 0, 1) := by decide +kernel
theorem dX12_among_31 : decode cX12_among 31 = .ok (.getfield 141, 3) := by decide +kernel
theorem dX12_among_34 : decode cX12_among 34 = .ok (.iaload, 1) := by decide +kernel
theorem dX12_among_35 : decode cX12_among 35 = .ok (.if_icmp .ne 5, 3) := by decide +kernel
theorem dX12_among_40 : decode cX12_among 40 = .ok (.iinc 2 1, 3) := by decide +kernel
theorem dX12_among_43 : decode cX12_among 43 = .ok (.goto (-41), 3) := by decide +kernel
theorem dX12_among_38 : decode cX12_among 38 = .ok (.iload_n 2, 1) := by decide +kernel
theorem dX12_among_39 : decode cX12_among 39 = .ok (.ireturn, 1) := by decide +kernel
theorem dX12_among_46 : decode cX12_among 46 = .ok (.iconst (-1), 1) := by decide +kernel
theorem dX12_among_47 : decode cX12_among 47 = .ok (.ireturn, 1) := by decide +kernel
theorem dX12_takesOf_0 : decode cX12_takesOf 0 = .ok (.aload_n 0, 1) := by decide +kernel
theorem dX12_takesOf_1 : decode cX12_takesOf 1 = .ok (.aload_n 1, 1) := by decide +kernel
theorem dX12_takesOf_2 : decode cX12_takesOf 2 = .ok (.invokevirtual 174, 3) := by decide +kernel
theorem dX12_takesOf_5 : decode cX12_takesOf 5 = .ok (.istore_n 2, 1) := by decide +kernel
theorem dX12_takesOf_6 : decode cX12_takesOf 6 = .ok (.aload_n 0, 1) := by decide +kernel
theorem dX12_takesOf_7 : decode cX12_takesOf 7 = .ok (.dup, 1) := by decide +kernel
theorem dX12_takesOf_8 : decode cX12_takesOf 8 = .ok (.getfield 141, 3) := by decide +kernel
theorem dX12_takesOf_11 : decode cX12_takesOf 11 = .ok (.iload_n 2, 1) := by decide +kernel
theorem dX12_takesOf_20 : decode cX12_takesOf 20 = .ok (.invokestatic 156, 3) := by decide +kernel
theorem dX12_takesOf_23 : decode cX12_takesOf 23 = .ok (.iadd, 1) := by decide +kernel
theorem dX12_takesOf_24 : decode cX12_takesOf 24 = .ok (.putfield 141, 3) := by decide +kernel
theorem dX12_takesOf_27 : decode cX12_takesOf 27 = .ok (.iload_n 2, 1) := by decide +kernel
theorem dX12_takesOf_28 : decode cX12_takesOf 28 = .ok (.ireturn, 1) := by decide +kernel
theorem dX12_takesOf_12 : decode cX12_takesOf 12 = .ok (.ifCond .lt 7, 3) := by decide +kernel
theorem dX12_takesOf_19 : decode cX12_takesOf 19 = .ok (.iconst 0, 1) := by decide +kernel
theorem dX12_takesOf_15 : decode cX12_takesOf 15 = .ok (.iconst 1, 1) := by decide +kernel
theorem dX12_takesOf_16 : decode cX12_takesOf 16 = .ok (.goto 4, 3) := by decide +kernel
theorem dX12_number_0 : decode cX12_number 0 = .ok (.aload_n 0, 1) := by decide +kernel
theorem dX12_number_1 : decode cX12_number 1 = .ok (.invokevirtual 178, 3) := by decide +kernel
theorem dX12_number_4 : decode cX12_number 4 = .ok (.ifCond .ne 5, 3) := by decide +kernel
theorem dX12_number_9 : decode cX12_number 9 = .ok (.iconst 0, 1) := by decide +kernel
theorem dX12_number_10 : decode cX12_number 10 = .ok (.istore_n 2, 1) := by decide +kernel
theorem dX12_number_11 : decode cX12_number 11 = .ok (.iconst 0, 1) := by decide +kernel
theorem dX12_number_12 : decode cX12_number 12 = .ok (.istore_n 3, 1) := by decide +kernel
theorem dX12_number_13 : decode cX12_number 13 = .ok (.iload_n 3, 1) := by decide +kernel
theorem dX12_number_14 : decode cX12_number 14 = .ok (.iload_n 1, 1) := by decide +kernel
theorem dX12_number_15 : decode cX12_number 15 = .ok (.if_icmp .ge 44, 3) := by decide +kernel
theorem dX12_number_18 : decode cX12_number 18 = .ok (.aload_n 0, 1) := by decide +kernel
theorem dX12_number_19 : decode cX12_number 19 = .ok (.invokevirtual 178, 3) := by decide +kernel
theorem dX12_number_22 : decode cX12_number 22 = .ok (.ifCond .eq 37, 3) := by decide +kernel
theorem dX12_number_25 : decode cX12_number 25 = .ok (.bipush 10, 2) := by decide +kernel
theorem dX12_number_27 : decode cX12_number 27 = .ok (.iload_n 2, 1) := by decide +kernel
theorem dX12_number_28 : decode cX12_number 28 = .ok (.imul, 1) := by decide +kernel
theorem dX12_number_29 : decode cX12_number 29 = .ok (.aload_n 0, 1) := by decide +kernel
theorem dX12_number_30 : decode cX12_number 30 = .ok (.getfield 38, 3) := by decide +kernel
theorem dX12_number_33 : decode cX12_number 33 = .ok (.aload_n 0, 1) := by decide +kernel
theorem dX12_number_34 : decode cX12_number 34 = .ok (.getfield 141, 3) := by decide +kernel
theorem dX12_number_37 : decode cX12_number 37 = .ok (.iaload, 1) := by decide +kernel
theorem dX12_number_38 : decode cX12_number 38 = .ok (.iadd, 1) := by decide +kernel
theorem dX12_number_39 : decode cX12_number 39 = .ok (.bipush 48, 2) := by decide +kernel
theorem dX12_number_41 : decode cX12_number 41 = .ok (.isub, 1) := by decide +kernel
theorem dX12_number_42 : decode cX12_number 42 = .ok (.istore_n 2, 1) := by decide +kernel
theorem dX12_number_43 : decode cX12_number 43 = .ok (.aload_n 0, 1) := by decide +kernel
theorem dX12_number_44 : decode cX12_number 44 = .ok (.dup, 1) := by decide +kernel
theorem dX12_number_45 : decode cX12_number 45 = .ok (.getfield 141, 3) := by decide +kernel
theorem dX12_number_48 : decode cX12_number 48 = .ok (.iconst 1, 1) := by decide +kernel
theorem dX12_number_49 : decode cX12_number 49 = .ok (.iadd, 1) := by decide +kernel
theorem dX12_number_50 : decode cX12_number 50 = .ok (.putfield 141, 3) := by decide +kernel
theorem dX12_number_53 : decode cX12_number 53 = .ok (.iinc 3 1, 3) := by decide +kernel
theorem dX12_number_56 : decode cX12_number 56 = .ok (.goto (-43), 3) := by decide +kernel
theorem dX12_number_59 : decode cX12_number 59 = .ok (.iload_n 2, 1) := by decide +kernel
theorem dX12_number_60 : decode cX12_number 60 = .ok (.ireturn, 1) := by decide +kernel
theorem dX12_number_7 : decode cX12_number 7 = .ok (.iconst (-1), 1) := by decide +kernel
theorem dX12_number_8 : decode cX12_number 8 = .ok (.ireturn, 1) := by decide +kernel
theorem dX12_faultOf_0 : decode cX12_faultOf 0 = .ok (.iload_n 3, 1) := by decide +kernel
theorem dX12_faultOf_20 : decode cX12_faultOf 20 = .ok (.istore 4, 2) := by decide +kernel
theorem dX12_faultOf_22 : decode cX12_faultOf 22 = .ok (.iload_n 1, 1) := by decide +kernel
theorem dX12_faultOf_23 : decode cX12_faultOf 23 = .ok (.iload_n 2, 1) := by decide +kernel
theorem dX12_faultOf_44 : decode cX12_faultOf 44 = .ok (.iload 4, 2) := by decide +kernel
theorem dX12_faultOf_46 : decode cX12_faultOf 46 = .ok (.ifCond .eq 7, 3) := by decide +kernel
theorem dX12_faultOf_53 : decode cX12_faultOf 53 = .ok (.iconst (-1), 1) := by decide +kernel
theorem dX12_faultOf_54 : decode cX12_faultOf 54 = .ok (.aload_n 0, 1) := by decide +kernel
theorem dX12_faultOf_55 : decode cX12_faultOf 55 = .ok (.getfield 141, 3) := by decide +kernel
theorem dX12_faultOf_58 : decode cX12_faultOf 58 = .ok (.isub, 1) := by decide +kernel
theorem dX12_faultOf_59 : decode cX12_faultOf 59 = .ok (.ireturn, 1) := by decide +kernel
theorem dX12_faultOf_49 : decode cX12_faultOf 49 = .ok (.iconst 0, 1) := by decide +kernel
theorem dX12_faultOf_50 : decode cX12_faultOf 50 = .ok (.goto 9, 3) := by decide +kernel
theorem dX12_faultOf_24 : decode cX12_faultOf 24 = .ok (.if_icmp .le 20, 3) := by decide +kernel
theorem dX12_faultOf_27 : decode cX12_faultOf 27 = .ok (.iload 4, 2) := by decide +kernel
theorem dX12_faultOf_29 : decode cX12_faultOf 29 = .ok (.ifCond .ne 11, 3) := by decide +kernel
theorem dX12_faultOf_40 : decode cX12_faultOf 40 = .ok (.iconst (-1), 1) := by decide +kernel
theorem dX12_faultOf_41 : decode cX12_faultOf 41 = .ok (.iload_n 2, 1) := by decide +kernel
theorem dX12_faultOf_42 : decode cX12_faultOf 42 = .ok (.isub, 1) := by decide +kernel
theorem dX12_faultOf_43 : decode cX12_faultOf 43 = .ok (.ireturn, 1) := by decide +kernel
theorem dX12_faultOf_32 : decode cX12_faultOf 32 = .ok (.aload_n 0, 1) := by decide +kernel
theorem dX12_faultOf_33 : decode cX12_faultOf 33 = .ok (.getfield 141, 3) := by decide +kernel
theorem dX12_faultOf_36 : decode cX12_faultOf 36 = .ok (.iload_n 2, 1) := by decide +kernel
theorem dX12_faultOf_37 : decode cX12_faultOf 37 = .ok (.if_icmp .lt 7, 3) := by decide +kernel
theorem dX12_faultOf_19 : decode cX12_faultOf 19 = .ok (.iconst 0, 1) := by decide +kernel
theorem dX12_faultOf_1 : decode cX12_faultOf 1 = .ok (.ifCond .eq 18, 3) := by decide +kernel
theorem dX12_faultOf_4 : decode cX12_faultOf 4 = .ok (.aload_n 0, 1) := by decide +kernel
theorem dX12_faultOf_5 : decode cX12_faultOf 5 = .ok (.getfield 141, 3) := by decide +kernel
theorem dX12_faultOf_8 : decode cX12_faultOf 8 = .ok (.aload_n 0, 1) := by decide +kernel
theorem dX12_faultOf_9 : decode cX12_faultOf 9 = .ok (.getfield 153, 3) := by decide +kernel
theorem dX12_faultOf_12 : decode cX12_faultOf 12 = .ok (.if_icmp .ne 7, 3) := by decide +kernel
theorem dX12_faultOf_15 : decode cX12_faultOf 15 = .ok (.iconst 1, 1) := by decide +kernel
theorem dX12_faultOf_16 : decode cX12_faultOf 16 = .ok (.goto 4, 3) := by decide +kernel
theorem dX12_readsRing_0 : decode cX12_readsRing 0 = .ok (.aload_n 0, 1) := by decide +kernel
theorem dX12_readsRing_1 : decode cX12_readsRing 1 = .ok (.getfield 182, 3) := by decide +kernel
theorem dX12_readsRing_4 : decode cX12_readsRing 4 = .ok (.bipush 8, 2) := by decide +kernel
theorem dX12_readsRing_6 : decode cX12_readsRing 6 = .ok (.if_icmp .ne 5, 3) := by decide +kernel
theorem dX12_readsRing_11 : decode cX12_readsRing 11 = .ok (.iconst 2, 1) := by decide +kernel
theorem dX12_readsRing_12 : decode cX12_readsRing 12 = .ok (.aload_n 0, 1) := by decide +kernel
theorem dX12_readsRing_13 : decode cX12_readsRing 13 = .ok (.getfield 182, 3) := by decide +kernel
theorem dX12_readsRing_16 : decode cX12_readsRing 16 = .ok (.imul, 1) := by decide +kernel
theorem dX12_readsRing_17 : decode cX12_readsRing 17 = .ok (.istore_n 1, 1) := by decide +kernel
theorem dX12_readsRing_18 : decode cX12_readsRing 18 = .ok (.aload_n 0, 1) := by decide +kernel
theorem dX12_readsRing_19 : decode cX12_readsRing 19 = .ok (.getfield 41, 3) := by decide +kernel
theorem dX12_readsRing_22 : decode cX12_readsRing 22 = .ok (.iload_n 1, 1) := by decide +kernel
theorem dX12_readsRing_23 : decode cX12_readsRing 23 = .ok (.aload_n 0, 1) := by decide +kernel
theorem dX12_readsRing_24 : decode cX12_readsRing 24 = .ok (.iconst 1, 1) := by decide +kernel
theorem dX12_readsRing_25 : decode cX12_readsRing 25 = .ok (.invokevirtual 185, 3) := by decide +kernel
theorem dX12_readsRing_28 : decode cX12_readsRing 28 = .ok (.iastore, 1) := by decide +kernel
theorem dX12_readsRing_29 : decode cX12_readsRing 29 = .ok (.aload_n 0, 1) := by decide +kernel
theorem dX12_readsRing_30 : decode cX12_readsRing 30 = .ok (.getfield 41, 3) := by decide +kernel
theorem dX12_readsRing_33 : decode cX12_readsRing 33 = .ok (.iload_n 1, 1) := by decide +kernel
theorem dX12_readsRing_34 : decode cX12_readsRing 34 = .ok (.iconst 1, 1) := by decide +kernel
theorem dX12_readsRing_35 : decode cX12_readsRing 35 = .ok (.iadd, 1) := by decide +kernel
theorem dX12_readsRing_36 : decode cX12_readsRing 36 = .ok (.aload_n 0, 1) := by decide +kernel
theorem dX12_readsRing_37 : decode cX12_readsRing 37 = .ok (.getfield 41, 3) := by decide +kernel
theorem dX12_readsRing_40 : decode cX12_readsRing 40 = .ok (.iload_n 1, 1) := by decide +kernel
theorem dX12_readsRing_41 : decode cX12_readsRing 41 = .ok (.iaload, 1) := by decide +kernel
theorem dX12_readsRing_55 : decode cX12_readsRing 55 = .ok (.iastore, 1) := by decide +kernel
theorem dX12_readsRing_56 : decode cX12_readsRing 56 = .ok (.aload_n 0, 1) := by decide +kernel
theorem dX12_readsRing_57 : decode cX12_readsRing 57 = .ok (.dup, 1) := by decide +kernel
theorem dX12_readsRing_58 : decode cX12_readsRing 58 = .ok (.getfield 182, 3) := by decide +kernel
theorem dX12_readsRing_61 : decode cX12_readsRing 61 = .ok (.iconst 1, 1) := by decide +kernel
theorem dX12_readsRing_62 : decode cX12_readsRing 62 = .ok (.iadd, 1) := by decide +kernel
theorem dX12_readsRing_63 : decode cX12_readsRing 63 = .ok (.putfield 182, 3) := by decide +kernel
theorem dX12_readsRing_66 : decode cX12_readsRing 66 = .ok (.aload_n 0, 1) := by decide +kernel
theorem dX12_readsRing_67 : decode cX12_readsRing 67 = .ok (.getfield 41, 3) := by decide +kernel
theorem dX12_readsRing_70 : decode cX12_readsRing 70 = .ok (.iload_n 1, 1) := by decide +kernel
theorem dX12_readsRing_71 : decode cX12_readsRing 71 = .ok (.iconst 1, 1) := by decide +kernel
theorem dX12_readsRing_72 : decode cX12_readsRing 72 = .ok (.iadd, 1) := by decide +kernel
theorem dX12_readsRing_73 : decode cX12_readsRing 73 = .ok (.iaload, 1) := by decide +kernel
theorem dX12_readsRing_74 : decode cX12_readsRing 74 = .ok (.ifCond .lt 7, 3) := by decide +kernel
theorem dX12_readsRing_81 : decode cX12_readsRing 81 = .ok (.iconst 0, 1) := by decide +kernel
theorem dX12_readsRing_82 : decode cX12_readsRing 82 = .ok (.ireturn, 1) := by decide +kernel
theorem dX12_readsRing_77 : decode cX12_readsRing 77 = .ok (.iconst 1, 1) := by decide +kernel
theorem dX12_readsRing_78 : decode cX12_readsRing 78 = .ok (.goto 4, 3) := by decide +kernel
theorem dX12_readsRing_42 : decode cX12_readsRing 42 = .ok (.ifCond .ge 7, 3) := by decide +kernel
theorem dX12_readsRing_49 : decode cX12_readsRing 49 = .ok (.aload_n 0, 1) := by decide +kernel
theorem dX12_readsRing_50 : decode cX12_readsRing 50 = .ok (.ldc 189, 2) := by decide +kernel
theorem dX12_readsRing_52 : decode cX12_readsRing 52 = .ok (.invokevirtual 191, 3) := by decide +kernel
theorem dX12_readsRing_45 : decode cX12_readsRing 45 = .ok (.iconst (-1), 1) := by decide +kernel
theorem dX12_readsRing_46 : decode cX12_readsRing 46 = .ok (.goto 9, 3) := by decide +kernel
theorem dX12_readsRing_9 : decode cX12_readsRing 9 = .ok (.iconst 0, 1) := by decide +kernel
theorem dX12_readsRing_10 : decode cX12_readsRing 10 = .ok (.ireturn, 1) := by decide +kernel
theorem dX12_tower_0 : decode cX12_tower 0 = .ok (.aload_n 0, 1) := by decide +kernel
theorem dX12_tower_1 : decode cX12_tower 1 = .ok (.iconst 0, 1) := by decide +kernel
theorem dX12_tower_2 : decode cX12_tower 2 = .ok (.putfield 117, 3) := by decide +kernel
theorem dX12_tower_5 : decode cX12_tower 5 = .ok (.aload_n 0, 1) := by decide +kernel
theorem dX12_tower_6 : decode cX12_tower 6 = .ok (.bipush 23, 2) := by decide +kernel
theorem dX12_tower_8 : decode cX12_tower 8 = .ok (.invokevirtual 194, 3) := by decide +kernel
theorem dX12_tower_11 : decode cX12_tower 11 = .ok (.istore_n 1, 1) := by decide +kernel
theorem dX12_tower_12 : decode cX12_tower 12 = .ok (.aload_n 0, 1) := by decide +kernel
theorem dX12_tower_13 : decode cX12_tower 13 = .ok (.iconst 0, 1) := by decide +kernel
theorem dX12_tower_14 : decode cX12_tower 14 = .ok (.putfield 182, 3) := by decide +kernel
theorem dX12_tower_17 : decode cX12_tower 17 = .ok (.iconst 1, 1) := by decide +kernel
theorem dX12_tower_18 : decode cX12_tower 18 = .ok (.istore_n 2, 1) := by decide +kernel
theorem dX12_tower_19 : decode cX12_tower 19 = .ok (.iload_n 1, 1) := by decide +kernel
theorem dX12_tower_28 : decode cX12_tower 28 = .ok (.istore_n 3, 1) := by decide +kernel
theorem dX12_tower_29 : decode cX12_tower 29 = .ok (.iload_n 3, 1) := by decide +kernel
theorem dX12_tower_30 : decode cX12_tower 30 = .ok (.ifCond .eq 30, 3) := by decide +kernel
theorem dX12_tower_33 : decode cX12_tower 33 = .ok (.aload_n 0, 1) := by decide +kernel
theorem dX12_tower_34 : decode cX12_tower 34 = .ok (.invokevirtual 197, 3) := by decide +kernel
theorem dX12_tower_37 : decode cX12_tower 37 = .ok (.istore_n 2, 1) := by decide +kernel
theorem dX12_tower_38 : decode cX12_tower 38 = .ok (.iload_n 2, 1) := by decide +kernel
theorem dX12_tower_56 : decode cX12_tower 56 = .ok (.istore_n 3, 1) := by decide +kernel
theorem dX12_tower_57 : decode cX12_tower 57 = .ok (.goto (-28), 3) := by decide +kernel
theorem dX12_tower_55 : decode cX12_tower 55 = .ok (.iconst 0, 1) := by decide +kernel
theorem dX12_tower_39 : decode cX12_tower 39 = .ok (.ifCond .eq 16, 3) := by decide +kernel
theorem dX12_tower_42 : decode cX12_tower 42 = .ok (.aload_n 0, 1) := by decide +kernel
theorem dX12_tower_43 : decode cX12_tower 43 = .ok (.bipush 59, 2) := by decide +kernel
theorem dX12_tower_45 : decode cX12_tower 45 = .ok (.invokevirtual 200, 3) := by decide +kernel
theorem dX12_tower_48 : decode cX12_tower 48 = .ok (.ifCond .eq 7, 3) := by decide +kernel
theorem dX12_tower_51 : decode cX12_tower 51 = .ok (.iconst 1, 1) := by decide +kernel
theorem dX12_tower_52 : decode cX12_tower 52 = .ok (.goto 4, 3) := by decide +kernel
theorem dX12_tower_60 : decode cX12_tower 60 = .ok (.aload_n 0, 1) := by decide +kernel
theorem dX12_tower_61 : decode cX12_tower 61 = .ok (.iload_n 1, 1) := by decide +kernel
theorem dX12_tower_62 : decode cX12_tower 62 = .ok (.bipush 23, 2) := by decide +kernel
theorem dX12_tower_64 : decode cX12_tower 64 = .ok (.iload_n 2, 1) := by decide +kernel
theorem dX12_tower_65 : decode cX12_tower 65 = .ok (.invokevirtual 204, 3) := by decide +kernel
theorem dX12_tower_68 : decode cX12_tower 68 = .ok (.istore 4, 2) := by decide +kernel
theorem dX12_tower_70 : decode cX12_tower 70 = .ok (.iload 4, 2) := by decide +kernel
theorem dX12_tower_72 : decode cX12_tower 72 = .ok (.ifCond .ge 6, 3) := by decide +kernel
theorem dX12_tower_78 : decode cX12_tower 78 = .ok (.aload_n 0, 1) := by decide +kernel
theorem dX12_tower_79 : decode cX12_tower 79 = .ok (.aload_n 0, 1) := by decide +kernel
theorem dX12_tower_80 : decode cX12_tower 80 = .ok (.getfield 182, 3) := by decide +kernel
theorem dX12_tower_83 : decode cX12_tower 83 = .ok (.putfield 128, 3) := by decide +kernel
theorem dX12_tower_86 : decode cX12_tower 86 = .ok (.iconst 0, 1) := by decide +kernel
theorem dX12_tower_87 : decode cX12_tower 87 = .ok (.istore 5, 2) := by decide +kernel
theorem dX12_tower_89 : decode cX12_tower 89 = .ok (.iload 5, 2) := by decide +kernel
theorem dX12_tower_91 : decode cX12_tower 91 = .ok (.aload_n 0, 1) := by decide +kernel
theorem dX12_tower_92 : decode cX12_tower 92 = .ok (.getfield 128, 3) := by decide +kernel
theorem dX12_tower_95 : decode cX12_tower 95 = .ok (.if_icmp .ge 43, 3) := by decide +kernel
theorem dX12_tower_98 : decode cX12_tower 98 = .ok (.aload_n 0, 1) := by decide +kernel
theorem dX12_tower_99 : decode cX12_tower 99 = .ok (.getfield 13, 3) := by decide +kernel
theorem dX12_tower_102 : decode cX12_tower 102 = .ok (.iload 5, 2) := by decide +kernel
theorem dX12_tower_104 : decode cX12_tower 104 = .ok (.aload_n 0, 1) := by decide +kernel
theorem dX12_tower_105 : decode cX12_tower 105 = .ok (.getfield 41, 3) := by decide +kernel
theorem dX12_tower_108 : decode cX12_tower 108 = .ok (.iconst 2, 1) := by decide +kernel
theorem dX12_tower_109 : decode cX12_tower 109 = .ok (.iload 5, 2) := by decide +kernel
theorem dX12_tower_111 : decode cX12_tower 111 = .ok (.imul, 1) := by decide +kernel
theorem dX12_tower_112 : decode cX12_tower 112 = .ok (.iaload, 1) := by decide +kernel
theorem dX12_tower_113 : decode cX12_tower 113 = .ok (.iastore, 1) := by decide +kernel
theorem dX12_tower_114 : decode cX12_tower 114 = .ok (.aload_n 0, 1) := by decide +kernel
theorem dX12_tower_115 : decode cX12_tower 115 = .ok (.getfield 17, 3) := by decide +kernel
theorem dX12_tower_118 : decode cX12_tower 118 = .ok (.iload 5, 2) := by decide +kernel
theorem dX12_tower_120 : decode cX12_tower 120 = .ok (.aload_n 0, 1) := by decide +kernel
theorem dX12_tower_121 : decode cX12_tower 121 = .ok (.getfield 41, 3) := by decide +kernel
theorem dX12_tower_124 : decode cX12_tower 124 = .ok (.iconst 2, 1) := by decide +kernel
theorem dX12_tower_125 : decode cX12_tower 125 = .ok (.iload 5, 2) := by decide +kernel
theorem dX12_tower_127 : decode cX12_tower 127 = .ok (.imul, 1) := by decide +kernel
theorem dX12_tower_128 : decode cX12_tower 128 = .ok (.iconst 1, 1) := by decide +kernel
theorem dX12_tower_129 : decode cX12_tower 129 = .ok (.iadd, 1) := by decide +kernel
theorem dX12_tower_130 : decode cX12_tower 130 = .ok (.iaload, 1) := by decide +kernel
theorem dX12_tower_131 : decode cX12_tower 131 = .ok (.iastore, 1) := by decide +kernel
theorem dX12_tower_132 : decode cX12_tower 132 = .ok (.iinc 5 1, 3) := by decide +kernel
theorem dX12_tower_135 : decode cX12_tower 135 = .ok (.goto (-46), 3) := by decide +kernel
theorem dX12_tower_138 : decode cX12_tower 138 = .ok (.aload_n 0, 1) := by decide +kernel
theorem dX12_tower_139 : decode cX12_tower 139 = .ok (.iconst 0, 1) := by decide +kernel
theorem dX12_tower_140 : decode cX12_tower 140 = .ok (.putfield 135, 3) := by decide +kernel
theorem dX12_tower_143 : decode cX12_tower 143 = .ok (.aload_n 0, 1) := by decide +kernel
theorem dX12_tower_144 : decode cX12_tower 144 = .ok (.getfield 32, 3) := by decide +kernel
theorem dX12_tower_147 : decode cX12_tower 147 = .ok (.bipush 42, 2) := by decide +kernel
theorem dX12_tower_149 : decode cX12_tower 149 = .ok (.iconst 0, 1) := by decide +kernel
theorem dX12_tower_150 : decode cX12_tower 150 = .ok (.iastore, 1) := by decide +kernel
theorem dX12_tower_151 : decode cX12_tower 151 = .ok (.aload_n 0, 1) := by decide +kernel
theorem dX12_tower_152 : decode cX12_tower 152 = .ok (.iconst 0, 1) := by decide +kernel
theorem dX12_tower_153 : decode cX12_tower 153 = .ok (.putfield 208, 3) := by decide +kernel
theorem dX12_tower_156 : decode cX12_tower 156 = .ok (.aload_n 0, 1) := by decide +kernel
theorem dX12_tower_157 : decode cX12_tower 157 = .ok (.iconst 0, 1) := by decide +kernel
theorem dX12_tower_158 : decode cX12_tower 158 = .ok (.putfield 211, 3) := by decide +kernel
theorem dX12_tower_161 : decode cX12_tower 161 = .ok (.aload_n 0, 1) := by decide +kernel
theorem dX12_tower_162 : decode cX12_tower 162 = .ok (.dup, 1) := by decide +kernel
theorem dX12_tower_163 : decode cX12_tower 163 = .ok (.getfield 214, 3) := by decide +kernel
theorem dX12_tower_166 : decode cX12_tower 166 = .ok (.iconst 1, 1) := by decide +kernel
theorem dX12_tower_167 : decode cX12_tower 167 = .ok (.iadd, 1) := by decide +kernel
theorem dX12_tower_168 : decode cX12_tower 168 = .ok (.putfield 214, 3) := by decide +kernel
theorem dX12_tower_171 : decode cX12_tower 171 = .ok (.aload_n 0, 1) := by decide +kernel
theorem dX12_tower_172 : decode cX12_tower 172 = .ok (.getfield 128, 3) := by decide +kernel
theorem dX12_tower_175 : decode cX12_tower 175 = .ok (.ireturn, 1) := by decide +kernel
theorem dX12_tower_75 : decode cX12_tower 75 = .ok (.iload 4, 2) := by decide +kernel
theorem dX12_tower_77 : decode cX12_tower 77 = .ok (.ireturn, 1) := by decide +kernel
theorem dX12_tower_20 : decode cX12_tower 20 = .ok (.ifCond .le 7, 3) := by decide +kernel
theorem dX12_tower_27 : decode cX12_tower 27 = .ok (.iconst 0, 1) := by decide +kernel
theorem dX12_tower_23 : decode cX12_tower 23 = .ok (.iconst 1, 1) := by decide +kernel
theorem dX12_tower_24 : decode cX12_tower 24 = .ok (.goto 4, 3) := by decide +kernel
theorem dX12_readsBalloon_0 : decode cX12_readsBalloon 0 = .ok (.aload_n 0, 1) := by decide +kernel
theorem dX12_readsBalloon_1 : decode cX12_readsBalloon 1 = .ok (.getfield 135, 3) := by decide +kernel
theorem dX12_readsBalloon_4 : decode cX12_readsBalloon 4 = .ok (.aload_n 0, 1) := by decide +kernel
theorem dX12_readsBalloon_5 : decode cX12_readsBalloon 5 = .ok (.getfield 182, 3) := by decide +kernel
theorem dX12_readsBalloon_8 : decode cX12_readsBalloon 8 = .ok (.iadd, 1) := by decide +kernel
theorem dX12_readsBalloon_9 : decode cX12_readsBalloon 9 = .ok (.bipush 6, 2) := by decide +kernel
theorem dX12_readsBalloon_11 : decode cX12_readsBalloon 11 = .ok (.if_icmp .ne 5, 3) := by decide +kernel
theorem dX12_readsBalloon_16 : decode cX12_readsBalloon 16 = .ok (.iconst 5, 1) := by decide +kernel
theorem dX12_readsBalloon_17 : decode cX12_readsBalloon 17 = .ok (.aload_n 0, 1) := by decide +kernel
theorem dX12_readsBalloon_18 : decode cX12_readsBalloon 18 = .ok (.getfield 182, 3) := by decide +kernel
theorem dX12_readsBalloon_21 : decode cX12_readsBalloon 21 = .ok (.imul, 1) := by decide +kernel
theorem dX12_readsBalloon_22 : decode cX12_readsBalloon 22 = .ok (.istore_n 1, 1) := by decide +kernel
theorem dX12_readsBalloon_23 : decode cX12_readsBalloon 23 = .ok (.aload_n 0, 1) := by decide +kernel
theorem dX12_readsBalloon_24 : decode cX12_readsBalloon 24 = .ok (.getfield 41, 3) := by decide +kernel
theorem dX12_readsBalloon_27 : decode cX12_readsBalloon 27 = .ok (.iload_n 1, 1) := by decide +kernel
theorem dX12_readsBalloon_28 : decode cX12_readsBalloon 28 = .ok (.aload_n 0, 1) := by decide +kernel
theorem dX12_readsBalloon_29 : decode cX12_readsBalloon 29 = .ok (.iconst 2, 1) := by decide +kernel
theorem dX12_readsBalloon_30 : decode cX12_readsBalloon 30 = .ok (.invokevirtual 185, 3) := by decide +kernel
theorem dX12_readsBalloon_33 : decode cX12_readsBalloon 33 = .ok (.iastore, 1) := by decide +kernel
theorem dX12_readsBalloon_34 : decode cX12_readsBalloon 34 = .ok (.aload_n 0, 1) := by decide +kernel
theorem dX12_readsBalloon_35 : decode cX12_readsBalloon 35 = .ok (.getfield 41, 3) := by decide +kernel
theorem dX12_readsBalloon_38 : decode cX12_readsBalloon 38 = .ok (.iload_n 1, 1) := by decide +kernel
theorem dX12_readsBalloon_39 : decode cX12_readsBalloon 39 = .ok (.iaload, 1) := by decide +kernel
theorem dX12_readsBalloon_40 : decode cX12_readsBalloon 40 = .ok (.ifCond .lt 12, 3) := by decide +kernel
theorem dX12_readsBalloon_52 : decode cX12_readsBalloon 52 = .ok (.iconst 0, 1) := by decide +kernel
theorem dX12_readsBalloon_53 : decode cX12_readsBalloon 53 = .ok (.ireturn, 1) := by decide +kernel
theorem dX12_readsBalloon_43 : decode cX12_readsBalloon 43 = .ok (.aload_n 0, 1) := by decide +kernel
theorem dX12_readsBalloon_44 : decode cX12_readsBalloon 44 = .ok (.bipush 44, 2) := by decide +kernel
theorem dX12_readsBalloon_46 : decode cX12_readsBalloon 46 = .ok (.invokevirtual 200, 3) := by decide +kernel
theorem dX12_readsBalloon_49 : decode cX12_readsBalloon 49 = .ok (.ifCond .ne 5, 3) := by decide +kernel
theorem dX12_readsBalloon_54 : decode cX12_readsBalloon 54 = .ok (.aload_n 0, 1) := by decide +kernel
theorem dX12_readsBalloon_55 : decode cX12_readsBalloon 55 = .ok (.getfield 41, 3) := by decide +kernel
theorem dX12_readsBalloon_58 : decode cX12_readsBalloon 58 = .ok (.iload_n 1, 1) := by decide +kernel
theorem dX12_readsBalloon_59 : decode cX12_readsBalloon 59 = .ok (.iconst 1, 1) := by decide +kernel
theorem dX12_readsBalloon_60 : decode cX12_readsBalloon 60 = .ok (.iadd, 1) := by decide +kernel
theorem dX12_readsBalloon_61 : decode cX12_readsBalloon 61 = .ok (.aload_n 0, 1) := by decide +kernel
theorem dX12_readsBalloon_62 : decode cX12_readsBalloon 62 = .ok (.iconst 1, 1) := by decide +kernel
theorem dX12_readsBalloon_63 : decode cX12_readsBalloon 63 = .ok (.invokevirtual 185, 3) := by decide +kernel
theorem dX12_readsBalloon_66 : decode cX12_readsBalloon 66 = .ok (.iastore, 1) := by decide +kernel
theorem dX12_readsBalloon_67 : decode cX12_readsBalloon 67 = .ok (.aload_n 0, 1) := by decide +kernel
theorem dX12_readsBalloon_68 : decode cX12_readsBalloon 68 = .ok (.getfield 41, 3) := by decide +kernel
theorem dX12_readsBalloon_71 : decode cX12_readsBalloon 71 = .ok (.iload_n 1, 1) := by decide +kernel
theorem dX12_readsBalloon_72 : decode cX12_readsBalloon 72 = .ok (.iconst 2, 1) := by decide +kernel
theorem dX12_readsBalloon_73 : decode cX12_readsBalloon 73 = .ok (.iadd, 1) := by decide +kernel
theorem dX12_readsBalloon_74 : decode cX12_readsBalloon 74 = .ok (.aload_n 0, 1) := by decide +kernel
theorem dX12_readsBalloon_75 : decode cX12_readsBalloon 75 = .ok (.getfield 41, 3) := by decide +kernel
theorem dX12_readsBalloon_78 : decode cX12_readsBalloon 78 = .ok (.iload_n 1, 1) := by decide +kernel
theorem dX12_readsBalloon_79 : decode cX12_readsBalloon 79 = .ok (.iconst 1, 1) := by decide +kernel
theorem dX12_readsBalloon_80 : decode cX12_readsBalloon 80 = .ok (.iadd, 1) := by decide +kernel
theorem dX12_readsBalloon_81 : decode cX12_readsBalloon 81 = .ok (.iaload, 1) := by decide +kernel
theorem dX12_readsBalloon_94 : decode cX12_readsBalloon 94 = .ok (.iastore, 1) := by decide +kernel
theorem dX12_readsBalloon_95 : decode cX12_readsBalloon 95 = .ok (.aload_n 0, 1) := by decide +kernel
theorem dX12_readsBalloon_96 : decode cX12_readsBalloon 96 = .ok (.getfield 41, 3) := by decide +kernel
theorem dX12_readsBalloon_99 : decode cX12_readsBalloon 99 = .ok (.iload_n 1, 1) := by decide +kernel
theorem dX12_readsBalloon_100 : decode cX12_readsBalloon 100 = .ok (.iconst 3, 1) := by decide +kernel
theorem dX12_readsBalloon_101 : decode cX12_readsBalloon 101 = .ok (.iadd, 1) := by decide +kernel
theorem dX12_readsBalloon_102 : decode cX12_readsBalloon 102 = .ok (.aload_n 0, 1) := by decide +kernel
theorem dX12_readsBalloon_103 : decode cX12_readsBalloon 103 = .ok (.getfield 41, 3) := by decide +kernel
theorem dX12_readsBalloon_106 : decode cX12_readsBalloon 106 = .ok (.iload_n 1, 1) := by decide +kernel
theorem dX12_readsBalloon_107 : decode cX12_readsBalloon 107 = .ok (.iconst 2, 1) := by decide +kernel
theorem dX12_readsBalloon_108 : decode cX12_readsBalloon 108 = .ok (.iadd, 1) := by decide +kernel
theorem dX12_readsBalloon_109 : decode cX12_readsBalloon 109 = .ok (.iaload, 1) := by decide +kernel
theorem dX12_readsBalloon_125 : decode cX12_readsBalloon 125 = .ok (.iastore, 1) := by decide +kernel
theorem dX12_readsBalloon_126 : decode cX12_readsBalloon 126 = .ok (.aload_n 0, 1) := by decide +kernel
theorem dX12_readsBalloon_127 : decode cX12_readsBalloon 127 = .ok (.getfield 41, 3) := by decide +kernel
theorem dX12_readsBalloon_130 : decode cX12_readsBalloon 130 = .ok (.iload_n 1, 1) := by decide +kernel
theorem dX12_readsBalloon_131 : decode cX12_readsBalloon 131 = .ok (.iconst 4, 1) := by decide +kernel
theorem dX12_readsBalloon_132 : decode cX12_readsBalloon 132 = .ok (.iadd, 1) := by decide +kernel
theorem dX12_readsBalloon_133 : decode cX12_readsBalloon 133 = .ok (.aload_n 0, 1) := by decide +kernel
theorem dX12_readsBalloon_134 : decode cX12_readsBalloon 134 = .ok (.getfield 41, 3) := by decide +kernel
theorem dX12_readsBalloon_137 : decode cX12_readsBalloon 137 = .ok (.iload_n 1, 1) := by decide +kernel
theorem dX12_readsBalloon_138 : decode cX12_readsBalloon 138 = .ok (.iconst 3, 1) := by decide +kernel
theorem dX12_readsBalloon_139 : decode cX12_readsBalloon 139 = .ok (.iadd, 1) := by decide +kernel
theorem dX12_readsBalloon_140 : decode cX12_readsBalloon 140 = .ok (.iaload, 1) := by decide +kernel
theorem dX12_readsBalloon_141 : decode cX12_readsBalloon 141 = .ok (.iconst 1, 1) := by decide +kernel
theorem dX12_readsBalloon_154 : decode cX12_readsBalloon 154 = .ok (.iastore, 1) := by decide +kernel
theorem dX12_readsBalloon_155 : decode cX12_readsBalloon 155 = .ok (.aload_n 0, 1) := by decide +kernel
theorem dX12_readsBalloon_156 : decode cX12_readsBalloon 156 = .ok (.dup, 1) := by decide +kernel
theorem dX12_readsBalloon_157 : decode cX12_readsBalloon 157 = .ok (.getfield 182, 3) := by decide +kernel
theorem dX12_readsBalloon_160 : decode cX12_readsBalloon 160 = .ok (.iconst 1, 1) := by decide +kernel
theorem dX12_readsBalloon_161 : decode cX12_readsBalloon 161 = .ok (.iadd, 1) := by decide +kernel
theorem dX12_readsBalloon_162 : decode cX12_readsBalloon 162 = .ok (.putfield 182, 3) := by decide +kernel
theorem dX12_readsBalloon_165 : decode cX12_readsBalloon 165 = .ok (.aload_n 0, 1) := by decide +kernel
theorem dX12_readsBalloon_166 : decode cX12_readsBalloon 166 = .ok (.getfield 41, 3) := by decide +kernel
theorem dX12_readsBalloon_169 : decode cX12_readsBalloon 169 = .ok (.iload_n 1, 1) := by decide +kernel
theorem dX12_readsBalloon_170 : decode cX12_readsBalloon 170 = .ok (.iconst 4, 1) := by decide +kernel
theorem dX12_readsBalloon_171 : decode cX12_readsBalloon 171 = .ok (.iadd, 1) := by decide +kernel
theorem dX12_readsBalloon_172 : decode cX12_readsBalloon 172 = .ok (.iaload, 1) := by decide +kernel
theorem dX12_readsBalloon_173 : decode cX12_readsBalloon 173 = .ok (.ifCond .lt 7, 3) := by decide +kernel
theorem dX12_readsBalloon_180 : decode cX12_readsBalloon 180 = .ok (.iconst 0, 1) := by decide +kernel
theorem dX12_readsBalloon_181 : decode cX12_readsBalloon 181 = .ok (.ireturn, 1) := by decide +kernel
theorem dX12_readsBalloon_176 : decode cX12_readsBalloon 176 = .ok (.iconst 1, 1) := by decide +kernel
theorem dX12_readsBalloon_177 : decode cX12_readsBalloon 177 = .ok (.goto 4, 3) := by decide +kernel
theorem dX12_readsBalloon_142 : decode cX12_readsBalloon 142 = .ok (.if_icmp .ge 7, 3) := by decide +kernel
theorem dX12_readsBalloon_149 : decode cX12_readsBalloon 149 = .ok (.aload_n 0, 1) := by decide +kernel
theorem dX12_readsBalloon_150 : decode cX12_readsBalloon 150 = .ok (.iconst 1, 1) := by decide +kernel
theorem dX12_readsBalloon_151 : decode cX12_readsBalloon 151 = .ok (.invokevirtual 185, 3) := by decide +kernel
theorem dX12_readsBalloon_145 : decode cX12_readsBalloon 145 = .ok (.iconst (-1), 1) := by decide +kernel
theorem dX12_readsBalloon_146 : decode cX12_readsBalloon 146 = .ok (.goto 8, 3) := by decide +kernel
theorem dX12_readsBalloon_110 : decode cX12_readsBalloon 110 = .ok (.ifCond .ge 7, 3) := by decide +kernel
theorem dX12_readsBalloon_117 : decode cX12_readsBalloon 117 = .ok (.iconst 1, 1) := by decide +kernel
theorem dX12_readsBalloon_118 : decode cX12_readsBalloon 118 = .ok (.aload_n 0, 1) := by decide +kernel
theorem dX12_readsBalloon_119 : decode cX12_readsBalloon 119 = .ok (.ldc 217, 2) := by decide +kernel
theorem dX12_readsBalloon_121 : decode cX12_readsBalloon 121 = .ok (.invokevirtual 191, 3) := by decide +kernel
theorem dX12_readsBalloon_124 : decode cX12_readsBalloon 124 = .ok (.iadd, 1) := by decide +kernel
theorem dX12_readsBalloon_113 : decode cX12_readsBalloon 113 = .ok (.iconst 0, 1) := by decide +kernel
theorem dX12_readsBalloon_114 : decode cX12_readsBalloon 114 = .ok (.goto 11, 3) := by decide +kernel
theorem dX12_readsBalloon_82 : decode cX12_readsBalloon 82 = .ok (.ifCond .ge 7, 3) := by decide +kernel
theorem dX12_readsBalloon_89 : decode cX12_readsBalloon 89 = .ok (.aload_n 0, 1) := by decide +kernel
theorem dX12_readsBalloon_90 : decode cX12_readsBalloon 90 = .ok (.iconst 1, 1) := by decide +kernel
theorem dX12_readsBalloon_91 : decode cX12_readsBalloon 91 = .ok (.invokevirtual 185, 3) := by decide +kernel
theorem dX12_readsBalloon_85 : decode cX12_readsBalloon 85 = .ok (.iconst (-1), 1) := by decide +kernel
theorem dX12_readsBalloon_86 : decode cX12_readsBalloon 86 = .ok (.goto 8, 3) := by decide +kernel
theorem dX12_readsBalloon_14 : decode cX12_readsBalloon 14 = .ok (.iconst 0, 1) := by decide +kernel
theorem dX12_readsBalloon_15 : decode cX12_readsBalloon 15 = .ok (.ireturn, 1) := by decide +kernel
theorem dX12_balloons_0 : decode cX12_balloons 0 = .ok (.aload_n 0, 1) := by decide +kernel
theorem dX12_balloons_1 : decode cX12_balloons 1 = .ok (.iconst 0, 1) := by decide +kernel
theorem dX12_balloons_2 : decode cX12_balloons 2 = .ok (.putfield 117, 3) := by decide +kernel
theorem dX12_balloons_5 : decode cX12_balloons 5 = .ok (.aload_n 0, 1) := by decide +kernel
theorem dX12_balloons_6 : decode cX12_balloons 6 = .ok (.bipush 47, 2) := by decide +kernel
theorem dX12_balloons_8 : decode cX12_balloons 8 = .ok (.invokevirtual 194, 3) := by decide +kernel
theorem dX12_balloons_11 : decode cX12_balloons 11 = .ok (.istore_n 1, 1) := by decide +kernel
theorem dX12_balloons_12 : decode cX12_balloons 12 = .ok (.aload_n 0, 1) := by decide +kernel
theorem dX12_balloons_13 : decode cX12_balloons 13 = .ok (.iconst 0, 1) := by decide +kernel
theorem dX12_balloons_14 : decode cX12_balloons 14 = .ok (.putfield 182, 3) := by decide +kernel
theorem dX12_balloons_17 : decode cX12_balloons 17 = .ok (.iconst 1, 1) := by decide +kernel
theorem dX12_balloons_18 : decode cX12_balloons 18 = .ok (.istore_n 2, 1) := by decide +kernel
theorem dX12_balloons_19 : decode cX12_balloons 19 = .ok (.iload_n 1, 1) := by decide +kernel
theorem dX12_balloons_28 : decode cX12_balloons 28 = .ok (.istore_n 3, 1) := by decide +kernel
theorem dX12_balloons_29 : decode cX12_balloons 29 = .ok (.iload_n 3, 1) := by decide +kernel
theorem dX12_balloons_30 : decode cX12_balloons 30 = .ok (.ifCond .eq 30, 3) := by decide +kernel
theorem dX12_balloons_33 : decode cX12_balloons 33 = .ok (.aload_n 0, 1) := by decide +kernel
theorem dX12_balloons_34 : decode cX12_balloons 34 = .ok (.invokevirtual 219, 3) := by decide +kernel
theorem dX12_balloons_37 : decode cX12_balloons 37 = .ok (.istore_n 2, 1) := by decide +kernel
theorem dX12_balloons_38 : decode cX12_balloons 38 = .ok (.iload_n 2, 1) := by decide +kernel
theorem dX12_balloons_56 : decode cX12_balloons 56 = .ok (.istore_n 3, 1) := by decide +kernel
theorem dX12_balloons_57 : decode cX12_balloons 57 = .ok (.goto (-28), 3) := by decide +kernel
theorem dX12_balloons_55 : decode cX12_balloons 55 = .ok (.iconst 0, 1) := by decide +kernel
theorem dX12_balloons_39 : decode cX12_balloons 39 = .ok (.ifCond .eq 16, 3) := by decide +kernel
theorem dX12_balloons_42 : decode cX12_balloons 42 = .ok (.aload_n 0, 1) := by decide +kernel
theorem dX12_balloons_43 : decode cX12_balloons 43 = .ok (.bipush 59, 2) := by decide +kernel
theorem dX12_balloons_45 : decode cX12_balloons 45 = .ok (.invokevirtual 200, 3) := by decide +kernel
theorem dX12_balloons_48 : decode cX12_balloons 48 = .ok (.ifCond .eq 7, 3) := by decide +kernel
theorem dX12_balloons_51 : decode cX12_balloons 51 = .ok (.iconst 1, 1) := by decide +kernel
theorem dX12_balloons_52 : decode cX12_balloons 52 = .ok (.goto 4, 3) := by decide +kernel
theorem dX12_balloons_60 : decode cX12_balloons 60 = .ok (.aload_n 0, 1) := by decide +kernel
theorem dX12_balloons_61 : decode cX12_balloons 61 = .ok (.iload_n 1, 1) := by decide +kernel
theorem dX12_balloons_62 : decode cX12_balloons 62 = .ok (.bipush 47, 2) := by decide +kernel
theorem dX12_balloons_64 : decode cX12_balloons 64 = .ok (.iload_n 2, 1) := by decide +kernel
theorem dX12_balloons_65 : decode cX12_balloons 65 = .ok (.invokevirtual 204, 3) := by decide +kernel
theorem dX12_balloons_68 : decode cX12_balloons 68 = .ok (.istore 4, 2) := by decide +kernel
theorem dX12_balloons_70 : decode cX12_balloons 70 = .ok (.iload 4, 2) := by decide +kernel
theorem dX12_balloons_72 : decode cX12_balloons 72 = .ok (.ifCond .ge 6, 3) := by decide +kernel
theorem dX12_balloons_78 : decode cX12_balloons 78 = .ok (.iconst 0, 1) := by decide +kernel
theorem dX12_balloons_79 : decode cX12_balloons 79 = .ok (.istore 5, 2) := by decide +kernel
theorem dX12_balloons_81 : decode cX12_balloons 81 = .ok (.iload 5, 2) := by decide +kernel
theorem dX12_balloons_83 : decode cX12_balloons 83 = .ok (.aload_n 0, 1) := by decide +kernel
theorem dX12_balloons_84 : decode cX12_balloons 84 = .ok (.getfield 182, 3) := by decide +kernel
theorem dX12_balloons_87 : decode cX12_balloons 87 = .ok (.if_icmp .ge 154, 3) := by decide +kernel
theorem dX12_balloons_90 : decode cX12_balloons 90 = .ok (.aload_n 0, 1) := by decide +kernel
theorem dX12_balloons_91 : decode cX12_balloons 91 = .ok (.getfield 135, 3) := by decide +kernel
theorem dX12_balloons_94 : decode cX12_balloons 94 = .ok (.istore 6, 2) := by decide +kernel
theorem dX12_balloons_96 : decode cX12_balloons 96 = .ok (.aload_n 0, 1) := by decide +kernel
theorem dX12_balloons_97 : decode cX12_balloons 97 = .ok (.getfield 32, 3) := by decide +kernel
theorem dX12_balloons_100 : decode cX12_balloons 100 = .ok (.bipush 7, 2) := by decide +kernel
theorem dX12_balloons_102 : decode cX12_balloons 102 = .ok (.iload 6, 2) := by decide +kernel
theorem dX12_balloons_104 : decode cX12_balloons 104 = .ok (.imul, 1) := by decide +kernel
theorem dX12_balloons_105 : decode cX12_balloons 105 = .ok (.iconst 0, 1) := by decide +kernel
theorem dX12_balloons_106 : decode cX12_balloons 106 = .ok (.iadd, 1) := by decide +kernel
theorem dX12_balloons_107 : decode cX12_balloons 107 = .ok (.aload_n 0, 1) := by decide +kernel
theorem dX12_balloons_108 : decode cX12_balloons 108 = .ok (.getfield 41, 3) := by decide +kernel
theorem dX12_balloons_111 : decode cX12_balloons 111 = .ok (.iconst 5, 1) := by decide +kernel
theorem dX12_balloons_112 : decode cX12_balloons 112 = .ok (.iload 5, 2) := by decide +kernel
theorem dX12_balloons_114 : decode cX12_balloons 114 = .ok (.imul, 1) := by decide +kernel
theorem dX12_balloons_115 : decode cX12_balloons 115 = .ok (.iaload, 1) := by decide +kernel
theorem dX12_balloons_116 : decode cX12_balloons 116 = .ok (.iastore, 1) := by decide +kernel
theorem dX12_balloons_117 : decode cX12_balloons 117 = .ok (.aload_n 0, 1) := by decide +kernel
theorem dX12_balloons_118 : decode cX12_balloons 118 = .ok (.getfield 32, 3) := by decide +kernel
theorem dX12_balloons_121 : decode cX12_balloons 121 = .ok (.bipush 7, 2) := by decide +kernel
theorem dX12_balloons_123 : decode cX12_balloons 123 = .ok (.iload 6, 2) := by decide +kernel
theorem dX12_balloons_125 : decode cX12_balloons 125 = .ok (.imul, 1) := by decide +kernel
theorem dX12_balloons_126 : decode cX12_balloons 126 = .ok (.iconst 1, 1) := by decide +kernel
theorem dX12_balloons_127 : decode cX12_balloons 127 = .ok (.iadd, 1) := by decide +kernel
theorem dX12_balloons_128 : decode cX12_balloons 128 = .ok (.aload_n 0, 1) := by decide +kernel
theorem dX12_balloons_129 : decode cX12_balloons 129 = .ok (.getfield 41, 3) := by decide +kernel
theorem dX12_balloons_132 : decode cX12_balloons 132 = .ok (.iconst 5, 1) := by decide +kernel
theorem dX12_balloons_133 : decode cX12_balloons 133 = .ok (.iload 5, 2) := by decide +kernel
theorem dX12_balloons_135 : decode cX12_balloons 135 = .ok (.imul, 1) := by decide +kernel
theorem dX12_balloons_136 : decode cX12_balloons 136 = .ok (.iconst 1, 1) := by decide +kernel
theorem dX12_balloons_137 : decode cX12_balloons 137 = .ok (.iadd, 1) := by decide +kernel
theorem dX12_balloons_138 : decode cX12_balloons 138 = .ok (.iaload, 1) := by decide +kernel
theorem dX12_balloons_139 : decode cX12_balloons 139 = .ok (.iastore, 1) := by decide +kernel
theorem dX12_balloons_140 : decode cX12_balloons 140 = .ok (.aload_n 0, 1) := by decide +kernel
theorem dX12_balloons_141 : decode cX12_balloons 141 = .ok (.getfield 32, 3) := by decide +kernel
theorem dX12_balloons_144 : decode cX12_balloons 144 = .ok (.bipush 7, 2) := by decide +kernel
theorem dX12_balloons_146 : decode cX12_balloons 146 = .ok (.iload 6, 2) := by decide +kernel
theorem dX12_balloons_148 : decode cX12_balloons 148 = .ok (.imul, 1) := by decide +kernel
theorem dX12_balloons_149 : decode cX12_balloons 149 = .ok (.iconst 2, 1) := by decide +kernel
theorem dX12_balloons_150 : decode cX12_balloons 150 = .ok (.iadd, 1) := by decide +kernel
theorem dX12_balloons_151 : decode cX12_balloons 151 = .ok (.aload_n 0, 1) := by decide +kernel
theorem dX12_balloons_152 : decode cX12_balloons 152 = .ok (.getfield 41, 3) := by decide +kernel
theorem dX12_balloons_155 : decode cX12_balloons 155 = .ok (.iconst 5, 1) := by decide +kernel
theorem dX12_balloons_156 : decode cX12_balloons 156 = .ok (.iload 5, 2) := by decide +kernel
theorem dX12_balloons_158 : decode cX12_balloons 158 = .ok (.imul, 1) := by decide +kernel
theorem dX12_balloons_159 : decode cX12_balloons 159 = .ok (.iconst 2, 1) := by decide +kernel
theorem dX12_balloons_160 : decode cX12_balloons 160 = .ok (.iadd, 1) := by decide +kernel
theorem dX12_balloons_161 : decode cX12_balloons 161 = .ok (.iaload, 1) := by decide +kernel
theorem dX12_balloons_162 : decode cX12_balloons 162 = .ok (.iastore, 1) := by decide +kernel
theorem dX12_balloons_163 : decode cX12_balloons 163 = .ok (.aload_n 0, 1) := by decide +kernel
theorem dX12_balloons_164 : decode cX12_balloons 164 = .ok (.getfield 20, 3) := by decide +kernel
theorem dX12_balloons_167 : decode cX12_balloons 167 = .ok (.iload 6, 2) := by decide +kernel
theorem dX12_balloons_169 : decode cX12_balloons 169 = .ok (.aload_n 0, 1) := by decide +kernel
theorem dX12_balloons_170 : decode cX12_balloons 170 = .ok (.getfield 41, 3) := by decide +kernel
theorem dX12_balloons_173 : decode cX12_balloons 173 = .ok (.iconst 5, 1) := by decide +kernel
theorem dX12_balloons_174 : decode cX12_balloons 174 = .ok (.iload 5, 2) := by decide +kernel
theorem dX12_balloons_176 : decode cX12_balloons 176 = .ok (.imul, 1) := by decide +kernel
theorem dX12_balloons_177 : decode cX12_balloons 177 = .ok (.iconst 3, 1) := by decide +kernel
theorem dX12_balloons_178 : decode cX12_balloons 178 = .ok (.iadd, 1) := by decide +kernel
theorem dX12_balloons_179 : decode cX12_balloons 179 = .ok (.iaload, 1) := by decide +kernel
theorem dX12_balloons_180 : decode cX12_balloons 180 = .ok (.iastore, 1) := by decide +kernel
theorem dX12_balloons_181 : decode cX12_balloons 181 = .ok (.aload_n 0, 1) := by decide +kernel
theorem dX12_balloons_182 : decode cX12_balloons 182 = .ok (.getfield 23, 3) := by decide +kernel
theorem dX12_balloons_185 : decode cX12_balloons 185 = .ok (.iload 6, 2) := by decide +kernel
theorem dX12_balloons_187 : decode cX12_balloons 187 = .ok (.aload_n 0, 1) := by decide +kernel
theorem dX12_balloons_188 : decode cX12_balloons 188 = .ok (.getfield 41, 3) := by decide +kernel
theorem dX12_balloons_191 : decode cX12_balloons 191 = .ok (.iconst 5, 1) := by decide +kernel
theorem dX12_balloons_192 : decode cX12_balloons 192 = .ok (.iload 5, 2) := by decide +kernel
theorem dX12_balloons_194 : decode cX12_balloons 194 = .ok (.imul, 1) := by decide +kernel
theorem dX12_balloons_195 : decode cX12_balloons 195 = .ok (.iconst 4, 1) := by decide +kernel
theorem dX12_balloons_196 : decode cX12_balloons 196 = .ok (.iadd, 1) := by decide +kernel
theorem dX12_balloons_197 : decode cX12_balloons 197 = .ok (.iaload, 1) := by decide +kernel
theorem dX12_balloons_198 : decode cX12_balloons 198 = .ok (.iastore, 1) := by decide +kernel
theorem dX12_balloons_199 : decode cX12_balloons 199 = .ok (.aload_n 0, 1) := by decide +kernel
theorem dX12_balloons_200 : decode cX12_balloons 200 = .ok (.getfield 32, 3) := by decide +kernel
theorem dX12_balloons_203 : decode cX12_balloons 203 = .ok (.bipush 7, 2) := by decide +kernel
theorem dX12_balloons_205 : decode cX12_balloons 205 = .ok (.iload 6, 2) := by decide +kernel
theorem dX12_balloons_207 : decode cX12_balloons 207 = .ok (.imul, 1) := by decide +kernel
theorem dX12_balloons_208 : decode cX12_balloons 208 = .ok (.iconst 3, 1) := by decide +kernel
theorem dX12_balloons_209 : decode cX12_balloons 209 = .ok (.iadd, 1) := by decide +kernel
theorem dX12_balloons_210 : decode cX12_balloons 210 = .ok (.iconst 0, 1) := by decide +kernel
theorem dX12_balloons_211 : decode cX12_balloons 211 = .ok (.iastore, 1) := by decide +kernel
theorem dX12_balloons_212 : decode cX12_balloons 212 = .ok (.aload_n 0, 1) := by decide +kernel
theorem dX12_balloons_213 : decode cX12_balloons 213 = .ok (.getfield 32, 3) := by decide +kernel
theorem dX12_balloons_216 : decode cX12_balloons 216 = .ok (.bipush 7, 2) := by decide +kernel
theorem dX12_balloons_218 : decode cX12_balloons 218 = .ok (.iload 6, 2) := by decide +kernel
theorem dX12_balloons_220 : decode cX12_balloons 220 = .ok (.imul, 1) := by decide +kernel
theorem dX12_balloons_221 : decode cX12_balloons 221 = .ok (.iconst 4, 1) := by decide +kernel
theorem dX12_balloons_222 : decode cX12_balloons 222 = .ok (.iadd, 1) := by decide +kernel
theorem dX12_balloons_223 : decode cX12_balloons 223 = .ok (.iconst (-1), 1) := by decide +kernel
theorem dX12_balloons_224 : decode cX12_balloons 224 = .ok (.iastore, 1) := by decide +kernel
theorem dX12_balloons_225 : decode cX12_balloons 225 = .ok (.aload_n 0, 1) := by decide +kernel
theorem dX12_balloons_226 : decode cX12_balloons 226 = .ok (.dup, 1) := by decide +kernel
theorem dX12_balloons_227 : decode cX12_balloons 227 = .ok (.getfield 135, 3) := by decide +kernel
theorem dX12_balloons_230 : decode cX12_balloons 230 = .ok (.iconst 1, 1) := by decide +kernel
theorem dX12_balloons_231 : decode cX12_balloons 231 = .ok (.iadd, 1) := by decide +kernel
theorem dX12_balloons_232 : decode cX12_balloons 232 = .ok (.putfield 135, 3) := by decide +kernel
theorem dX12_balloons_235 : decode cX12_balloons 235 = .ok (.iinc 5 1, 3) := by decide +kernel
theorem dX12_balloons_238 : decode cX12_balloons 238 = .ok (.goto (-157), 3) := by decide +kernel
theorem dX12_balloons_241 : decode cX12_balloons 241 = .ok (.aload_n 0, 1) := by decide +kernel
theorem dX12_balloons_242 : decode cX12_balloons 242 = .ok (.getfield 182, 3) := by decide +kernel
theorem dX12_balloons_263 : decode cX12_balloons 263 = .ok (.aload_n 0, 1) := by decide +kernel
theorem dX12_balloons_264 : decode cX12_balloons 264 = .ok (.getfield 182, 3) := by decide +kernel
theorem dX12_balloons_267 : decode cX12_balloons 267 = .ok (.ireturn, 1) := by decide +kernel
theorem dX12_balloons_245 : decode cX12_balloons 245 = .ok (.ifCond .le 18, 3) := by decide +kernel
theorem dX12_balloons_248 : decode cX12_balloons 248 = .ok (.aload_n 0, 1) := by decide +kernel
theorem dX12_balloons_249 : decode cX12_balloons 249 = .ok (.iconst 0, 1) := by decide +kernel
theorem dX12_balloons_250 : decode cX12_balloons 250 = .ok (.putfield 211, 3) := by decide +kernel
theorem dX12_balloons_253 : decode cX12_balloons 253 = .ok (.aload_n 0, 1) := by decide +kernel
theorem dX12_balloons_254 : decode cX12_balloons 254 = .ok (.dup, 1) := by decide +kernel
theorem dX12_balloons_255 : decode cX12_balloons 255 = .ok (.getfield 214, 3) := by decide +kernel
theorem dX12_balloons_258 : decode cX12_balloons 258 = .ok (.iconst 1, 1) := by decide +kernel
theorem dX12_balloons_259 : decode cX12_balloons 259 = .ok (.iadd, 1) := by decide +kernel
theorem dX12_balloons_260 : decode cX12_balloons 260 = .ok (.putfield 214, 3) := by decide +kernel
theorem dX12_balloons_75 : decode cX12_balloons 75 = .ok (.iload 4, 2) := by decide +kernel
theorem dX12_balloons_77 : decode cX12_balloons 77 = .ok (.ireturn, 1) := by decide +kernel
theorem dX12_balloons_20 : decode cX12_balloons 20 = .ok (.ifCond .le 7, 3) := by decide +kernel
theorem dX12_balloons_27 : decode cX12_balloons 27 = .ok (.iconst 0, 1) := by decide +kernel
theorem dX12_balloons_23 : decode cX12_balloons 23 = .ok (.iconst 1, 1) := by decide +kernel
theorem dX12_balloons_24 : decode cX12_balloons 24 = .ok (.goto 4, 3) := by decide +kernel
theorem dX12_readsWind_0 : decode cX12_readsWind 0 = .ok (.aload_n 0, 1) := by decide +kernel
theorem dX12_readsWind_1 : decode cX12_readsWind 1 = .ok (.getfield 41, 3) := by decide +kernel
theorem dX12_readsWind_4 : decode cX12_readsWind 4 = .ok (.iconst 2, 1) := by decide +kernel
theorem dX12_readsWind_5 : decode cX12_readsWind 5 = .ok (.iload_n 1, 1) := by decide +kernel
theorem dX12_readsWind_6 : decode cX12_readsWind 6 = .ok (.imul, 1) := by decide +kernel
theorem dX12_readsWind_7 : decode cX12_readsWind 7 = .ok (.iconst (-1), 1) := by decide +kernel
theorem dX12_readsWind_8 : decode cX12_readsWind 8 = .ok (.iastore, 1) := by decide +kernel
theorem dX12_readsWind_9 : decode cX12_readsWind 9 = .ok (.aload_n 0, 1) := by decide +kernel
theorem dX12_readsWind_10 : decode cX12_readsWind 10 = .ok (.getfield 41, 3) := by decide +kernel
theorem dX12_readsWind_13 : decode cX12_readsWind 13 = .ok (.iconst 2, 1) := by decide +kernel
theorem dX12_readsWind_14 : decode cX12_readsWind 14 = .ok (.iload_n 1, 1) := by decide +kernel
theorem dX12_readsWind_15 : decode cX12_readsWind 15 = .ok (.imul, 1) := by decide +kernel
theorem dX12_readsWind_16 : decode cX12_readsWind 16 = .ok (.iconst 1, 1) := by decide +kernel
theorem dX12_readsWind_17 : decode cX12_readsWind 17 = .ok (.iadd, 1) := by decide +kernel
theorem dX12_readsWind_18 : decode cX12_readsWind 18 = .ok (.iconst 0, 1) := by decide +kernel
theorem dX12_readsWind_19 : decode cX12_readsWind 19 = .ok (.iastore, 1) := by decide +kernel
theorem dX12_readsWind_20 : decode cX12_readsWind 20 = .ok (.aload_n 0, 1) := by decide +kernel
theorem dX12_readsWind_21 : decode cX12_readsWind 21 = .ok (.bipush 45, 2) := by decide +kernel
theorem dX12_readsWind_23 : decode cX12_readsWind 23 = .ok (.invokevirtual 200, 3) := by decide +kernel
theorem dX12_readsWind_26 : decode cX12_readsWind 26 = .ok (.ifCond .eq 5, 3) := by decide +kernel
theorem dX12_readsWind_31 : decode cX12_readsWind 31 = .ok (.aload_n 0, 1) := by decide +kernel
theorem dX12_readsWind_32 : decode cX12_readsWind 32 = .ok (.getfield 41, 3) := by decide +kernel
theorem dX12_readsWind_35 : decode cX12_readsWind 35 = .ok (.iconst 2, 1) := by decide +kernel
theorem dX12_readsWind_36 : decode cX12_readsWind 36 = .ok (.iload_n 1, 1) := by decide +kernel
theorem dX12_readsWind_37 : decode cX12_readsWind 37 = .ok (.imul, 1) := by decide +kernel
theorem dX12_readsWind_38 : decode cX12_readsWind 38 = .ok (.aload_n 0, 1) := by decide +kernel
theorem dX12_readsWind_39 : decode cX12_readsWind 39 = .ok (.ldc 189, 2) := by decide +kernel
theorem dX12_readsWind_41 : decode cX12_readsWind 41 = .ok (.invokevirtual 191, 3) := by decide +kernel
theorem dX12_readsWind_44 : decode cX12_readsWind 44 = .ok (.iastore, 1) := by decide +kernel
theorem dX12_readsWind_45 : decode cX12_readsWind 45 = .ok (.aload_n 0, 1) := by decide +kernel
theorem dX12_readsWind_46 : decode cX12_readsWind 46 = .ok (.getfield 41, 3) := by decide +kernel
theorem dX12_readsWind_49 : decode cX12_readsWind 49 = .ok (.iconst 2, 1) := by decide +kernel
theorem dX12_readsWind_50 : decode cX12_readsWind 50 = .ok (.iload_n 1, 1) := by decide +kernel
theorem dX12_readsWind_51 : decode cX12_readsWind 51 = .ok (.imul, 1) := by decide +kernel
theorem dX12_readsWind_52 : decode cX12_readsWind 52 = .ok (.iaload, 1) := by decide +kernel
theorem dX12_readsWind_53 : decode cX12_readsWind 53 = .ok (.ifCond .ge 5, 3) := by decide +kernel
theorem dX12_readsWind_58 : decode cX12_readsWind 58 = .ok (.aload_n 0, 1) := by decide +kernel
theorem dX12_readsWind_59 : decode cX12_readsWind 59 = .ok (.getfield 41, 3) := by decide +kernel
theorem dX12_readsWind_62 : decode cX12_readsWind 62 = .ok (.iconst 2, 1) := by decide +kernel
theorem dX12_readsWind_63 : decode cX12_readsWind 63 = .ok (.iload_n 1, 1) := by decide +kernel
theorem dX12_readsWind_64 : decode cX12_readsWind 64 = .ok (.imul, 1) := by decide +kernel
theorem dX12_readsWind_65 : decode cX12_readsWind 65 = .ok (.iconst 1, 1) := by decide +kernel
theorem dX12_readsWind_66 : decode cX12_readsWind 66 = .ok (.iadd, 1) := by decide +kernel
theorem dX12_readsWind_67 : decode cX12_readsWind 67 = .ok (.iconst 1, 1) := by decide +kernel
theorem dX12_readsWind_68 : decode cX12_readsWind 68 = .ok (.aload_n 0, 1) := by decide +kernel
theorem dX12_readsWind_69 : decode cX12_readsWind 69 = .ok (.ldc 222, 2) := by decide +kernel
theorem dX12_readsWind_71 : decode cX12_readsWind 71 = .ok (.invokevirtual 191, 3) := by decide +kernel
theorem dX12_readsWind_74 : decode cX12_readsWind 74 = .ok (.iadd, 1) := by decide +kernel
theorem dX12_readsWind_75 : decode cX12_readsWind 75 = .ok (.iastore, 1) := by decide +kernel
theorem dX12_readsWind_76 : decode cX12_readsWind 76 = .ok (.aload_n 0, 1) := by decide +kernel
theorem dX12_readsWind_77 : decode cX12_readsWind 77 = .ok (.getfield 41, 3) := by decide +kernel
theorem dX12_readsWind_80 : decode cX12_readsWind 80 = .ok (.iconst 2, 1) := by decide +kernel
theorem dX12_readsWind_81 : decode cX12_readsWind 81 = .ok (.iload_n 1, 1) := by decide +kernel
theorem dX12_readsWind_82 : decode cX12_readsWind 82 = .ok (.imul, 1) := by decide +kernel
theorem dX12_readsWind_83 : decode cX12_readsWind 83 = .ok (.iconst 1, 1) := by decide +kernel
theorem dX12_readsWind_84 : decode cX12_readsWind 84 = .ok (.iadd, 1) := by decide +kernel
theorem dX12_readsWind_85 : decode cX12_readsWind 85 = .ok (.iaload, 1) := by decide +kernel
theorem dX12_readsWind_86 : decode cX12_readsWind 86 = .ok (.ifCond .le 7, 3) := by decide +kernel
theorem dX12_readsWind_93 : decode cX12_readsWind 93 = .ok (.iconst 0, 1) := by decide +kernel
theorem dX12_readsWind_94 : decode cX12_readsWind 94 = .ok (.ireturn, 1) := by decide +kernel
theorem dX12_readsWind_89 : decode cX12_readsWind 89 = .ok (.iconst 1, 1) := by decide +kernel
theorem dX12_readsWind_90 : decode cX12_readsWind 90 = .ok (.goto 4, 3) := by decide +kernel
theorem dX12_readsWind_56 : decode cX12_readsWind 56 = .ok (.iconst 0, 1) := by decide +kernel
theorem dX12_readsWind_57 : decode cX12_readsWind 57 = .ok (.ireturn, 1) := by decide +kernel
theorem dX12_readsWind_29 : decode cX12_readsWind 29 = .ok (.iconst 1, 1) := by decide +kernel
theorem dX12_readsWind_30 : decode cX12_readsWind 30 = .ok (.ireturn, 1) := by decide +kernel
theorem dX12_winds_0 : decode cX12_winds 0 = .ok (.aload_n 0, 1) := by decide +kernel
theorem dX12_winds_1 : decode cX12_winds 1 = .ok (.iconst 0, 1) := by decide +kernel
theorem dX12_winds_2 : decode cX12_winds 2 = .ok (.putfield 117, 3) := by decide +kernel
theorem dX12_winds_5 : decode cX12_winds 5 = .ok (.aload_n 0, 1) := by decide +kernel
theorem dX12_winds_6 : decode cX12_winds 6 = .ok (.bipush 29, 2) := by decide +kernel
theorem dX12_winds_8 : decode cX12_winds 8 = .ok (.invokevirtual 194, 3) := by decide +kernel
theorem dX12_winds_11 : decode cX12_winds 11 = .ok (.istore_n 1, 1) := by decide +kernel
theorem dX12_winds_12 : decode cX12_winds 12 = .ok (.iconst 1, 1) := by decide +kernel
theorem dX12_winds_13 : decode cX12_winds 13 = .ok (.istore_n 2, 1) := by decide +kernel
theorem dX12_winds_14 : decode cX12_winds 14 = .ok (.iconst 0, 1) := by decide +kernel
theorem dX12_winds_15 : decode cX12_winds 15 = .ok (.istore_n 3, 1) := by decide +kernel
theorem dX12_winds_16 : decode cX12_winds 16 = .ok (.iload_n 3, 1) := by decide +kernel
theorem dX12_winds_17 : decode cX12_winds 17 = .ok (.bipush 10, 2) := by decide +kernel
theorem dX12_winds_19 : decode cX12_winds 19 = .ok (.if_icmp .ge 40, 3) := by decide +kernel
theorem dX12_winds_22 : decode cX12_winds 22 = .ok (.iload_n 2, 1) := by decide +kernel
theorem dX12_winds_23 : decode cX12_winds 23 = .ok (.ifCond .eq 36, 3) := by decide +kernel
theorem dX12_winds_26 : decode cX12_winds 26 = .ok (.iload_n 3, 1) := by decide +kernel
theorem dX12_winds_52 : decode cX12_winds 52 = .ok (.istore_n 2, 1) := by decide +kernel
theorem dX12_winds_53 : decode cX12_winds 53 = .ok (.iinc 3 1, 3) := by decide +kernel
theorem dX12_winds_56 : decode cX12_winds 56 = .ok (.goto (-40), 3) := by decide +kernel
theorem dX12_winds_51 : decode cX12_winds 51 = .ok (.iconst 0, 1) := by decide +kernel
theorem dX12_winds_39 : decode cX12_winds 39 = .ok (.aload_n 0, 1) := by decide +kernel
theorem dX12_winds_40 : decode cX12_winds 40 = .ok (.iload_n 3, 1) := by decide +kernel
theorem dX12_winds_41 : decode cX12_winds 41 = .ok (.invokevirtual 224, 3) := by decide +kernel
theorem dX12_winds_44 : decode cX12_winds 44 = .ok (.ifCond .eq 7, 3) := by decide +kernel
theorem dX12_winds_47 : decode cX12_winds 47 = .ok (.iconst 1, 1) := by decide +kernel
theorem dX12_winds_48 : decode cX12_winds 48 = .ok (.goto 4, 3) := by decide +kernel
theorem dX12_winds_27 : decode cX12_winds 27 = .ok (.ifCond .eq 12, 3) := by decide +kernel
theorem dX12_winds_30 : decode cX12_winds 30 = .ok (.aload_n 0, 1) := by decide +kernel
theorem dX12_winds_31 : decode cX12_winds 31 = .ok (.bipush 47, 2) := by decide +kernel
theorem dX12_winds_33 : decode cX12_winds 33 = .ok (.invokevirtual 200, 3) := by decide +kernel
theorem dX12_winds_36 : decode cX12_winds 36 = .ok (.ifCond .eq 15, 3) := by decide +kernel
theorem dX12_winds_59 : decode cX12_winds 59 = .ok (.aload_n 0, 1) := by decide +kernel
theorem dX12_winds_60 : decode cX12_winds 60 = .ok (.iload_n 1, 1) := by decide +kernel
theorem dX12_winds_61 : decode cX12_winds 61 = .ok (.bipush 29, 2) := by decide +kernel
theorem dX12_winds_63 : decode cX12_winds 63 = .ok (.iload_n 2, 1) := by decide +kernel
theorem dX12_winds_64 : decode cX12_winds 64 = .ok (.invokevirtual 204, 3) := by decide +kernel
theorem dX12_winds_67 : decode cX12_winds 67 = .ok (.istore_n 3, 1) := by decide +kernel
theorem dX12_winds_68 : decode cX12_winds 68 = .ok (.iload_n 3, 1) := by decide +kernel
theorem dX12_winds_69 : decode cX12_winds 69 = .ok (.ifCond .ge 5, 3) := by decide +kernel
theorem dX12_winds_74 : decode cX12_winds 74 = .ok (.iconst 0, 1) := by decide +kernel
theorem dX12_winds_75 : decode cX12_winds 75 = .ok (.istore 4, 2) := by decide +kernel
theorem dX12_winds_77 : decode cX12_winds 77 = .ok (.iconst 0, 1) := by decide +kernel
theorem dX12_winds_78 : decode cX12_winds 78 = .ok (.istore 5, 2) := by decide +kernel
theorem dX12_winds_80 : decode cX12_winds 80 = .ok (.iload 5, 2) := by decide +kernel
theorem dX12_winds_82 : decode cX12_winds 82 = .ok (.bipush 10, 2) := by decide +kernel
theorem dX12_winds_84 : decode cX12_winds 84 = .ok (.if_icmp .ge 66, 3) := by decide +kernel
theorem dX12_winds_87 : decode cX12_winds 87 = .ok (.aload_n 0, 1) := by decide +kernel
theorem dX12_winds_88 : decode cX12_winds 88 = .ok (.getfield 26, 3) := by decide +kernel
theorem dX12_winds_91 : decode cX12_winds 91 = .ok (.iload 5, 2) := by decide +kernel
theorem dX12_winds_93 : decode cX12_winds 93 = .ok (.aload_n 0, 1) := by decide +kernel
theorem dX12_winds_94 : decode cX12_winds 94 = .ok (.getfield 41, 3) := by decide +kernel
theorem dX12_winds_97 : decode cX12_winds 97 = .ok (.iconst 2, 1) := by decide +kernel
theorem dX12_winds_98 : decode cX12_winds 98 = .ok (.iload 5, 2) := by decide +kernel
theorem dX12_winds_100 : decode cX12_winds 100 = .ok (.imul, 1) := by decide +kernel
theorem dX12_winds_101 : decode cX12_winds 101 = .ok (.iaload, 1) := by decide +kernel
theorem dX12_winds_102 : decode cX12_winds 102 = .ok (.iastore, 1) := by decide +kernel
theorem dX12_winds_103 : decode cX12_winds 103 = .ok (.aload_n 0, 1) := by decide +kernel
theorem dX12_winds_104 : decode cX12_winds 104 = .ok (.getfield 29, 3) := by decide +kernel
theorem dX12_winds_107 : decode cX12_winds 107 = .ok (.iload 5, 2) := by decide +kernel
theorem dX12_winds_109 : decode cX12_winds 109 = .ok (.aload_n 0, 1) := by decide +kernel
theorem dX12_winds_110 : decode cX12_winds 110 = .ok (.getfield 41, 3) := by decide +kernel
theorem dX12_winds_113 : decode cX12_winds 113 = .ok (.iconst 2, 1) := by decide +kernel
theorem dX12_winds_114 : decode cX12_winds 114 = .ok (.iload 5, 2) := by decide +kernel
theorem dX12_winds_116 : decode cX12_winds 116 = .ok (.imul, 1) := by decide +kernel
theorem dX12_winds_117 : decode cX12_winds 117 = .ok (.iconst 1, 1) := by decide +kernel
theorem dX12_winds_118 : decode cX12_winds 118 = .ok (.iadd, 1) := by decide +kernel
theorem dX12_winds_119 : decode cX12_winds 119 = .ok (.iaload, 1) := by decide +kernel
theorem dX12_winds_120 : decode cX12_winds 120 = .ok (.iastore, 1) := by decide +kernel
theorem dX12_winds_121 : decode cX12_winds 121 = .ok (.iload 4, 2) := by decide +kernel
theorem dX12_winds_123 : decode cX12_winds 123 = .ok (.aload_n 0, 1) := by decide +kernel
theorem dX12_winds_124 : decode cX12_winds 124 = .ok (.getfield 26, 3) := by decide +kernel
theorem dX12_winds_127 : decode cX12_winds 127 = .ok (.iload 5, 2) := by decide +kernel
theorem dX12_winds_129 : decode cX12_winds 129 = .ok (.iaload, 1) := by decide +kernel
theorem dX12_winds_138 : decode cX12_winds 138 = .ok (.invokestatic 156, 3) := by decide +kernel
theorem dX12_winds_141 : decode cX12_winds 141 = .ok (.iadd, 1) := by decide +kernel
theorem dX12_winds_142 : decode cX12_winds 142 = .ok (.istore 4, 2) := by decide +kernel
theorem dX12_winds_144 : decode cX12_winds 144 = .ok (.iinc 5 1, 3) := by decide +kernel
theorem dX12_winds_147 : decode cX12_winds 147 = .ok (.goto (-67), 3) := by decide +kernel
theorem dX12_winds_130 : decode cX12_winds 130 = .ok (.ifCond .lt 7, 3) := by decide +kernel
theorem dX12_winds_137 : decode cX12_winds 137 = .ok (.iconst 0, 1) := by decide +kernel
theorem dX12_winds_133 : decode cX12_winds 133 = .ok (.iconst 1, 1) := by decide +kernel
theorem dX12_winds_134 : decode cX12_winds 134 = .ok (.goto 4, 3) := by decide +kernel
theorem dX12_winds_150 : decode cX12_winds 150 = .ok (.iload 4, 2) := by decide +kernel
theorem dX12_winds_152 : decode cX12_winds 152 = .ok (.ireturn, 1) := by decide +kernel
theorem dX12_winds_72 : decode cX12_winds 72 = .ok (.iload_n 3, 1) := by decide +kernel
theorem dX12_winds_73 : decode cX12_winds 73 = .ok (.ireturn, 1) := by decide +kernel
theorem dX12_codes_0 : decode cX12_codes 0 = .ok (.aload_n 0, 1) := by decide +kernel
theorem dX12_codes_1 : decode cX12_codes 1 = .ok (.getfield 47, 3) := by decide +kernel
theorem dX12_codes_4 : decode cX12_codes 4 = .ok (.aload_n 0, 1) := by decide +kernel
theorem dX12_codes_5 : decode cX12_codes 5 = .ok (.getfield 227, 3) := by decide +kernel
theorem dX12_codes_8 : decode cX12_codes 8 = .ok (.iload_n 1, 1) := by decide +kernel
theorem dX12_codes_9 : decode cX12_codes 9 = .ok (.iastore, 1) := by decide +kernel
theorem dX12_codes_10 : decode cX12_codes 10 = .ok (.aload_n 0, 1) := by decide +kernel
theorem dX12_codes_11 : decode cX12_codes 11 = .ok (.dup, 1) := by decide +kernel
theorem dX12_codes_12 : decode cX12_codes 12 = .ok (.getfield 227, 3) := by decide +kernel
theorem dX12_codes_15 : decode cX12_codes 15 = .ok (.iconst 1, 1) := by decide +kernel
theorem dX12_codes_16 : decode cX12_codes 16 = .ok (.iadd, 1) := by decide +kernel
theorem dX12_codes_17 : decode cX12_codes 17 = .ok (.putfield 227, 3) := by decide +kernel
theorem dX12_codes_20 : decode cX12_codes 20 = .ok (.return_, 1) := by decide +kernel
theorem dX12_readsThing_0 : decode cX12_readsThing 0 = .ok (.aload_n 0, 1) := by decide +kernel
theorem dX12_readsThing_1 : decode cX12_readsThing 1 = .ok (.bipush 45, 2) := by decide +kernel
theorem dX12_readsThing_3 : decode cX12_readsThing 3 = .ok (.invokevirtual 200, 3) := by decide +kernel
theorem dX12_readsThing_6 : decode cX12_readsThing 6 = .ok (.ifCond .eq 17, 3) := by decide +kernel
theorem dX12_readsThing_23 : decode cX12_readsThing 23 = .ok (.aload_n 0, 1) := by decide +kernel
theorem dX12_readsThing_24 : decode cX12_readsThing 24 = .ok (.invokevirtual 178, 3) := by decide +kernel
theorem dX12_readsThing_27 : decode cX12_readsThing 27 = .ok (.ifCond .eq 14, 3) := by decide +kernel
theorem dX12_readsThing_41 : decode cX12_readsThing 41 = .ok (.aload_n 0, 1) := by decide +kernel
theorem dX12_readsThing_42 : decode cX12_readsThing 42 = .ok (.ldc 237, 2) := by decide +kernel
theorem dX12_readsThing_44 : decode cX12_readsThing 44 = .ok (.invokevirtual 191, 3) := by decide +kernel
theorem dX12_readsThing_47 : decode cX12_readsThing 47 = .ok (.istore_n 1, 1) := by decide +kernel
theorem dX12_readsThing_48 : decode cX12_readsThing 48 = .ok (.iload_n 1, 1) := by decide +kernel
theorem dX12_readsThing_49 : decode cX12_readsThing 49 = .ok (.ifCond .lt 14, 3) := by decide +kernel
theorem dX12_readsThing_63 : decode cX12_readsThing 63 = .ok (.aload_n 0, 1) := by decide +kernel
theorem dX12_readsThing_64 : decode cX12_readsThing 64 = .ok (.getfield 144, 3) := by decide +kernel
theorem dX12_readsThing_67 : decode cX12_readsThing 67 = .ok (.iconst 4, 1) := by decide +kernel
theorem dX12_readsThing_68 : decode cX12_readsThing 68 = .ok (.if_icmp .eq 12, 3) := by decide +kernel
theorem dX12_readsThing_80 : decode cX12_readsThing 80 = .ok (.iconst 0, 1) := by decide +kernel
theorem dX12_readsThing_81 : decode cX12_readsThing 81 = .ok (.ireturn, 1) := by decide +kernel
theorem dX12_readsThing_71 : decode cX12_readsThing 71 = .ok (.aload_n 0, 1) := by decide +kernel
theorem dX12_readsThing_72 : decode cX12_readsThing 72 = .ok (.bipush 40, 2) := by decide +kernel
theorem dX12_readsThing_74 : decode cX12_readsThing 74 = .ok (.invokevirtual 200, 3) := by decide +kernel
theorem dX12_readsThing_77 : decode cX12_readsThing 77 = .ok (.ifCond .ne 5, 3) := by decide +kernel
theorem dX12_readsThing_82 : decode cX12_readsThing 82 = .ok (.aload_n 0, 1) := by decide +kernel
theorem dX12_readsThing_83 : decode cX12_readsThing 83 = .ok (.dup, 1) := by decide +kernel
theorem dX12_readsThing_84 : decode cX12_readsThing 84 = .ok (.getfield 144, 3) := by decide +kernel
theorem dX12_readsThing_87 : decode cX12_readsThing 87 = .ok (.iconst 1, 1) := by decide +kernel
theorem dX12_readsThing_88 : decode cX12_readsThing 88 = .ok (.iadd, 1) := by decide +kernel
theorem dX12_readsThing_89 : decode cX12_readsThing 89 = .ok (.putfield 144, 3) := by decide +kernel
theorem dX12_readsThing_92 : decode cX12_readsThing 92 = .ok (.aload_n 0, 1) := by decide +kernel
theorem dX12_readsThing_93 : decode cX12_readsThing 93 = .ok (.iconst 0, 1) := by decide +kernel
theorem dX12_readsThing_94 : decode cX12_readsThing 94 = .ok (.invokevirtual 239, 3) := by decide +kernel
theorem dX12_readsThing_97 : decode cX12_readsThing 97 = .ok (.ifCond .eq 12, 3) := by decide +kernel
theorem dX12_readsThing_109 : decode cX12_readsThing 109 = .ok (.iconst 0, 1) := by decide +kernel
theorem dX12_readsThing_110 : decode cX12_readsThing 110 = .ok (.ireturn, 1) := by decide +kernel
theorem dX12_readsThing_100 : decode cX12_readsThing 100 = .ok (.aload_n 0, 1) := by decide +kernel
theorem dX12_readsThing_101 : decode cX12_readsThing 101 = .ok (.bipush 41, 2) := by decide +kernel
theorem dX12_readsThing_103 : decode cX12_readsThing 103 = .ok (.invokevirtual 200, 3) := by decide +kernel
theorem dX12_readsThing_106 : decode cX12_readsThing 106 = .ok (.ifCond .ne 5, 3) := by decide +kernel
theorem dX12_readsThing_111 : decode cX12_readsThing 111 = .ok (.aload_n 0, 1) := by decide +kernel
theorem dX12_readsThing_112 : decode cX12_readsThing 112 = .ok (.dup, 1) := by decide +kernel
theorem dX12_readsThing_113 : decode cX12_readsThing 113 = .ok (.getfield 144, 3) := by decide +kernel
theorem dX12_readsThing_116 : decode cX12_readsThing 116 = .ok (.iconst 1, 1) := by decide +kernel
theorem dX12_readsThing_117 : decode cX12_readsThing 117 = .ok (.isub, 1) := by decide +kernel
theorem dX12_readsThing_118 : decode cX12_readsThing 118 = .ok (.putfield 144, 3) := by decide +kernel
theorem dX12_readsThing_121 : decode cX12_readsThing 121 = .ok (.iconst 1, 1) := by decide +kernel
theorem dX12_readsThing_122 : decode cX12_readsThing 122 = .ok (.ireturn, 1) := by decide +kernel
theorem dX12_readsThing_52 : decode cX12_readsThing 52 = .ok (.aload_n 0, 1) := by decide +kernel
theorem dX12_readsThing_53 : decode cX12_readsThing 53 = .ok (.sipush 1000, 3) := by decide +kernel
theorem dX12_readsThing_56 : decode cX12_readsThing 56 = .ok (.iload_n 1, 1) := by decide +kernel
theorem dX12_readsThing_57 : decode cX12_readsThing 57 = .ok (.iadd, 1) := by decide +kernel
theorem dX12_readsThing_58 : decode cX12_readsThing 58 = .ok (.invokevirtual 233, 3) := by decide +kernel
theorem dX12_readsThing_61 : decode cX12_readsThing 61 = .ok (.iconst 1, 1) := by decide +kernel
theorem dX12_readsThing_62 : decode cX12_readsThing 62 = .ok (.ireturn, 1) := by decide +kernel
theorem dX12_readsThing_30 : decode cX12_readsThing 30 = .ok (.aload_n 0, 1) := by decide +kernel
theorem dX12_readsThing_31 : decode cX12_readsThing 31 = .ok (.aload_n 0, 1) := by decide +kernel
theorem dX12_readsThing_32 : decode cX12_readsThing 32 = .ok (.iconst 3, 1) := by decide +kernel
theorem dX12_readsThing_33 : decode cX12_readsThing 33 = .ok (.invokevirtual 185, 3) := by decide +kernel
theorem dX12_readsThing_36 : decode cX12_readsThing 36 = .ok (.invokevirtual 233, 3) := by decide +kernel
theorem dX12_readsThing_39 : decode cX12_readsThing 39 = .ok (.iconst 1, 1) := by decide +kernel
theorem dX12_readsThing_40 : decode cX12_readsThing 40 = .ok (.ireturn, 1) := by decide +kernel
theorem dX12_readsThing_9 : decode cX12_readsThing 9 = .ok (.aload_n 0, 1) := by decide +kernel
theorem dX12_readsThing_10 : decode cX12_readsThing 10 = .ok (.invokevirtual 230, 3) := by decide +kernel
theorem dX12_readsThing_13 : decode cX12_readsThing 13 = .ok (.istore_n 1, 1) := by decide +kernel
theorem dX12_readsThing_14 : decode cX12_readsThing 14 = .ok (.aload_n 0, 1) := by decide +kernel
theorem dX12_readsThing_15 : decode cX12_readsThing 15 = .ok (.sipush 3000, 3) := by decide +kernel
theorem dX12_readsThing_18 : decode cX12_readsThing 18 = .ok (.invokevirtual 233, 3) := by decide +kernel
theorem dX12_readsThing_21 : decode cX12_readsThing 21 = .ok (.iload_n 1, 1) := by decide +kernel
theorem dX12_readsThing_22 : decode cX12_readsThing 22 = .ok (.ireturn, 1) := by decide +kernel
theorem dX12_readsRank_0 : decode cX12_readsRank 0 = .ok (.iload_n 1, 1) := by decide +kernel
theorem dX12_readsRank_1 : decode cX12_readsRank 1 = .ok (.iconst 3, 1) := by decide +kernel
theorem dX12_readsRank_2 : decode cX12_readsRank 2 = .ok (.if_icmp .ne 8, 3) := by decide +kernel
theorem dX12_readsRank_10 : decode cX12_readsRank 10 = .ok (.aload_n 0, 1) := by decide +kernel
theorem dX12_readsRank_11 : decode cX12_readsRank 11 = .ok (.iload_n 1, 1) := by decide +kernel
theorem dX12_readsRank_12 : decode cX12_readsRank 12 = .ok (.iconst 1, 1) := by decide +kernel
theorem dX12_readsRank_13 : decode cX12_readsRank 13 = .ok (.iadd, 1) := by decide +kernel
theorem dX12_readsRank_14 : decode cX12_readsRank 14 = .ok (.invokevirtual 239, 3) := by decide +kernel
theorem dX12_readsRank_17 : decode cX12_readsRank 17 = .ok (.ifCond .ne 5, 3) := by decide +kernel
theorem dX12_readsRank_22 : decode cX12_readsRank 22 = .ok (.iconst 1, 1) := by decide +kernel
theorem dX12_readsRank_23 : decode cX12_readsRank 23 = .ok (.istore_n 2, 1) := by decide +kernel
theorem dX12_readsRank_24 : decode cX12_readsRank 24 = .ok (.iload_n 2, 1) := by decide +kernel
theorem dX12_readsRank_25 : decode cX12_readsRank 25 = .ok (.ifCond .eq 88, 3) := by decide +kernel
theorem dX12_readsRank_28 : decode cX12_readsRank 28 = .ok (.aload_n 0, 1) := by decide +kernel
theorem dX12_readsRank_29 : decode cX12_readsRank 29 = .ok (.iload_n 1, 1) := by decide +kernel
theorem dX12_readsRank_50 : decode cX12_readsRank 50 = .ok (.invokevirtual 191, 3) := by decide +kernel
theorem dX12_readsRank_53 : decode cX12_readsRank 53 = .ok (.istore_n 3, 1) := by decide +kernel
theorem dX12_readsRank_54 : decode cX12_readsRank 54 = .ok (.iload_n 3, 1) := by decide +kernel
theorem dX12_readsRank_55 : decode cX12_readsRank 55 = .ok (.ifCond .ge 5, 3) := by decide +kernel
theorem dX12_readsRank_60 : decode cX12_readsRank 60 = .ok (.aload_n 0, 1) := by decide +kernel
theorem dX12_readsRank_61 : decode cX12_readsRank 61 = .ok (.iload_n 1, 1) := by decide +kernel
theorem dX12_readsRank_62 : decode cX12_readsRank 62 = .ok (.iconst 1, 1) := by decide +kernel
theorem dX12_readsRank_63 : decode cX12_readsRank 63 = .ok (.iadd, 1) := by decide +kernel
theorem dX12_readsRank_64 : decode cX12_readsRank 64 = .ok (.invokevirtual 239, 3) := by decide +kernel
theorem dX12_readsRank_67 : decode cX12_readsRank 67 = .ok (.ifCond .ne 5, 3) := by decide +kernel
theorem dX12_readsRank_72 : decode cX12_readsRank 72 = .ok (.aload_n 0, 1) := by decide +kernel
theorem dX12_readsRank_73 : decode cX12_readsRank 73 = .ok (.sipush 2000, 3) := by decide +kernel
theorem dX12_readsRank_76 : decode cX12_readsRank 76 = .ok (.iload_n 3, 1) := by decide +kernel
theorem dX12_readsRank_77 : decode cX12_readsRank 77 = .ok (.iadd, 1) := by decide +kernel
theorem dX12_readsRank_78 : decode cX12_readsRank 78 = .ok (.iload_n 1, 1) := by decide +kernel
theorem dX12_readsRank_96 : decode cX12_readsRank 96 = .ok (.iadd, 1) := by decide +kernel
theorem dX12_readsRank_97 : decode cX12_readsRank 97 = .ok (.invokevirtual 233, 3) := by decide +kernel
theorem dX12_readsRank_100 : decode cX12_readsRank 100 = .ok (.iload_n 1, 1) := by decide +kernel
theorem dX12_readsRank_109 : decode cX12_readsRank 109 = .ok (.istore_n 2, 1) := by decide +kernel
theorem dX12_readsRank_110 : decode cX12_readsRank 110 = .ok (.goto (-86), 3) := by decide +kernel
theorem dX12_readsRank_101 : decode cX12_readsRank 101 = .ok (.ifCond .le 7, 3) := by decide +kernel
theorem dX12_readsRank_108 : decode cX12_readsRank 108 = .ok (.iconst 0, 1) := by decide +kernel
theorem dX12_readsRank_104 : decode cX12_readsRank 104 = .ok (.iconst 1, 1) := by decide +kernel
theorem dX12_readsRank_105 : decode cX12_readsRank 105 = .ok (.goto 4, 3) := by decide +kernel
theorem dX12_readsRank_79 : decode cX12_readsRank 79 = .ok (.ifCond .ne 7, 3) := by decide +kernel
theorem dX12_readsRank_86 : decode cX12_readsRank 86 = .ok (.iload_n 1, 1) := by decide +kernel
theorem dX12_readsRank_87 : decode cX12_readsRank 87 = .ok (.iconst 1, 1) := by decide +kernel
theorem dX12_readsRank_88 : decode cX12_readsRank 88 = .ok (.if_icmp .ne 7, 3) := by decide +kernel
theorem dX12_readsRank_95 : decode cX12_readsRank 95 = .ok (.iconst 5, 1) := by decide +kernel
theorem dX12_readsRank_91 : decode cX12_readsRank 91 = .ok (.iconst 3, 1) := by decide +kernel
theorem dX12_readsRank_92 : decode cX12_readsRank 92 = .ok (.goto 4, 3) := by decide +kernel
theorem dX12_readsRank_82 : decode cX12_readsRank 82 = .ok (.iconst 0, 1) := by decide +kernel
theorem dX12_readsRank_83 : decode cX12_readsRank 83 = .ok (.goto 13, 3) := by decide +kernel
theorem dX12_readsRank_70 : decode cX12_readsRank 70 = .ok (.iconst 0, 1) := by decide +kernel
theorem dX12_readsRank_71 : decode cX12_readsRank 71 = .ok (.ireturn, 1) := by decide +kernel
theorem dX12_readsRank_58 : decode cX12_readsRank 58 = .ok (.iconst 1, 1) := by decide +kernel
theorem dX12_readsRank_59 : decode cX12_readsRank 59 = .ok (.ireturn, 1) := by decide +kernel
theorem dX12_readsRank_30 : decode cX12_readsRank 30 = .ok (.ifCond .ne 8, 3) := by decide +kernel
theorem dX12_readsRank_38 : decode cX12_readsRank 38 = .ok (.iload_n 1, 1) := by decide +kernel
theorem dX12_readsRank_39 : decode cX12_readsRank 39 = .ok (.iconst 1, 1) := by decide +kernel
theorem dX12_readsRank_40 : decode cX12_readsRank 40 = .ok (.if_icmp .ne 8, 3) := by decide +kernel
theorem dX12_readsRank_48 : decode cX12_readsRank 48 = .ok (.ldc 246, 2) := by decide +kernel
theorem dX12_readsRank_43 : decode cX12_readsRank 43 = .ok (.ldc 244, 2) := by decide +kernel
theorem dX12_readsRank_45 : decode cX12_readsRank 45 = .ok (.goto 5, 3) := by decide +kernel
theorem dX12_readsRank_33 : decode cX12_readsRank 33 = .ok (.ldc 242, 2) := by decide +kernel
theorem dX12_readsRank_35 : decode cX12_readsRank 35 = .ok (.goto 15, 3) := by decide +kernel
theorem dX12_readsRank_113 : decode cX12_readsRank 113 = .ok (.iconst 1, 1) := by decide +kernel
theorem dX12_readsRank_114 : decode cX12_readsRank 114 = .ok (.ireturn, 1) := by decide +kernel
theorem dX12_readsRank_20 : decode cX12_readsRank 20 = .ok (.iconst 0, 1) := by decide +kernel
theorem dX12_readsRank_21 : decode cX12_readsRank 21 = .ok (.ireturn, 1) := by decide +kernel
theorem dX12_readsRank_5 : decode cX12_readsRank 5 = .ok (.aload_n 0, 1) := by decide +kernel
theorem dX12_readsRank_6 : decode cX12_readsRank 6 = .ok (.invokevirtual 230, 3) := by decide +kernel
theorem dX12_readsRank_9 : decode cX12_readsRank 9 = .ok (.ireturn, 1) := by decide +kernel
theorem dX12_rule_0 : decode cX12_rule 0 = .ok (.aload_n 0, 1) := by decide +kernel
theorem dX12_rule_1 : decode cX12_rule 1 = .ok (.iconst 0, 1) := by decide +kernel
theorem dX12_rule_2 : decode cX12_rule 2 = .ok (.putfield 117, 3) := by decide +kernel
theorem dX12_rule_5 : decode cX12_rule 5 = .ok (.aload_n 0, 1) := by decide +kernel
theorem dX12_rule_6 : decode cX12_rule 6 = .ok (.bipush 40, 2) := by decide +kernel
theorem dX12_rule_8 : decode cX12_rule 8 = .ok (.invokevirtual 194, 3) := by decide +kernel
theorem dX12_rule_11 : decode cX12_rule 11 = .ok (.istore_n 1, 1) := by decide +kernel
theorem dX12_rule_12 : decode cX12_rule 12 = .ok (.aload_n 0, 1) := by decide +kernel
theorem dX12_rule_13 : decode cX12_rule 13 = .ok (.iconst 0, 1) := by decide +kernel
theorem dX12_rule_14 : decode cX12_rule 14 = .ok (.putfield 227, 3) := by decide +kernel
theorem dX12_rule_17 : decode cX12_rule 17 = .ok (.iload_n 1, 1) := by decide +kernel
theorem dX12_rule_34 : decode cX12_rule 34 = .ok (.istore_n 2, 1) := by decide +kernel
theorem dX12_rule_35 : decode cX12_rule 35 = .ok (.aload_n 0, 1) := by decide +kernel
theorem dX12_rule_36 : decode cX12_rule 36 = .ok (.iload_n 1, 1) := by decide +kernel
theorem dX12_rule_37 : decode cX12_rule 37 = .ok (.bipush 40, 2) := by decide +kernel
theorem dX12_rule_39 : decode cX12_rule 39 = .ok (.iload_n 2, 1) := by decide +kernel
theorem dX12_rule_40 : decode cX12_rule 40 = .ok (.invokevirtual 204, 3) := by decide +kernel
theorem dX12_rule_43 : decode cX12_rule 43 = .ok (.istore_n 3, 1) := by decide +kernel
theorem dX12_rule_44 : decode cX12_rule 44 = .ok (.iload_n 3, 1) := by decide +kernel
theorem dX12_rule_45 : decode cX12_rule 45 = .ok (.ifCond .ge 5, 3) := by decide +kernel
theorem dX12_rule_50 : decode cX12_rule 50 = .ok (.aload_n 0, 1) := by decide +kernel
theorem dX12_rule_51 : decode cX12_rule 51 = .ok (.aload_n 0, 1) := by decide +kernel
theorem dX12_rule_52 : decode cX12_rule 52 = .ok (.getfield 227, 3) := by decide +kernel
theorem dX12_rule_55 : decode cX12_rule 55 = .ok (.putfield 248, 3) := by decide +kernel
theorem dX12_rule_58 : decode cX12_rule 58 = .ok (.iconst 0, 1) := by decide +kernel
theorem dX12_rule_59 : decode cX12_rule 59 = .ok (.istore 4, 2) := by decide +kernel
theorem dX12_rule_61 : decode cX12_rule 61 = .ok (.iload 4, 2) := by decide +kernel
theorem dX12_rule_63 : decode cX12_rule 63 = .ok (.aload_n 0, 1) := by decide +kernel
theorem dX12_rule_64 : decode cX12_rule 64 = .ok (.getfield 227, 3) := by decide +kernel
theorem dX12_rule_67 : decode cX12_rule 67 = .ok (.if_icmp .ge 23, 3) := by decide +kernel
theorem dX12_rule_70 : decode cX12_rule 70 = .ok (.aload_n 0, 1) := by decide +kernel
theorem dX12_rule_71 : decode cX12_rule 71 = .ok (.getfield 44, 3) := by decide +kernel
theorem dX12_rule_74 : decode cX12_rule 74 = .ok (.iload 4, 2) := by decide +kernel
theorem dX12_rule_76 : decode cX12_rule 76 = .ok (.aload_n 0, 1) := by decide +kernel
theorem dX12_rule_77 : decode cX12_rule 77 = .ok (.getfield 47, 3) := by decide +kernel
theorem dX12_rule_80 : decode cX12_rule 80 = .ok (.iload 4, 2) := by decide +kernel
theorem dX12_rule_82 : decode cX12_rule 82 = .ok (.iaload, 1) := by decide +kernel
theorem dX12_rule_83 : decode cX12_rule 83 = .ok (.iastore, 1) := by decide +kernel
theorem dX12_rule_84 : decode cX12_rule 84 = .ok (.iinc 4 1, 3) := by decide +kernel
theorem dX12_rule_87 : decode cX12_rule 87 = .ok (.goto (-26), 3) := by decide +kernel
theorem dX12_rule_90 : decode cX12_rule 90 = .ok (.iconst 0, 1) := by decide +kernel
theorem dX12_rule_91 : decode cX12_rule 91 = .ok (.ireturn, 1) := by decide +kernel
theorem dX12_rule_48 : decode cX12_rule 48 = .ok (.iload_n 3, 1) := by decide +kernel
theorem dX12_rule_49 : decode cX12_rule 49 = .ok (.ireturn, 1) := by decide +kernel
theorem dX12_rule_29 : decode cX12_rule 29 = .ok (.iconst 1, 1) := by decide +kernel
theorem dX12_rule_30 : decode cX12_rule 30 = .ok (.goto 4, 3) := by decide +kernel
theorem dX12_rule_18 : decode cX12_rule 18 = .ok (.ifCond .eq 11, 3) := by decide +kernel
theorem dX12_rule_21 : decode cX12_rule 21 = .ok (.aload_n 0, 1) := by decide +kernel
theorem dX12_rule_22 : decode cX12_rule 22 = .ok (.iconst 0, 1) := by decide +kernel
theorem dX12_rule_23 : decode cX12_rule 23 = .ok (.invokevirtual 239, 3) := by decide +kernel
theorem dX12_rule_26 : decode cX12_rule 26 = .ok (.ifCond .eq 7, 3) := by decide +kernel
theorem dX12_rule_33 : decode cX12_rule 33 = .ok (.iconst 0, 1) := by decide +kernel
theorem dX12_worked_0 : decode cX12_worked 0 = .ok (.iload_n 0, 1) := by decide +kernel
theorem dX12_worked_1 : decode cX12_worked 1 = .ok (.tableswitch 93 0 5 #[39, 53, 67, 81, 85, 89], 39) := by decide +kernel
theorem dX12_worked_40 : decode cX12_worked 40 = .ok (.iload_n 1, 1) := by decide +kernel
theorem dX12_worked_41 : decode cX12_worked 41 = .ok (.iload_n 2, 1) := by decide +kernel
theorem dX12_worked_50 : decode cX12_worked 50 = .ok (.invokestatic 156, 3) := by decide +kernel
theorem dX12_worked_53 : decode cX12_worked 53 = .ok (.ireturn, 1) := by decide +kernel
theorem dX12_worked_42 : decode cX12_worked 42 = .ok (.if_icmp .ge 7, 3) := by decide +kernel
theorem dX12_worked_49 : decode cX12_worked 49 = .ok (.iconst 0, 1) := by decide +kernel
theorem dX12_worked_45 : decode cX12_worked 45 = .ok (.iconst 1, 1) := by decide +kernel
theorem dX12_worked_46 : decode cX12_worked 46 = .ok (.goto 4, 3) := by decide +kernel
theorem dX12_worked_54 : decode cX12_worked 54 = .ok (.iload_n 1, 1) := by decide +kernel
theorem dX12_worked_55 : decode cX12_worked 55 = .ok (.iload_n 2, 1) := by decide +kernel
theorem dX12_worked_64 : decode cX12_worked 64 = .ok (.invokestatic 156, 3) := by decide +kernel
theorem dX12_worked_67 : decode cX12_worked 67 = .ok (.ireturn, 1) := by decide +kernel
theorem dX12_worked_56 : decode cX12_worked 56 = .ok (.if_icmp .le 7, 3) := by decide +kernel
theorem dX12_worked_63 : decode cX12_worked 63 = .ok (.iconst 0, 1) := by decide +kernel
theorem dX12_worked_59 : decode cX12_worked 59 = .ok (.iconst 1, 1) := by decide +kernel
theorem dX12_worked_60 : decode cX12_worked 60 = .ok (.goto 4, 3) := by decide +kernel
theorem dX12_worked_68 : decode cX12_worked 68 = .ok (.iload_n 1, 1) := by decide +kernel
theorem dX12_worked_69 : decode cX12_worked 69 = .ok (.iload_n 2, 1) := by decide +kernel
theorem dX12_worked_78 : decode cX12_worked 78 = .ok (.invokestatic 156, 3) := by decide +kernel
theorem dX12_worked_81 : decode cX12_worked 81 = .ok (.ireturn, 1) := by decide +kernel
theorem dX12_worked_70 : decode cX12_worked 70 = .ok (.if_icmp .ne 7, 3) := by decide +kernel
theorem dX12_worked_77 : decode cX12_worked 77 = .ok (.iconst 0, 1) := by decide +kernel
theorem dX12_worked_73 : decode cX12_worked 73 = .ok (.iconst 1, 1) := by decide +kernel
theorem dX12_worked_74 : decode cX12_worked 74 = .ok (.goto 4, 3) := by decide +kernel
theorem dX12_worked_82 : decode cX12_worked 82 = .ok (.iload_n 1, 1) := by decide +kernel
theorem dX12_worked_83 : decode cX12_worked 83 = .ok (.iload_n 2, 1) := by decide +kernel
theorem dX12_worked_84 : decode cX12_worked 84 = .ok (.iadd, 1) := by decide +kernel
theorem dX12_worked_85 : decode cX12_worked 85 = .ok (.ireturn, 1) := by decide +kernel
theorem dX12_worked_86 : decode cX12_worked 86 = .ok (.iload_n 1, 1) := by decide +kernel
theorem dX12_worked_87 : decode cX12_worked 87 = .ok (.iload_n 2, 1) := by decide +kernel
theorem dX12_worked_88 : decode cX12_worked 88 = .ok (.isub, 1) := by decide +kernel
theorem dX12_worked_89 : decode cX12_worked 89 = .ok (.ireturn, 1) := by decide +kernel
theorem dX12_worked_90 : decode cX12_worked 90 = .ok (.iload_n 1, 1) := by decide +kernel
theorem dX12_worked_91 : decode cX12_worked 91 = .ok (.iload_n 2, 1) := by decide +kernel
theorem dX12_worked_92 : decode cX12_worked 92 = .ok (.imul, 1) := by decide +kernel
theorem dX12_worked_93 : decode cX12_worked 93 = .ok (.ireturn, 1) := by decide +kernel
theorem dX12_worked_94 : decode cX12_worked 94 = .ok (.iload_n 2, 1) := by decide +kernel
theorem dX12_worked_95 : decode cX12_worked 95 = .ok (.ifCond .ne 7, 3) := by decide +kernel
theorem dX12_worked_102 : decode cX12_worked 102 = .ok (.iload_n 1, 1) := by decide +kernel
theorem dX12_worked_103 : decode cX12_worked 103 = .ok (.iload_n 2, 1) := by decide +kernel
theorem dX12_worked_104 : decode cX12_worked 104 = .ok (.idiv, 1) := by decide +kernel
theorem dX12_worked_105 : decode cX12_worked 105 = .ok (.ireturn, 1) := by decide +kernel
theorem dX12_worked_98 : decode cX12_worked 98 = .ok (.iconst 0, 1) := by decide +kernel
theorem dX12_worked_99 : decode cX12_worked 99 = .ok (.goto 6, 3) := by decide +kernel
theorem dX12_ruled_0 : decode cX12_ruled 0 = .ok (.iconst 0, 1) := by decide +kernel
theorem dX12_ruled_1 : decode cX12_ruled 1 = .ok (.istore_n 1, 1) := by decide +kernel
theorem dX12_ruled_2 : decode cX12_ruled 2 = .ok (.iconst 0, 1) := by decide +kernel
theorem dX12_ruled_3 : decode cX12_ruled 3 = .ok (.istore_n 2, 1) := by decide +kernel
theorem dX12_ruled_4 : decode cX12_ruled 4 = .ok (.iload_n 2, 1) := by decide +kernel
theorem dX12_ruled_5 : decode cX12_ruled 5 = .ok (.aload_n 0, 1) := by decide +kernel
theorem dX12_ruled_6 : decode cX12_ruled 6 = .ok (.getfield 248, 3) := by decide +kernel
theorem dX12_ruled_9 : decode cX12_ruled 9 = .ok (.if_icmp .ge 116, 3) := by decide +kernel
theorem dX12_ruled_12 : decode cX12_ruled 12 = .ok (.aload_n 0, 1) := by decide +kernel
theorem dX12_ruled_13 : decode cX12_ruled 13 = .ok (.getfield 44, 3) := by decide +kernel
theorem dX12_ruled_16 : decode cX12_ruled 16 = .ok (.iload_n 2, 1) := by decide +kernel
theorem dX12_ruled_17 : decode cX12_ruled 17 = .ok (.iaload, 1) := by decide +kernel
theorem dX12_ruled_18 : decode cX12_ruled 18 = .ok (.istore_n 3, 1) := by decide +kernel
theorem dX12_ruled_19 : decode cX12_ruled 19 = .ok (.iload_n 3, 1) := by decide +kernel
theorem dX12_ruled_20 : decode cX12_ruled 20 = .ok (.sipush 3000, 3) := by decide +kernel
theorem dX12_ruled_119 : decode cX12_ruled 119 = .ok (.iinc 2 1, 3) := by decide +kernel
theorem dX12_ruled_122 : decode cX12_ruled 122 = .ok (.goto (-118), 3) := by decide +kernel
theorem dX12_ruled_23 : decode cX12_ruled 23 = .ok (.if_icmp .ne 23, 3) := by decide +kernel
theorem dX12_ruled_46 : decode cX12_ruled 46 = .ok (.iload_n 3, 1) := by decide +kernel
theorem dX12_ruled_47 : decode cX12_ruled 47 = .ok (.sipush 2000, 3) := by decide +kernel
theorem dX12_ruled_50 : decode cX12_ruled 50 = .ok (.if_icmp .lt 39, 3) := by decide +kernel
theorem dX12_ruled_89 : decode cX12_ruled 89 = .ok (.aload_n 0, 1) := by decide +kernel
theorem dX12_ruled_90 : decode cX12_ruled 90 = .ok (.getfield 50, 3) := by decide +kernel
theorem dX12_ruled_93 : decode cX12_ruled 93 = .ok (.iload_n 1, 1) := by decide +kernel
theorem dX12_ruled_94 : decode cX12_ruled 94 = .ok (.iload_n 3, 1) := by decide +kernel
theorem dX12_ruled_95 : decode cX12_ruled 95 = .ok (.sipush 1000, 3) := by decide +kernel
theorem dX12_ruled_115 : decode cX12_ruled 115 = .ok (.iastore, 1) := by decide +kernel
theorem dX12_ruled_116 : decode cX12_ruled 116 = .ok (.iinc 1 1, 3) := by decide +kernel
theorem dX12_ruled_98 : decode cX12_ruled 98 = .ok (.if_icmp .lt 16, 3) := by decide +kernel
theorem dX12_ruled_114 : decode cX12_ruled 114 = .ok (.iload_n 3, 1) := by decide +kernel
theorem dX12_ruled_101 : decode cX12_ruled 101 = .ok (.aload_n 0, 1) := by decide +kernel
theorem dX12_ruled_102 : decode cX12_ruled 102 = .ok (.getfield 53, 3) := by decide +kernel
theorem dX12_ruled_105 : decode cX12_ruled 105 = .ok (.iload_n 3, 1) := by decide +kernel
theorem dX12_ruled_106 : decode cX12_ruled 106 = .ok (.sipush 1000, 3) := by decide +kernel
theorem dX12_ruled_109 : decode cX12_ruled 109 = .ok (.isub, 1) := by decide +kernel
theorem dX12_ruled_110 : decode cX12_ruled 110 = .ok (.iaload, 1) := by decide +kernel
theorem dX12_ruled_111 : decode cX12_ruled 111 = .ok (.goto 4, 3) := by decide +kernel
theorem dX12_ruled_53 : decode cX12_ruled 53 = .ok (.iinc 1 (-1), 3) := by decide +kernel
theorem dX12_ruled_56 : decode cX12_ruled 56 = .ok (.aload_n 0, 1) := by decide +kernel
theorem dX12_ruled_57 : decode cX12_ruled 57 = .ok (.getfield 50, 3) := by decide +kernel
theorem dX12_ruled_60 : decode cX12_ruled 60 = .ok (.iload_n 1, 1) := by decide +kernel
theorem dX12_ruled_61 : decode cX12_ruled 61 = .ok (.iconst 1, 1) := by decide +kernel
theorem dX12_ruled_62 : decode cX12_ruled 62 = .ok (.isub, 1) := by decide +kernel
theorem dX12_ruled_63 : decode cX12_ruled 63 = .ok (.iload_n 3, 1) := by decide +kernel
theorem dX12_ruled_64 : decode cX12_ruled 64 = .ok (.sipush 2000, 3) := by decide +kernel
theorem dX12_ruled_67 : decode cX12_ruled 67 = .ok (.isub, 1) := by decide +kernel
theorem dX12_ruled_68 : decode cX12_ruled 68 = .ok (.aload_n 0, 1) := by decide +kernel
theorem dX12_ruled_69 : decode cX12_ruled 69 = .ok (.getfield 50, 3) := by decide +kernel
theorem dX12_ruled_72 : decode cX12_ruled 72 = .ok (.iload_n 1, 1) := by decide +kernel
theorem dX12_ruled_73 : decode cX12_ruled 73 = .ok (.iconst 1, 1) := by decide +kernel
theorem dX12_ruled_74 : decode cX12_ruled 74 = .ok (.isub, 1) := by decide +kernel
theorem dX12_ruled_75 : decode cX12_ruled 75 = .ok (.iaload, 1) := by decide +kernel
theorem dX12_ruled_76 : decode cX12_ruled 76 = .ok (.aload_n 0, 1) := by decide +kernel
theorem dX12_ruled_77 : decode cX12_ruled 77 = .ok (.getfield 50, 3) := by decide +kernel
theorem dX12_ruled_80 : decode cX12_ruled 80 = .ok (.iload_n 1, 1) := by decide +kernel
theorem dX12_ruled_81 : decode cX12_ruled 81 = .ok (.iaload, 1) := by decide +kernel
theorem dX12_ruled_82 : decode cX12_ruled 82 = .ok (.invokestatic 251, 3) := by decide +kernel
theorem dX12_ruled_85 : decode cX12_ruled 85 = .ok (.iastore, 1) := by decide +kernel
theorem dX12_ruled_86 : decode cX12_ruled 86 = .ok (.goto 33, 3) := by decide +kernel
theorem dX12_ruled_26 : decode cX12_ruled 26 = .ok (.aload_n 0, 1) := by decide +kernel
theorem dX12_ruled_27 : decode cX12_ruled 27 = .ok (.getfield 50, 3) := by decide +kernel
theorem dX12_ruled_30 : decode cX12_ruled 30 = .ok (.iload_n 1, 1) := by decide +kernel
theorem dX12_ruled_31 : decode cX12_ruled 31 = .ok (.iconst 1, 1) := by decide +kernel
theorem dX12_ruled_32 : decode cX12_ruled 32 = .ok (.isub, 1) := by decide +kernel
theorem dX12_ruled_33 : decode cX12_ruled 33 = .ok (.aload_n 0, 1) := by decide +kernel
theorem dX12_ruled_34 : decode cX12_ruled 34 = .ok (.getfield 50, 3) := by decide +kernel
theorem dX12_ruled_37 : decode cX12_ruled 37 = .ok (.iload_n 1, 1) := by decide +kernel
theorem dX12_ruled_38 : decode cX12_ruled 38 = .ok (.iconst 1, 1) := by decide +kernel
theorem dX12_ruled_39 : decode cX12_ruled 39 = .ok (.isub, 1) := by decide +kernel
theorem dX12_ruled_40 : decode cX12_ruled 40 = .ok (.iaload, 1) := by decide +kernel
theorem dX12_ruled_41 : decode cX12_ruled 41 = .ok (.ineg, 1) := by decide +kernel
theorem dX12_ruled_42 : decode cX12_ruled 42 = .ok (.iastore, 1) := by decide +kernel
theorem dX12_ruled_43 : decode cX12_ruled 43 = .ok (.goto 76, 3) := by decide +kernel
theorem dX12_ruled_125 : decode cX12_ruled 125 = .ok (.aload_n 0, 1) := by decide +kernel
theorem dX12_ruled_126 : decode cX12_ruled 126 = .ok (.getfield 248, 3) := by decide +kernel
theorem dX12_ruled_129 : decode cX12_ruled 129 = .ok (.ifCond .ne 37, 3) := by decide +kernel
theorem dX12_ruled_166 : decode cX12_ruled 166 = .ok (.aload_n 0, 1) := by decide +kernel
theorem dX12_ruled_167 : decode cX12_ruled 167 = .ok (.getfield 50, 3) := by decide +kernel
theorem dX12_ruled_170 : decode cX12_ruled 170 = .ok (.iconst 0, 1) := by decide +kernel
theorem dX12_ruled_171 : decode cX12_ruled 171 = .ok (.iaload, 1) := by decide +kernel
theorem dX12_ruled_172 : decode cX12_ruled 172 = .ok (.ireturn, 1) := by decide +kernel
theorem dX12_ruled_132 : decode cX12_ruled 132 = .ok (.aload_n 0, 1) := by decide +kernel
theorem dX12_ruled_133 : decode cX12_ruled 133 = .ok (.getfield 53, 3) := by decide +kernel
theorem dX12_ruled_136 : decode cX12_ruled 136 = .ok (.iconst 0, 1) := by decide +kernel
theorem dX12_ruled_137 : decode cX12_ruled 137 = .ok (.iaload, 1) := by decide +kernel
theorem dX12_ruled_138 : decode cX12_ruled 138 = .ok (.iconst 5, 1) := by decide +kernel
theorem dX12_ruled_139 : decode cX12_ruled 139 = .ok (.aload_n 0, 1) := by decide +kernel
theorem dX12_ruled_140 : decode cX12_ruled 140 = .ok (.getfield 53, 3) := by decide +kernel
theorem dX12_ruled_143 : decode cX12_ruled 143 = .ok (.iconst 1, 1) := by decide +kernel
theorem dX12_ruled_144 : decode cX12_ruled 144 = .ok (.iaload, 1) := by decide +kernel
theorem dX12_ruled_145 : decode cX12_ruled 145 = .ok (.imul, 1) := by decide +kernel
theorem dX12_ruled_146 : decode cX12_ruled 146 = .ok (.isub, 1) := by decide +kernel
theorem dX12_ruled_147 : decode cX12_ruled 147 = .ok (.iconst 4, 1) := by decide +kernel
theorem dX12_ruled_148 : decode cX12_ruled 148 = .ok (.aload_n 0, 1) := by decide +kernel
theorem dX12_ruled_149 : decode cX12_ruled 149 = .ok (.getfield 53, 3) := by decide +kernel
theorem dX12_ruled_152 : decode cX12_ruled 152 = .ok (.iconst 2, 1) := by decide +kernel
theorem dX12_ruled_153 : decode cX12_ruled 153 = .ok (.iaload, 1) := by decide +kernel
theorem dX12_ruled_154 : decode cX12_ruled 154 = .ok (.imul, 1) := by decide +kernel
theorem dX12_ruled_155 : decode cX12_ruled 155 = .ok (.isub, 1) := by decide +kernel
theorem dX12_ruled_156 : decode cX12_ruled 156 = .ok (.aload_n 0, 1) := by decide +kernel
theorem dX12_ruled_157 : decode cX12_ruled 157 = .ok (.getfield 53, 3) := by decide +kernel
theorem dX12_ruled_160 : decode cX12_ruled 160 = .ok (.iconst 5, 1) := by decide +kernel
theorem dX12_ruled_161 : decode cX12_ruled 161 = .ok (.iaload, 1) := by decide +kernel
theorem dX12_ruled_162 : decode cX12_ruled 162 = .ok (.isub, 1) := by decide +kernel
theorem dX12_ruled_163 : decode cX12_ruled 163 = .ok (.goto 9, 3) := by decide +kernel
theorem dX12_liftOf_0 : decode cX12_liftOf 0 = .ok (.aload_n 0, 1) := by decide +kernel
theorem dX12_liftOf_1 : decode cX12_liftOf 1 = .ok (.getfield 53, 3) := by decide +kernel
theorem dX12_liftOf_4 : decode cX12_liftOf 4 = .ok (.iconst 0, 1) := by decide +kernel
theorem dX12_liftOf_5 : decode cX12_liftOf 5 = .ok (.aload_n 1, 1) := by decide +kernel
theorem dX12_liftOf_6 : decode cX12_liftOf 6 = .ok (.bipush 7, 2) := by decide +kernel
theorem dX12_liftOf_8 : decode cX12_liftOf 8 = .ok (.iload_n 2, 1) := by decide +kernel
theorem dX12_liftOf_9 : decode cX12_liftOf 9 = .ok (.imul, 1) := by decide +kernel
theorem dX12_liftOf_10 : decode cX12_liftOf 10 = .ok (.iconst 0, 1) := by decide +kernel
theorem dX12_liftOf_11 : decode cX12_liftOf 11 = .ok (.iadd, 1) := by decide +kernel
theorem dX12_liftOf_12 : decode cX12_liftOf 12 = .ok (.iaload, 1) := by decide +kernel
theorem dX12_liftOf_13 : decode cX12_liftOf 13 = .ok (.iastore, 1) := by decide +kernel
theorem dX12_liftOf_14 : decode cX12_liftOf 14 = .ok (.aload_n 0, 1) := by decide +kernel
theorem dX12_liftOf_15 : decode cX12_liftOf 15 = .ok (.getfield 53, 3) := by decide +kernel
theorem dX12_liftOf_18 : decode cX12_liftOf 18 = .ok (.iconst 1, 1) := by decide +kernel
theorem dX12_liftOf_19 : decode cX12_liftOf 19 = .ok (.aload_n 1, 1) := by decide +kernel
theorem dX12_liftOf_20 : decode cX12_liftOf 20 = .ok (.bipush 7, 2) := by decide +kernel
theorem dX12_liftOf_22 : decode cX12_liftOf 22 = .ok (.iload_n 2, 1) := by decide +kernel
theorem dX12_liftOf_23 : decode cX12_liftOf 23 = .ok (.imul, 1) := by decide +kernel
theorem dX12_liftOf_24 : decode cX12_liftOf 24 = .ok (.iconst 1, 1) := by decide +kernel
theorem dX12_liftOf_25 : decode cX12_liftOf 25 = .ok (.iadd, 1) := by decide +kernel
theorem dX12_liftOf_26 : decode cX12_liftOf 26 = .ok (.iaload, 1) := by decide +kernel
theorem dX12_liftOf_27 : decode cX12_liftOf 27 = .ok (.iastore, 1) := by decide +kernel
theorem dX12_liftOf_28 : decode cX12_liftOf 28 = .ok (.aload_n 0, 1) := by decide +kernel
theorem dX12_liftOf_29 : decode cX12_liftOf 29 = .ok (.getfield 53, 3) := by decide +kernel
theorem dX12_liftOf_32 : decode cX12_liftOf 32 = .ok (.iconst 2, 1) := by decide +kernel
theorem dX12_liftOf_33 : decode cX12_liftOf 33 = .ok (.aload_n 1, 1) := by decide +kernel
theorem dX12_liftOf_34 : decode cX12_liftOf 34 = .ok (.bipush 7, 2) := by decide +kernel
theorem dX12_liftOf_36 : decode cX12_liftOf 36 = .ok (.iload_n 2, 1) := by decide +kernel
theorem dX12_liftOf_37 : decode cX12_liftOf 37 = .ok (.imul, 1) := by decide +kernel
theorem dX12_liftOf_38 : decode cX12_liftOf 38 = .ok (.iconst 2, 1) := by decide +kernel
theorem dX12_liftOf_39 : decode cX12_liftOf 39 = .ok (.iadd, 1) := by decide +kernel
theorem dX12_liftOf_40 : decode cX12_liftOf 40 = .ok (.iaload, 1) := by decide +kernel
theorem dX12_liftOf_41 : decode cX12_liftOf 41 = .ok (.iastore, 1) := by decide +kernel
theorem dX12_liftOf_42 : decode cX12_liftOf 42 = .ok (.aload_n 0, 1) := by decide +kernel
theorem dX12_liftOf_43 : decode cX12_liftOf 43 = .ok (.getfield 53, 3) := by decide +kernel
theorem dX12_liftOf_46 : decode cX12_liftOf 46 = .ok (.iconst 3, 1) := by decide +kernel
theorem dX12_liftOf_47 : decode cX12_liftOf 47 = .ok (.aload_n 0, 1) := by decide +kernel
theorem dX12_liftOf_48 : decode cX12_liftOf 48 = .ok (.getfield 23, 3) := by decide +kernel
theorem dX12_liftOf_51 : decode cX12_liftOf 51 = .ok (.iload_n 2, 1) := by decide +kernel
theorem dX12_liftOf_52 : decode cX12_liftOf 52 = .ok (.iaload, 1) := by decide +kernel
theorem dX12_liftOf_53 : decode cX12_liftOf 53 = .ok (.iastore, 1) := by decide +kernel
theorem dX12_liftOf_54 : decode cX12_liftOf 54 = .ok (.aload_n 0, 1) := by decide +kernel
theorem dX12_liftOf_55 : decode cX12_liftOf 55 = .ok (.getfield 53, 3) := by decide +kernel
theorem dX12_liftOf_58 : decode cX12_liftOf 58 = .ok (.iconst 4, 1) := by decide +kernel
theorem dX12_liftOf_59 : decode cX12_liftOf 59 = .ok (.aload_n 0, 1) := by decide +kernel
theorem dX12_liftOf_60 : decode cX12_liftOf 60 = .ok (.getfield 20, 3) := by decide +kernel
theorem dX12_liftOf_63 : decode cX12_liftOf 63 = .ok (.iload_n 2, 1) := by decide +kernel
theorem dX12_liftOf_64 : decode cX12_liftOf 64 = .ok (.iaload, 1) := by decide +kernel
theorem dX12_liftOf_65 : decode cX12_liftOf 65 = .ok (.iastore, 1) := by decide +kernel
theorem dX12_liftOf_66 : decode cX12_liftOf 66 = .ok (.aload_n 0, 1) := by decide +kernel
theorem dX12_liftOf_67 : decode cX12_liftOf 67 = .ok (.getfield 53, 3) := by decide +kernel
theorem dX12_liftOf_70 : decode cX12_liftOf 70 = .ok (.iconst 5, 1) := by decide +kernel
theorem dX12_liftOf_71 : decode cX12_liftOf 71 = .ok (.aload_n 0, 1) := by decide +kernel
theorem dX12_liftOf_72 : decode cX12_liftOf 72 = .ok (.getfield 255, 3) := by decide +kernel
theorem dX12_liftOf_75 : decode cX12_liftOf 75 = .ok (.iastore, 1) := by decide +kernel
theorem dX12_liftOf_76 : decode cX12_liftOf 76 = .ok (.aload_n 0, 1) := by decide +kernel
theorem dX12_liftOf_77 : decode cX12_liftOf 77 = .ok (.getfield 53, 3) := by decide +kernel
theorem dX12_liftOf_80 : decode cX12_liftOf 80 = .ok (.bipush 6, 2) := by decide +kernel
theorem dX12_liftOf_82 : decode cX12_liftOf 82 = .ok (.aload_n 1, 1) := by decide +kernel
theorem dX12_liftOf_83 : decode cX12_liftOf 83 = .ok (.bipush 42, 2) := by decide +kernel
theorem dX12_liftOf_85 : decode cX12_liftOf 85 = .ok (.iaload, 1) := by decide +kernel
theorem dX12_liftOf_86 : decode cX12_liftOf 86 = .ok (.bipush 24, 2) := by decide +kernel
theorem dX12_liftOf_88 : decode cX12_liftOf 88 = .ok (.irem, 1) := by decide +kernel
theorem dX12_liftOf_89 : decode cX12_liftOf 89 = .ok (.iastore, 1) := by decide +kernel
theorem dX12_liftOf_90 : decode cX12_liftOf 90 = .ok (.aload_n 0, 1) := by decide +kernel
theorem dX12_liftOf_91 : decode cX12_liftOf 91 = .ok (.getfield 53, 3) := by decide +kernel
theorem dX12_liftOf_94 : decode cX12_liftOf 94 = .ok (.bipush 7, 2) := by decide +kernel
theorem dX12_liftOf_96 : decode cX12_liftOf 96 = .ok (.iload_n 2, 1) := by decide +kernel
theorem dX12_liftOf_97 : decode cX12_liftOf 97 = .ok (.iastore, 1) := by decide +kernel
theorem dX12_liftOf_98 : decode cX12_liftOf 98 = .ok (.aload_n 0, 1) := by decide +kernel
theorem dX12_liftOf_99 : decode cX12_liftOf 99 = .ok (.invokevirtual 258, 3) := by decide +kernel
theorem dX12_liftOf_102 : decode cX12_liftOf 102 = .ok (.ireturn, 1) := by decide +kernel
theorem dX12_highOf_0 : decode cX12_highOf 0 = .ok (.iconst 0, 1) := by decide +kernel
theorem dX12_highOf_1 : decode cX12_highOf 1 = .ok (.bipush 9, 2) := by decide +kernel
theorem dX12_highOf_3 : decode cX12_highOf 3 = .ok (.aload_n 0, 1) := by decide +kernel
theorem dX12_highOf_4 : decode cX12_highOf 4 = .ok (.aload_n 1, 1) := by decide +kernel
theorem dX12_highOf_5 : decode cX12_highOf 5 = .ok (.iload_n 2, 1) := by decide +kernel
theorem dX12_highOf_6 : decode cX12_highOf 6 = .ok (.invokevirtual 261, 3) := by decide +kernel
theorem dX12_highOf_9 : decode cX12_highOf 9 = .ok (.bipush 10, 2) := by decide +kernel
theorem dX12_highOf_11 : decode cX12_highOf 11 = .ok (.idiv, 1) := by decide +kernel
theorem dX12_highOf_12 : decode cX12_highOf 12 = .ok (.invokestatic 147, 3) := by decide +kernel
theorem dX12_highOf_15 : decode cX12_highOf 15 = .ok (.invokestatic 265, 3) := by decide +kernel
theorem dX12_highOf_18 : decode cX12_highOf 18 = .ok (.ireturn, 1) := by decide +kernel
theorem dX12_heavy_0 : decode cX12_heavy 0 = .ok (.iconst 5, 1) := by decide +kernel
theorem dX12_heavy_1 : decode cX12_heavy 1 = .ok (.aload_n 0, 1) := by decide +kernel
theorem dX12_heavy_2 : decode cX12_heavy 2 = .ok (.getfield 32, 3) := by decide +kernel
theorem dX12_heavy_5 : decode cX12_heavy 5 = .ok (.bipush 7, 2) := by decide +kernel
theorem dX12_heavy_7 : decode cX12_heavy 7 = .ok (.iload_n 1, 1) := by decide +kernel
theorem dX12_heavy_8 : decode cX12_heavy 8 = .ok (.imul, 1) := by decide +kernel
theorem dX12_heavy_9 : decode cX12_heavy 9 = .ok (.iconst 1, 1) := by decide +kernel
theorem dX12_heavy_10 : decode cX12_heavy 10 = .ok (.iadd, 1) := by decide +kernel
theorem dX12_heavy_11 : decode cX12_heavy 11 = .ok (.iaload, 1) := by decide +kernel
theorem dX12_heavy_12 : decode cX12_heavy 12 = .ok (.imul, 1) := by decide +kernel
theorem dX12_heavy_13 : decode cX12_heavy 13 = .ok (.iconst 4, 1) := by decide +kernel
theorem dX12_heavy_14 : decode cX12_heavy 14 = .ok (.aload_n 0, 1) := by decide +kernel
theorem dX12_heavy_15 : decode cX12_heavy 15 = .ok (.getfield 32, 3) := by decide +kernel
theorem dX12_heavy_18 : decode cX12_heavy 18 = .ok (.bipush 7, 2) := by decide +kernel
theorem dX12_heavy_20 : decode cX12_heavy 20 = .ok (.iload_n 1, 1) := by decide +kernel
theorem dX12_heavy_21 : decode cX12_heavy 21 = .ok (.imul, 1) := by decide +kernel
theorem dX12_heavy_22 : decode cX12_heavy 22 = .ok (.iconst 2, 1) := by decide +kernel
theorem dX12_heavy_23 : decode cX12_heavy 23 = .ok (.iadd, 1) := by decide +kernel
theorem dX12_heavy_24 : decode cX12_heavy 24 = .ok (.iaload, 1) := by decide +kernel
theorem dX12_heavy_25 : decode cX12_heavy 25 = .ok (.imul, 1) := by decide +kernel
theorem dX12_heavy_26 : decode cX12_heavy 26 = .ok (.iadd, 1) := by decide +kernel
theorem dX12_heavy_27 : decode cX12_heavy 27 = .ok (.ireturn, 1) := by decide +kernel
theorem dX12_mooredAt_0 : decode cX12_mooredAt 0 = .ok (.iconst (-1), 1) := by decide +kernel
theorem dX12_mooredAt_1 : decode cX12_mooredAt 1 = .ok (.istore_n 2, 1) := by decide +kernel
theorem dX12_mooredAt_2 : decode cX12_mooredAt 2 = .ok (.iconst 0, 1) := by decide +kernel
theorem dX12_mooredAt_3 : decode cX12_mooredAt 3 = .ok (.istore_n 3, 1) := by decide +kernel
theorem dX12_mooredAt_4 : decode cX12_mooredAt 4 = .ok (.iload_n 3, 1) := by decide +kernel
theorem dX12_mooredAt_5 : decode cX12_mooredAt 5 = .ok (.aload_n 0, 1) := by decide +kernel
theorem dX12_mooredAt_6 : decode cX12_mooredAt 6 = .ok (.getfield 135, 3) := by decide +kernel
theorem dX12_mooredAt_9 : decode cX12_mooredAt 9 = .ok (.if_icmp .ge 39, 3) := by decide +kernel
theorem dX12_mooredAt_12 : decode cX12_mooredAt 12 = .ok (.aload_n 0, 1) := by decide +kernel
theorem dX12_mooredAt_13 : decode cX12_mooredAt 13 = .ok (.iload_n 3, 1) := by decide +kernel
theorem dX12_mooredAt_14 : decode cX12_mooredAt 14 = .ok (.invokevirtual 268, 3) := by decide +kernel
theorem dX12_mooredAt_17 : decode cX12_mooredAt 17 = .ok (.iconst 2, 1) := by decide +kernel
theorem dX12_mooredAt_41 : decode cX12_mooredAt 41 = .ok (.istore_n 2, 1) := by decide +kernel
theorem dX12_mooredAt_42 : decode cX12_mooredAt 42 = .ok (.iinc 3 1, 3) := by decide +kernel
theorem dX12_mooredAt_45 : decode cX12_mooredAt 45 = .ok (.goto (-41), 3) := by decide +kernel
theorem dX12_mooredAt_40 : decode cX12_mooredAt 40 = .ok (.iload_n 2, 1) := by decide +kernel
theorem dX12_mooredAt_18 : decode cX12_mooredAt 18 = .ok (.if_icmp .ne 22, 3) := by decide +kernel
theorem dX12_mooredAt_21 : decode cX12_mooredAt 21 = .ok (.aload_n 0, 1) := by decide +kernel
theorem dX12_mooredAt_22 : decode cX12_mooredAt 22 = .ok (.getfield 32, 3) := by decide +kernel
theorem dX12_mooredAt_25 : decode cX12_mooredAt 25 = .ok (.bipush 7, 2) := by decide +kernel
theorem dX12_mooredAt_27 : decode cX12_mooredAt 27 = .ok (.iload_n 3, 1) := by decide +kernel
theorem dX12_mooredAt_28 : decode cX12_mooredAt 28 = .ok (.imul, 1) := by decide +kernel
theorem dX12_mooredAt_29 : decode cX12_mooredAt 29 = .ok (.iconst 4, 1) := by decide +kernel
theorem dX12_mooredAt_30 : decode cX12_mooredAt 30 = .ok (.iadd, 1) := by decide +kernel
theorem dX12_mooredAt_31 : decode cX12_mooredAt 31 = .ok (.iaload, 1) := by decide +kernel
theorem dX12_mooredAt_32 : decode cX12_mooredAt 32 = .ok (.iload_n 1, 1) := by decide +kernel
theorem dX12_mooredAt_33 : decode cX12_mooredAt 33 = .ok (.if_icmp .ne 7, 3) := by decide +kernel
theorem dX12_mooredAt_36 : decode cX12_mooredAt 36 = .ok (.iload_n 3, 1) := by decide +kernel
theorem dX12_mooredAt_37 : decode cX12_mooredAt 37 = .ok (.goto 4, 3) := by decide +kernel
theorem dX12_mooredAt_48 : decode cX12_mooredAt 48 = .ok (.iload_n 2, 1) := by decide +kernel
theorem dX12_mooredAt_49 : decode cX12_mooredAt 49 = .ok (.ireturn, 1) := by decide +kernel
theorem dX12_cellOf_0 : decode cX12_cellOf 0 = .ok (.aload_n 0, 1) := by decide +kernel
theorem dX12_cellOf_1 : decode cX12_cellOf 1 = .ok (.bipush 7, 2) := by decide +kernel
theorem dX12_cellOf_3 : decode cX12_cellOf 3 = .ok (.iload_n 1, 1) := by decide +kernel
theorem dX12_cellOf_4 : decode cX12_cellOf 4 = .ok (.imul, 1) := by decide +kernel
theorem dX12_cellOf_5 : decode cX12_cellOf 5 = .ok (.iconst 3, 1) := by decide +kernel
theorem dX12_cellOf_6 : decode cX12_cellOf 6 = .ok (.iadd, 1) := by decide +kernel
theorem dX12_cellOf_7 : decode cX12_cellOf 7 = .ok (.iaload, 1) := by decide +kernel
theorem dX12_cellOf_8 : decode cX12_cellOf 8 = .ok (.iconst 1, 1) := by decide +kernel
theorem dX12_cellOf_9 : decode cX12_cellOf 9 = .ok (.if_icmp .ne 33, 3) := by decide +kernel
theorem dX12_cellOf_42 : decode cX12_cellOf 42 = .ok (.iconst (-1), 1) := by decide +kernel
theorem dX12_cellOf_43 : decode cX12_cellOf 43 = .ok (.ireturn, 1) := by decide +kernel
theorem dX12_cellOf_12 : decode cX12_cellOf 12 = .ok (.bipush 19, 2) := by decide +kernel
theorem dX12_cellOf_14 : decode cX12_cellOf 14 = .ok (.aload_n 0, 1) := by decide +kernel
theorem dX12_cellOf_15 : decode cX12_cellOf 15 = .ok (.bipush 7, 2) := by decide +kernel
theorem dX12_cellOf_17 : decode cX12_cellOf 17 = .ok (.iload_n 1, 1) := by decide +kernel
theorem dX12_cellOf_18 : decode cX12_cellOf 18 = .ok (.imul, 1) := by decide +kernel
theorem dX12_cellOf_19 : decode cX12_cellOf 19 = .ok (.bipush 6, 2) := by decide +kernel
theorem dX12_cellOf_21 : decode cX12_cellOf 21 = .ok (.iadd, 1) := by decide +kernel
theorem dX12_cellOf_22 : decode cX12_cellOf 22 = .ok (.iaload, 1) := by decide +kernel
theorem dX12_cellOf_23 : decode cX12_cellOf 23 = .ok (.bipush 9, 2) := by decide +kernel
theorem dX12_cellOf_25 : decode cX12_cellOf 25 = .ok (.iadd, 1) := by decide +kernel
theorem dX12_cellOf_26 : decode cX12_cellOf 26 = .ok (.imul, 1) := by decide +kernel
theorem dX12_cellOf_27 : decode cX12_cellOf 27 = .ok (.aload_n 0, 1) := by decide +kernel
theorem dX12_cellOf_28 : decode cX12_cellOf 28 = .ok (.bipush 7, 2) := by decide +kernel
theorem dX12_cellOf_30 : decode cX12_cellOf 30 = .ok (.iload_n 1, 1) := by decide +kernel
theorem dX12_cellOf_31 : decode cX12_cellOf 31 = .ok (.imul, 1) := by decide +kernel
theorem dX12_cellOf_32 : decode cX12_cellOf 32 = .ok (.iconst 5, 1) := by decide +kernel
theorem dX12_cellOf_33 : decode cX12_cellOf 33 = .ok (.iadd, 1) := by decide +kernel
theorem dX12_cellOf_34 : decode cX12_cellOf 34 = .ok (.iaload, 1) := by decide +kernel
theorem dX12_cellOf_35 : decode cX12_cellOf 35 = .ok (.iadd, 1) := by decide +kernel
theorem dX12_cellOf_36 : decode cX12_cellOf 36 = .ok (.bipush 9, 2) := by decide +kernel
theorem dX12_cellOf_38 : decode cX12_cellOf 38 = .ok (.iadd, 1) := by decide +kernel
theorem dX12_cellOf_39 : decode cX12_cellOf 39 = .ok (.goto 4, 3) := by decide +kernel
theorem dX12_ringOf_0 : decode cX12_ringOf 0 = .ok (.aload_n 0, 1) := by decide +kernel
theorem dX12_ringOf_1 : decode cX12_ringOf 1 = .ok (.bipush 7, 2) := by decide +kernel
theorem dX12_ringOf_3 : decode cX12_ringOf 3 = .ok (.iload_n 1, 1) := by decide +kernel
theorem dX12_ringOf_4 : decode cX12_ringOf 4 = .ok (.imul, 1) := by decide +kernel
theorem dX12_ringOf_5 : decode cX12_ringOf 5 = .ok (.iconst 3, 1) := by decide +kernel
theorem dX12_ringOf_6 : decode cX12_ringOf 6 = .ok (.iadd, 1) := by decide +kernel
theorem dX12_ringOf_7 : decode cX12_ringOf 7 = .ok (.iaload, 1) := by decide +kernel
theorem dX12_ringOf_8 : decode cX12_ringOf 8 = .ok (.iconst 2, 1) := by decide +kernel
theorem dX12_ringOf_9 : decode cX12_ringOf 9 = .ok (.if_icmp .ne 14, 3) := by decide +kernel
theorem dX12_ringOf_23 : decode cX12_ringOf 23 = .ok (.iconst (-1), 1) := by decide +kernel
theorem dX12_ringOf_24 : decode cX12_ringOf 24 = .ok (.ireturn, 1) := by decide +kernel
theorem dX12_ringOf_12 : decode cX12_ringOf 12 = .ok (.aload_n 0, 1) := by decide +kernel
theorem dX12_ringOf_13 : decode cX12_ringOf 13 = .ok (.bipush 7, 2) := by decide +kernel
theorem dX12_ringOf_15 : decode cX12_ringOf 15 = .ok (.iload_n 1, 1) := by decide +kernel
theorem dX12_ringOf_16 : decode cX12_ringOf 16 = .ok (.imul, 1) := by decide +kernel
theorem dX12_ringOf_17 : decode cX12_ringOf 17 = .ok (.iconst 4, 1) := by decide +kernel
theorem dX12_ringOf_18 : decode cX12_ringOf 18 = .ok (.iadd, 1) := by decide +kernel
theorem dX12_ringOf_19 : decode cX12_ringOf 19 = .ok (.iaload, 1) := by decide +kernel
theorem dX12_ringOf_20 : decode cX12_ringOf 20 = .ok (.goto 4, 3) := by decide +kernel
theorem dX12_ring_0 : decode cX12_ring 0 = .ok (.aload_n 0, 1) := by decide +kernel
theorem dX12_ring_1 : decode cX12_ring 1 = .ok (.iconst 0, 1) := by decide +kernel
theorem dX12_ring_2 : decode cX12_ring 2 = .ok (.putfield 117, 3) := by decide +kernel
theorem dX12_ring_5 : decode cX12_ring 5 = .ok (.aload_n 0, 1) := by decide +kernel
theorem dX12_ring_6 : decode cX12_ring 6 = .ok (.iload_n 1, 1) := by decide +kernel
theorem dX12_ring_7 : decode cX12_ring 7 = .ok (.invokevirtual 271, 3) := by decide +kernel
theorem dX12_ring_25 : decode cX12_ring 25 = .ok (.aload_n 0, 1) := by decide +kernel
theorem dX12_ring_26 : decode cX12_ring 26 = .ok (.invokevirtual 276, 3) := by decide +kernel
theorem dX12_ring_29 : decode cX12_ring 29 = .ok (.ireturn, 1) := by decide +kernel
theorem dX12_ring_10 : decode cX12_ring 10 = .ok (.ifCond .eq 15, 3) := by decide +kernel
theorem dX12_ring_13 : decode cX12_ring 13 = .ok (.iload_n 2, 1) := by decide +kernel
theorem dX12_ring_14 : decode cX12_ring 14 = .ok (.i2l, 1) := by decide +kernel
theorem dX12_ring_15 : decode cX12_ring 15 = .ok (.lconst 0, 1) := by decide +kernel
theorem dX12_ring_16 : decode cX12_ring 16 = .ok (.ldc2_w 274, 3) := by decide +kernel
theorem dX12_ring_19 : decode cX12_ring 19 = .ok (.invokestatic 131, 3) := by decide +kernel
theorem dX12_ring_22 : decode cX12_ring 22 = .ok (.ifCond .ne 8, 3) := by decide +kernel
theorem dX12_ring_30 : decode cX12_ring 30 = .ok (.iload_n 2, 1) := by decide +kernel
theorem dX12_ring_31 : decode cX12_ring 31 = .ok (.tableswitch 61 0 3 #[29, 36, 43, 49], 29) := by decide +kernel
theorem dX12_ring_60 : decode cX12_ring 60 = .ok (.aload_n 0, 1) := by decide +kernel
theorem dX12_ring_61 : decode cX12_ring 61 = .ok (.getfield 13, 3) := by decide +kernel
theorem dX12_ring_64 : decode cX12_ring 64 = .ok (.iload_n 1, 1) := by decide +kernel
theorem dX12_ring_65 : decode cX12_ring 65 = .ok (.iaload, 1) := by decide +kernel
theorem dX12_ring_66 : decode cX12_ring 66 = .ok (.ireturn, 1) := by decide +kernel
theorem dX12_ring_67 : decode cX12_ring 67 = .ok (.aload_n 0, 1) := by decide +kernel
theorem dX12_ring_68 : decode cX12_ring 68 = .ok (.getfield 17, 3) := by decide +kernel
theorem dX12_ring_71 : decode cX12_ring 71 = .ok (.iload_n 1, 1) := by decide +kernel
theorem dX12_ring_72 : decode cX12_ring 72 = .ok (.iaload, 1) := by decide +kernel
theorem dX12_ring_73 : decode cX12_ring 73 = .ok (.ireturn, 1) := by decide +kernel
theorem dX12_ring_74 : decode cX12_ring 74 = .ok (.aload_n 0, 1) := by decide +kernel
theorem dX12_ring_75 : decode cX12_ring 75 = .ok (.iload_n 1, 1) := by decide +kernel
theorem dX12_ring_76 : decode cX12_ring 76 = .ok (.invokevirtual 279, 3) := by decide +kernel
theorem dX12_ring_79 : decode cX12_ring 79 = .ok (.ireturn, 1) := by decide +kernel
theorem dX12_ring_80 : decode cX12_ring 80 = .ok (.aload_n 0, 1) := by decide +kernel
theorem dX12_ring_81 : decode cX12_ring 81 = .ok (.getfield 26, 3) := by decide +kernel
theorem dX12_ring_84 : decode cX12_ring 84 = .ok (.aload_n 0, 1) := by decide +kernel
theorem dX12_ring_85 : decode cX12_ring 85 = .ok (.getfield 13, 3) := by decide +kernel
theorem dX12_ring_88 : decode cX12_ring 88 = .ok (.iload_n 1, 1) := by decide +kernel
theorem dX12_ring_89 : decode cX12_ring 89 = .ok (.iaload, 1) := by decide +kernel
theorem dX12_ring_90 : decode cX12_ring 90 = .ok (.iaload, 1) := by decide +kernel
theorem dX12_ring_91 : decode cX12_ring 91 = .ok (.ireturn, 1) := by decide +kernel
theorem dX12_ring_92 : decode cX12_ring 92 = .ok (.aload_n 0, 1) := by decide +kernel
theorem dX12_ring_93 : decode cX12_ring 93 = .ok (.getfield 29, 3) := by decide +kernel
theorem dX12_ring_96 : decode cX12_ring 96 = .ok (.aload_n 0, 1) := by decide +kernel
theorem dX12_ring_97 : decode cX12_ring 97 = .ok (.getfield 13, 3) := by decide +kernel
theorem dX12_ring_100 : decode cX12_ring 100 = .ok (.iload_n 1, 1) := by decide +kernel
theorem dX12_ring_101 : decode cX12_ring 101 = .ok (.iaload, 1) := by decide +kernel
theorem dX12_ring_102 : decode cX12_ring 102 = .ok (.iaload, 1) := by decide +kernel
theorem dX12_ring_103 : decode cX12_ring 103 = .ok (.ireturn, 1) := by decide +kernel
theorem dX12_balloon_0 : decode cX12_balloon 0 = .ok (.aload_n 0, 1) := by decide +kernel
theorem dX12_balloon_1 : decode cX12_balloon 1 = .ok (.iconst 0, 1) := by decide +kernel
theorem dX12_balloon_2 : decode cX12_balloon 2 = .ok (.putfield 117, 3) := by decide +kernel
theorem dX12_balloon_5 : decode cX12_balloon 5 = .ok (.aload_n 0, 1) := by decide +kernel
theorem dX12_balloon_6 : decode cX12_balloon 6 = .ok (.iload_n 1, 1) := by decide +kernel
theorem dX12_balloon_7 : decode cX12_balloon 7 = .ok (.invokevirtual 282, 3) := by decide +kernel
theorem dX12_balloon_25 : decode cX12_balloon 25 = .ok (.aload_n 0, 1) := by decide +kernel
theorem dX12_balloon_26 : decode cX12_balloon 26 = .ok (.invokevirtual 276, 3) := by decide +kernel
theorem dX12_balloon_29 : decode cX12_balloon 29 = .ok (.ireturn, 1) := by decide +kernel
theorem dX12_balloon_10 : decode cX12_balloon 10 = .ok (.ifCond .eq 15, 3) := by decide +kernel
theorem dX12_balloon_13 : decode cX12_balloon 13 = .ok (.iload_n 2, 1) := by decide +kernel
theorem dX12_balloon_14 : decode cX12_balloon 14 = .ok (.i2l, 1) := by decide +kernel
theorem dX12_balloon_15 : decode cX12_balloon 15 = .ok (.lconst 0, 1) := by decide +kernel
theorem dX12_balloon_16 : decode cX12_balloon 16 = .ok (.ldc2_w 285, 3) := by decide +kernel
theorem dX12_balloon_19 : decode cX12_balloon 19 = .ok (.invokestatic 131, 3) := by decide +kernel
theorem dX12_balloon_22 : decode cX12_balloon 22 = .ok (.ifCond .ne 8, 3) := by decide +kernel
theorem dX12_balloon_30 : decode cX12_balloon 30 = .ok (.iload_n 2, 1) := by decide +kernel
theorem dX12_balloon_31 : decode cX12_balloon 31 = .ok (.tableswitch 95 3 9 #[41, 48, 55, 61, 71, 77, 86], 41) := by decide +kernel
theorem dX12_balloon_72 : decode cX12_balloon 72 = .ok (.aload_n 0, 1) := by decide +kernel
theorem dX12_balloon_73 : decode cX12_balloon 73 = .ok (.getfield 20, 3) := by decide +kernel
theorem dX12_balloon_76 : decode cX12_balloon 76 = .ok (.iload_n 1, 1) := by decide +kernel
theorem dX12_balloon_77 : decode cX12_balloon 77 = .ok (.iaload, 1) := by decide +kernel
theorem dX12_balloon_78 : decode cX12_balloon 78 = .ok (.ireturn, 1) := by decide +kernel
theorem dX12_balloon_79 : decode cX12_balloon 79 = .ok (.aload_n 0, 1) := by decide +kernel
theorem dX12_balloon_80 : decode cX12_balloon 80 = .ok (.getfield 23, 3) := by decide +kernel
theorem dX12_balloon_83 : decode cX12_balloon 83 = .ok (.iload_n 1, 1) := by decide +kernel
theorem dX12_balloon_84 : decode cX12_balloon 84 = .ok (.iaload, 1) := by decide +kernel
theorem dX12_balloon_85 : decode cX12_balloon 85 = .ok (.ireturn, 1) := by decide +kernel
theorem dX12_balloon_86 : decode cX12_balloon 86 = .ok (.aload_n 0, 1) := by decide +kernel
theorem dX12_balloon_87 : decode cX12_balloon 87 = .ok (.iload_n 1, 1) := by decide +kernel
theorem dX12_balloon_88 : decode cX12_balloon 88 = .ok (.invokevirtual 287, 3) := by decide +kernel
theorem dX12_balloon_91 : decode cX12_balloon 91 = .ok (.ireturn, 1) := by decide +kernel
theorem dX12_balloon_92 : decode cX12_balloon 92 = .ok (.aload_n 0, 1) := by decide +kernel
theorem dX12_balloon_93 : decode cX12_balloon 93 = .ok (.aload_n 0, 1) := by decide +kernel
theorem dX12_balloon_94 : decode cX12_balloon 94 = .ok (.getfield 32, 3) := by decide +kernel
theorem dX12_balloon_97 : decode cX12_balloon 97 = .ok (.iload_n 1, 1) := by decide +kernel
theorem dX12_balloon_98 : decode cX12_balloon 98 = .ok (.invokevirtual 290, 3) := by decide +kernel
theorem dX12_balloon_101 : decode cX12_balloon 101 = .ok (.ireturn, 1) := by decide +kernel
theorem dX12_balloon_102 : decode cX12_balloon 102 = .ok (.aload_n 0, 1) := by decide +kernel
theorem dX12_balloon_103 : decode cX12_balloon 103 = .ok (.iload_n 1, 1) := by decide +kernel
theorem dX12_balloon_104 : decode cX12_balloon 104 = .ok (.invokevirtual 268, 3) := by decide +kernel
theorem dX12_balloon_107 : decode cX12_balloon 107 = .ok (.ireturn, 1) := by decide +kernel
theorem dX12_balloon_108 : decode cX12_balloon 108 = .ok (.aload_n 0, 1) := by decide +kernel
theorem dX12_balloon_109 : decode cX12_balloon 109 = .ok (.getfield 32, 3) := by decide +kernel
theorem dX12_balloon_112 : decode cX12_balloon 112 = .ok (.iload_n 1, 1) := by decide +kernel
theorem dX12_balloon_113 : decode cX12_balloon 113 = .ok (.invokestatic 293, 3) := by decide +kernel
theorem dX12_balloon_116 : decode cX12_balloon 116 = .ok (.ireturn, 1) := by decide +kernel
theorem dX12_balloon_117 : decode cX12_balloon 117 = .ok (.aload_n 0, 1) := by decide +kernel
theorem dX12_balloon_118 : decode cX12_balloon 118 = .ok (.getfield 32, 3) := by decide +kernel
theorem dX12_balloon_121 : decode cX12_balloon 121 = .ok (.iload_n 1, 1) := by decide +kernel
theorem dX12_balloon_122 : decode cX12_balloon 122 = .ok (.invokestatic 296, 3) := by decide +kernel
theorem dX12_balloon_125 : decode cX12_balloon 125 = .ok (.ireturn, 1) := by decide +kernel
theorem dX12_balloon_126 : decode cX12_balloon 126 = .ok (.aload_n 0, 1) := by decide +kernel
theorem dX12_balloon_127 : decode cX12_balloon 127 = .ok (.getfield 32, 3) := by decide +kernel
theorem dX12_balloon_130 : decode cX12_balloon 130 = .ok (.bipush 7, 2) := by decide +kernel
theorem dX12_balloon_132 : decode cX12_balloon 132 = .ok (.iload_n 1, 1) := by decide +kernel
theorem dX12_balloon_133 : decode cX12_balloon 133 = .ok (.imul, 1) := by decide +kernel
theorem dX12_balloon_134 : decode cX12_balloon 134 = .ok (.iload_n 2, 1) := by decide +kernel
theorem dX12_balloon_135 : decode cX12_balloon 135 = .ok (.iadd, 1) := by decide +kernel
theorem dX12_balloon_136 : decode cX12_balloon 136 = .ok (.iaload, 1) := by decide +kernel
theorem dX12_balloon_137 : decode cX12_balloon 137 = .ok (.ireturn, 1) := by decide +kernel
theorem dX12_lift_0 : decode cX12_lift 0 = .ok (.aload_n 0, 1) := by decide +kernel
theorem dX12_lift_1 : decode cX12_lift 1 = .ok (.iconst 0, 1) := by decide +kernel
theorem dX12_lift_2 : decode cX12_lift 2 = .ok (.putfield 117, 3) := by decide +kernel
theorem dX12_lift_5 : decode cX12_lift 5 = .ok (.aload_n 0, 1) := by decide +kernel
theorem dX12_lift_6 : decode cX12_lift 6 = .ok (.iload_n 1, 1) := by decide +kernel
theorem dX12_lift_7 : decode cX12_lift 7 = .ok (.invokevirtual 282, 3) := by decide +kernel
theorem dX12_lift_10 : decode cX12_lift 10 = .ok (.ifCond .eq 15, 3) := by decide +kernel
theorem dX12_lift_25 : decode cX12_lift 25 = .ok (.aload_n 0, 1) := by decide +kernel
theorem dX12_lift_26 : decode cX12_lift 26 = .ok (.invokevirtual 276, 3) := by decide +kernel
theorem dX12_lift_29 : decode cX12_lift 29 = .ok (.ireturn, 1) := by decide +kernel
theorem dX12_lift_13 : decode cX12_lift 13 = .ok (.aload_n 0, 1) := by decide +kernel
theorem dX12_lift_14 : decode cX12_lift 14 = .ok (.aload_n 0, 1) := by decide +kernel
theorem dX12_lift_15 : decode cX12_lift 15 = .ok (.getfield 32, 3) := by decide +kernel
theorem dX12_lift_18 : decode cX12_lift 18 = .ok (.iload_n 1, 1) := by decide +kernel
theorem dX12_lift_19 : decode cX12_lift 19 = .ok (.invokevirtual 261, 3) := by decide +kernel
theorem dX12_lift_22 : decode cX12_lift 22 = .ok (.goto 7, 3) := by decide +kernel
theorem dX12_rain_0 : decode cX12_rain 0 = .ok (.aload_n 0, 1) := by decide +kernel
theorem dX12_rain_1 : decode cX12_rain 1 = .ok (.iconst 0, 1) := by decide +kernel
theorem dX12_rain_2 : decode cX12_rain 2 = .ok (.putfield 117, 3) := by decide +kernel
theorem dX12_rain_5 : decode cX12_rain 5 = .ok (.iload_n 1, 1) := by decide +kernel
theorem dX12_rain_6 : decode cX12_rain 6 = .ok (.i2l, 1) := by decide +kernel
theorem dX12_rain_7 : decode cX12_rain 7 = .ok (.lconst 0, 1) := by decide +kernel
theorem dX12_rain_8 : decode cX12_rain 8 = .ok (.ldc2_w 285, 3) := by decide +kernel
theorem dX12_rain_11 : decode cX12_rain 11 = .ok (.invokestatic 131, 3) := by decide +kernel
theorem dX12_rain_14 : decode cX12_rain 14 = .ok (.ifCond .ne 5, 3) := by decide +kernel
theorem dX12_rain_19 : decode cX12_rain 19 = .ok (.aload_n 0, 1) := by decide +kernel
theorem dX12_rain_20 : decode cX12_rain 20 = .ok (.getfield 255, 3) := by decide +kernel
theorem dX12_rain_23 : decode cX12_rain 23 = .ok (.istore_n 2, 1) := by decide +kernel
theorem dX12_rain_24 : decode cX12_rain 24 = .ok (.aload_n 0, 1) := by decide +kernel
theorem dX12_rain_25 : decode cX12_rain 25 = .ok (.iload_n 1, 1) := by decide +kernel
theorem dX12_rain_26 : decode cX12_rain 26 = .ok (.putfield 255, 3) := by decide +kernel
theorem dX12_rain_29 : decode cX12_rain 29 = .ok (.iload_n 2, 1) := by decide +kernel
theorem dX12_rain_30 : decode cX12_rain 30 = .ok (.ireturn, 1) := by decide +kernel
theorem dX12_rain_17 : decode cX12_rain 17 = .ok (.iconst (-1), 1) := by decide +kernel
theorem dX12_rain_18 : decode cX12_rain 18 = .ok (.ireturn, 1) := by decide +kernel
theorem dX12_sheet_0 : decode cX12_sheet 0 = .ok (.aload_n 0, 1) := by decide +kernel
theorem dX12_sheet_1 : decode cX12_sheet 1 = .ok (.iconst 0, 1) := by decide +kernel
theorem dX12_sheet_2 : decode cX12_sheet 2 = .ok (.putfield 117, 3) := by decide +kernel
theorem dX12_sheet_5 : decode cX12_sheet 5 = .ok (.iload_n 1, 1) := by decide +kernel
theorem dX12_sheet_6 : decode cX12_sheet 6 = .ok (.i2l, 1) := by decide +kernel
theorem dX12_sheet_7 : decode cX12_sheet 7 = .ok (.lconst 0, 1) := by decide +kernel
theorem dX12_sheet_8 : decode cX12_sheet 8 = .ok (.ldc2_w 299, 3) := by decide +kernel
theorem dX12_sheet_11 : decode cX12_sheet 11 = .ok (.invokestatic 131, 3) := by decide +kernel
theorem dX12_sheet_14 : decode cX12_sheet 14 = .ok (.ifCond .eq 9, 3) := by decide +kernel
theorem dX12_sheet_23 : decode cX12_sheet 23 = .ok (.iconst (-1), 1) := by decide +kernel
theorem dX12_sheet_24 : decode cX12_sheet 24 = .ok (.ireturn, 1) := by decide +kernel
theorem dX12_sheet_17 : decode cX12_sheet 17 = .ok (.iload_n 2, 1) := by decide +kernel
theorem dX12_sheet_18 : decode cX12_sheet 18 = .ok (.bipush 6, 2) := by decide +kernel
theorem dX12_sheet_20 : decode cX12_sheet 20 = .ok (.if_icmp .le 5, 3) := by decide +kernel
theorem dX12_sheet_25 : decode cX12_sheet 25 = .ok (.iload_n 1, 1) := by decide +kernel
theorem dX12_sheet_26 : decode cX12_sheet 26 = .ok (.iconst 3, 1) := by decide +kernel
theorem dX12_sheet_37 : decode cX12_sheet 37 = .ok (.iconst 0, 1) := by decide +kernel
theorem dX12_sheet_38 : decode cX12_sheet 38 = .ok (.istore 5, 2) := by decide +kernel
theorem dX12_sheet_40 : decode cX12_sheet 40 = .ok (.iload_n 3, 1) := by decide +kernel
theorem dX12_sheet_41 : decode cX12_sheet 41 = .ok (.istore 6, 2) := by decide +kernel
theorem dX12_sheet_43 : decode cX12_sheet 43 = .ok (.iconst 0, 1) := by decide +kernel
theorem dX12_sheet_44 : decode cX12_sheet 44 = .ok (.istore 7, 2) := by decide +kernel
theorem dX12_sheet_46 : decode cX12_sheet 46 = .ok (.iload 7, 2) := by decide +kernel
theorem dX12_sheet_48 : decode cX12_sheet 48 = .ok (.aload_n 0, 1) := by decide +kernel
theorem dX12_sheet_49 : decode cX12_sheet 49 = .ok (.getfield 135, 3) := by decide +kernel
theorem dX12_sheet_52 : decode cX12_sheet 52 = .ok (.if_icmp .ge 96, 3) := by decide +kernel
theorem dX12_sheet_55 : decode cX12_sheet 55 = .ok (.iload_n 1, 1) := by decide +kernel
theorem dX12_sheet_78 : decode cX12_sheet 78 = .ok (.istore 8, 2) := by decide +kernel
theorem dX12_sheet_80 : decode cX12_sheet 80 = .ok (.aload_n 0, 1) := by decide +kernel
theorem dX12_sheet_81 : decode cX12_sheet 81 = .ok (.getfield 32, 3) := by decide +kernel
theorem dX12_sheet_84 : decode cX12_sheet 84 = .ok (.bipush 7, 2) := by decide +kernel
theorem dX12_sheet_86 : decode cX12_sheet 86 = .ok (.iload 7, 2) := by decide +kernel
theorem dX12_sheet_88 : decode cX12_sheet 88 = .ok (.imul, 1) := by decide +kernel
theorem dX12_sheet_89 : decode cX12_sheet 89 = .ok (.iconst 0, 1) := by decide +kernel
theorem dX12_sheet_90 : decode cX12_sheet 90 = .ok (.iadd, 1) := by decide +kernel
theorem dX12_sheet_91 : decode cX12_sheet 91 = .ok (.iload_n 1, 1) := by decide +kernel
theorem dX12_sheet_92 : decode cX12_sheet 92 = .ok (.iconst 3, 1) := by decide +kernel
theorem dX12_sheet_117 : decode cX12_sheet 117 = .ok (.iastore, 1) := by decide +kernel
theorem dX12_sheet_118 : decode cX12_sheet 118 = .ok (.iload 5, 2) := by decide +kernel
theorem dX12_sheet_120 : decode cX12_sheet 120 = .ok (.aload_n 0, 1) := by decide +kernel
theorem dX12_sheet_121 : decode cX12_sheet 121 = .ok (.getfield 32, 3) := by decide +kernel
theorem dX12_sheet_124 : decode cX12_sheet 124 = .ok (.bipush 7, 2) := by decide +kernel
theorem dX12_sheet_126 : decode cX12_sheet 126 = .ok (.iload 7, 2) := by decide +kernel
theorem dX12_sheet_128 : decode cX12_sheet 128 = .ok (.imul, 1) := by decide +kernel
theorem dX12_sheet_129 : decode cX12_sheet 129 = .ok (.iconst 0, 1) := by decide +kernel
theorem dX12_sheet_130 : decode cX12_sheet 130 = .ok (.iadd, 1) := by decide +kernel
theorem dX12_sheet_131 : decode cX12_sheet 131 = .ok (.iaload, 1) := by decide +kernel
theorem dX12_sheet_132 : decode cX12_sheet 132 = .ok (.iadd, 1) := by decide +kernel
theorem dX12_sheet_133 : decode cX12_sheet 133 = .ok (.istore 5, 2) := by decide +kernel
theorem dX12_sheet_135 : decode cX12_sheet 135 = .ok (.iload 6, 2) := by decide +kernel
theorem dX12_sheet_137 : decode cX12_sheet 137 = .ok (.iload 4, 2) := by decide +kernel
theorem dX12_sheet_139 : decode cX12_sheet 139 = .ok (.iadd, 1) := by decide +kernel
theorem dX12_sheet_140 : decode cX12_sheet 140 = .ok (.istore 6, 2) := by decide +kernel
theorem dX12_sheet_142 : decode cX12_sheet 142 = .ok (.iinc 7 1, 3) := by decide +kernel
theorem dX12_sheet_145 : decode cX12_sheet 145 = .ok (.goto (-99), 3) := by decide +kernel
theorem dX12_sheet_102 : decode cX12_sheet 102 = .ok (.iconst 0, 1) := by decide +kernel
theorem dX12_sheet_103 : decode cX12_sheet 103 = .ok (.goto 14, 3) := by decide +kernel
theorem dX12_sheet_93 : decode cX12_sheet 93 = .ok (.if_icmp .eq 9, 3) := by decide +kernel
theorem dX12_sheet_96 : decode cX12_sheet 96 = .ok (.iload 7, 2) := by decide +kernel
theorem dX12_sheet_98 : decode cX12_sheet 98 = .ok (.iload_n 2, 1) := by decide +kernel
theorem dX12_sheet_99 : decode cX12_sheet 99 = .ok (.if_icmp .lt 7, 3) := by decide +kernel
theorem dX12_sheet_106 : decode cX12_sheet 106 = .ok (.iconst 0, 1) := by decide +kernel
theorem dX12_sheet_107 : decode cX12_sheet 107 = .ok (.bipush 99, 2) := by decide +kernel
theorem dX12_sheet_109 : decode cX12_sheet 109 = .ok (.iload 8, 2) := by decide +kernel
theorem dX12_sheet_111 : decode cX12_sheet 111 = .ok (.invokestatic 147, 3) := by decide +kernel
theorem dX12_sheet_114 : decode cX12_sheet 114 = .ok (.invokestatic 265, 3) := by decide +kernel
theorem dX12_sheet_56 : decode cX12_sheet 56 = .ok (.ifCond .ne 9, 3) := by decide +kernel
theorem dX12_sheet_65 : decode cX12_sheet 65 = .ok (.iload_n 1, 1) := by decide +kernel
theorem dX12_sheet_66 : decode cX12_sheet 66 = .ok (.iconst 1, 1) := by decide +kernel
theorem dX12_sheet_67 : decode cX12_sheet 67 = .ok (.if_icmp .ne 9, 3) := by decide +kernel
theorem dX12_sheet_76 : decode cX12_sheet 76 = .ok (.iload 6, 2) := by decide +kernel
theorem dX12_sheet_70 : decode cX12_sheet 70 = .ok (.iload 6, 2) := by decide +kernel
theorem dX12_sheet_72 : decode cX12_sheet 72 = .ok (.i2s, 1) := by decide +kernel
theorem dX12_sheet_73 : decode cX12_sheet 73 = .ok (.goto 5, 3) := by decide +kernel
theorem dX12_sheet_59 : decode cX12_sheet 59 = .ok (.iload 6, 2) := by decide +kernel
theorem dX12_sheet_61 : decode cX12_sheet 61 = .ok (.i2b, 1) := by decide +kernel
theorem dX12_sheet_62 : decode cX12_sheet 62 = .ok (.goto 16, 3) := by decide +kernel
theorem dX12_sheet_148 : decode cX12_sheet 148 = .ok (.iload_n 1, 1) := by decide +kernel
theorem dX12_sheet_149 : decode cX12_sheet 149 = .ok (.iconst 3, 1) := by decide +kernel
theorem dX12_sheet_150 : decode cX12_sheet 150 = .ok (.if_icmp .ne 8, 3) := by decide +kernel
theorem dX12_sheet_158 : decode cX12_sheet 158 = .ok (.iload 5, 2) := by decide +kernel
theorem dX12_sheet_160 : decode cX12_sheet 160 = .ok (.ireturn, 1) := by decide +kernel
theorem dX12_sheet_153 : decode cX12_sheet 153 = .ok (.bipush (-3), 2) := by decide +kernel
theorem dX12_sheet_155 : decode cX12_sheet 155 = .ok (.goto 5, 3) := by decide +kernel
theorem dX12_sheet_27 : decode cX12_sheet 27 = .ok (.if_icmp .eq 10, 3) := by decide +kernel
theorem dX12_sheet_30 : decode cX12_sheet 30 = .ok (.iload_n 2, 1) := by decide +kernel
theorem dX12_sheet_31 : decode cX12_sheet 31 = .ok (.ifCond .ge 6, 3) := by decide +kernel
theorem dX12_sheet_34 : decode cX12_sheet 34 = .ok (.bipush (-2), 2) := by decide +kernel
theorem dX12_sheet_36 : decode cX12_sheet 36 = .ok (.ireturn, 1) := by decide +kernel
theorem dX12_putsBy_0 : decode cX12_putsBy 0 = .ok (.iconst 0, 1) := by decide +kernel
theorem dX12_putsBy_1 : decode cX12_putsBy 1 = .ok (.istore_n 1, 1) := by decide +kernel
theorem dX12_putsBy_2 : decode cX12_putsBy 2 = .ok (.iload_n 1, 1) := by decide +kernel
theorem dX12_putsBy_3 : decode cX12_putsBy 3 = .ok (.bipush 43, 2) := by decide +kernel
theorem dX12_putsBy_5 : decode cX12_putsBy 5 = .ok (.if_icmp .ge 29, 3) := by decide +kernel
theorem dX12_putsBy_8 : decode cX12_putsBy 8 = .ok (.aload_n 0, 1) := by decide +kernel
theorem dX12_putsBy_9 : decode cX12_putsBy 9 = .ok (.getfield 56, 3) := by decide +kernel
theorem dX12_putsBy_12 : decode cX12_putsBy 12 = .ok (.bipush 43, 2) := by decide +kernel
theorem dX12_putsBy_14 : decode cX12_putsBy 14 = .ok (.aload_n 0, 1) := by decide +kernel
theorem dX12_putsBy_15 : decode cX12_putsBy 15 = .ok (.getfield 211, 3) := by decide +kernel
theorem dX12_putsBy_18 : decode cX12_putsBy 18 = .ok (.imul, 1) := by decide +kernel
theorem dX12_putsBy_19 : decode cX12_putsBy 19 = .ok (.iload_n 1, 1) := by decide +kernel
theorem dX12_putsBy_20 : decode cX12_putsBy 20 = .ok (.iadd, 1) := by decide +kernel
theorem dX12_putsBy_21 : decode cX12_putsBy 21 = .ok (.aload_n 0, 1) := by decide +kernel
theorem dX12_putsBy_22 : decode cX12_putsBy 22 = .ok (.getfield 32, 3) := by decide +kernel
theorem dX12_putsBy_25 : decode cX12_putsBy 25 = .ok (.iload_n 1, 1) := by decide +kernel
theorem dX12_putsBy_26 : decode cX12_putsBy 26 = .ok (.iaload, 1) := by decide +kernel
theorem dX12_putsBy_27 : decode cX12_putsBy 27 = .ok (.iastore, 1) := by decide +kernel
theorem dX12_putsBy_28 : decode cX12_putsBy 28 = .ok (.iinc 1 1, 3) := by decide +kernel
theorem dX12_putsBy_31 : decode cX12_putsBy 31 = .ok (.goto (-29), 3) := by decide +kernel
theorem dX12_putsBy_34 : decode cX12_putsBy 34 = .ok (.return_, 1) := by decide +kernel
theorem dX12_adds_0 : decode cX12_adds 0 = .ok (.aload_n 0, 1) := by decide +kernel
theorem dX12_adds_1 : decode cX12_adds 1 = .ok (.dup, 1) := by decide +kernel
theorem dX12_adds_2 : decode cX12_adds 2 = .ok (.getfield 211, 3) := by decide +kernel
theorem dX12_adds_5 : decode cX12_adds 5 = .ok (.iconst 1, 1) := by decide +kernel
theorem dX12_adds_6 : decode cX12_adds 6 = .ok (.iadd, 1) := by decide +kernel
theorem dX12_adds_7 : decode cX12_adds 7 = .ok (.putfield 211, 3) := by decide +kernel
theorem dX12_adds_10 : decode cX12_adds 10 = .ok (.aload_n 0, 1) := by decide +kernel
theorem dX12_adds_11 : decode cX12_adds 11 = .ok (.getfield 211, 3) := by decide +kernel
theorem dX12_adds_14 : decode cX12_adds 14 = .ok (.bipush 15, 2) := by decide +kernel
theorem dX12_adds_16 : decode cX12_adds 16 = .ok (.if_icmp .le 43, 3) := by decide +kernel
theorem dX12_adds_59 : decode cX12_adds 59 = .ok (.iload_n 1, 1) := by decide +kernel
theorem dX12_adds_60 : decode cX12_adds 60 = .ok (.ireturn, 1) := by decide +kernel
theorem dX12_adds_19 : decode cX12_adds 19 = .ok (.iconst 0, 1) := by decide +kernel
theorem dX12_adds_20 : decode cX12_adds 20 = .ok (.istore_n 2, 1) := by decide +kernel
theorem dX12_adds_21 : decode cX12_adds 21 = .ok (.iload_n 2, 1) := by decide +kernel
theorem dX12_adds_22 : decode cX12_adds 22 = .ok (.sipush 645, 3) := by decide +kernel
theorem dX12_adds_25 : decode cX12_adds 25 = .ok (.if_icmp .ge 24, 3) := by decide +kernel
theorem dX12_adds_28 : decode cX12_adds 28 = .ok (.aload_n 0, 1) := by decide +kernel
theorem dX12_adds_29 : decode cX12_adds 29 = .ok (.getfield 56, 3) := by decide +kernel
theorem dX12_adds_32 : decode cX12_adds 32 = .ok (.iload_n 2, 1) := by decide +kernel
theorem dX12_adds_33 : decode cX12_adds 33 = .ok (.aload_n 0, 1) := by decide +kernel
theorem dX12_adds_34 : decode cX12_adds 34 = .ok (.getfield 56, 3) := by decide +kernel
theorem dX12_adds_37 : decode cX12_adds 37 = .ok (.iload_n 2, 1) := by decide +kernel
theorem dX12_adds_38 : decode cX12_adds 38 = .ok (.bipush 43, 2) := by decide +kernel
theorem dX12_adds_40 : decode cX12_adds 40 = .ok (.iadd, 1) := by decide +kernel
theorem dX12_adds_41 : decode cX12_adds 41 = .ok (.iaload, 1) := by decide +kernel
theorem dX12_adds_42 : decode cX12_adds 42 = .ok (.iastore, 1) := by decide +kernel
theorem dX12_adds_43 : decode cX12_adds 43 = .ok (.iinc 2 1, 3) := by decide +kernel
theorem dX12_adds_46 : decode cX12_adds 46 = .ok (.goto (-25), 3) := by decide +kernel
theorem dX12_adds_49 : decode cX12_adds 49 = .ok (.aload_n 0, 1) := by decide +kernel
theorem dX12_adds_50 : decode cX12_adds 50 = .ok (.dup, 1) := by decide +kernel
theorem dX12_adds_51 : decode cX12_adds 51 = .ok (.getfield 211, 3) := by decide +kernel
theorem dX12_adds_54 : decode cX12_adds 54 = .ok (.iconst 1, 1) := by decide +kernel
theorem dX12_adds_55 : decode cX12_adds 55 = .ok (.isub, 1) := by decide +kernel
theorem dX12_adds_56 : decode cX12_adds 56 = .ok (.putfield 211, 3) := by decide +kernel
theorem dX12_counts_0 : decode cX12_counts 0 = .ok (.iload_n 1, 1) := by decide +kernel
theorem dX12_counts_1 : decode cX12_counts 1 = .ok (.ifCond .ge 7, 3) := by decide +kernel
theorem dX12_counts_8 : decode cX12_counts 8 = .ok (.aload_n 0, 1) := by decide +kernel
theorem dX12_counts_9 : decode cX12_counts 9 = .ok (.iload_n 1, 1) := by decide +kernel
theorem dX12_counts_10 : decode cX12_counts 10 = .ok (.invokevirtual 301, 3) := by decide +kernel
theorem dX12_counts_13 : decode cX12_counts 13 = .ok (.ireturn, 1) := by decide +kernel
theorem dX12_counts_4 : decode cX12_counts 4 = .ok (.iload_n 1, 1) := by decide +kernel
theorem dX12_counts_5 : decode cX12_counts 5 = .ok (.goto 8, 3) := by decide +kernel
theorem dX12_undo_0 : decode cX12_undo 0 = .ok (.aload_n 0, 1) := by decide +kernel
theorem dX12_undo_1 : decode cX12_undo 1 = .ok (.iconst 0, 1) := by decide +kernel
theorem dX12_undo_2 : decode cX12_undo 2 = .ok (.putfield 117, 3) := by decide +kernel
theorem dX12_undo_5 : decode cX12_undo 5 = .ok (.aload_n 0, 1) := by decide +kernel
theorem dX12_undo_6 : decode cX12_undo 6 = .ok (.getfield 211, 3) := by decide +kernel
theorem dX12_undo_9 : decode cX12_undo 9 = .ok (.ifCond .ne 5, 3) := by decide +kernel
theorem dX12_undo_14 : decode cX12_undo 14 = .ok (.aload_n 0, 1) := by decide +kernel
theorem dX12_undo_15 : decode cX12_undo 15 = .ok (.dup, 1) := by decide +kernel
theorem dX12_undo_16 : decode cX12_undo 16 = .ok (.getfield 211, 3) := by decide +kernel
theorem dX12_undo_19 : decode cX12_undo 19 = .ok (.iconst 1, 1) := by decide +kernel
theorem dX12_undo_20 : decode cX12_undo 20 = .ok (.isub, 1) := by decide +kernel
theorem dX12_undo_21 : decode cX12_undo 21 = .ok (.putfield 211, 3) := by decide +kernel
theorem dX12_undo_24 : decode cX12_undo 24 = .ok (.iconst 0, 1) := by decide +kernel
theorem dX12_undo_25 : decode cX12_undo 25 = .ok (.istore_n 1, 1) := by decide +kernel
theorem dX12_undo_26 : decode cX12_undo 26 = .ok (.iload_n 1, 1) := by decide +kernel
theorem dX12_undo_27 : decode cX12_undo 27 = .ok (.bipush 43, 2) := by decide +kernel
theorem dX12_undo_29 : decode cX12_undo 29 = .ok (.if_icmp .ge 29, 3) := by decide +kernel
theorem dX12_undo_32 : decode cX12_undo 32 = .ok (.aload_n 0, 1) := by decide +kernel
theorem dX12_undo_33 : decode cX12_undo 33 = .ok (.getfield 32, 3) := by decide +kernel
theorem dX12_undo_36 : decode cX12_undo 36 = .ok (.iload_n 1, 1) := by decide +kernel
theorem dX12_undo_37 : decode cX12_undo 37 = .ok (.aload_n 0, 1) := by decide +kernel
theorem dX12_undo_38 : decode cX12_undo 38 = .ok (.getfield 56, 3) := by decide +kernel
theorem dX12_undo_41 : decode cX12_undo 41 = .ok (.bipush 43, 2) := by decide +kernel
theorem dX12_undo_43 : decode cX12_undo 43 = .ok (.aload_n 0, 1) := by decide +kernel
theorem dX12_undo_44 : decode cX12_undo 44 = .ok (.getfield 211, 3) := by decide +kernel
theorem dX12_undo_47 : decode cX12_undo 47 = .ok (.imul, 1) := by decide +kernel
theorem dX12_undo_48 : decode cX12_undo 48 = .ok (.iload_n 1, 1) := by decide +kernel
theorem dX12_undo_49 : decode cX12_undo 49 = .ok (.iadd, 1) := by decide +kernel
theorem dX12_undo_50 : decode cX12_undo 50 = .ok (.iaload, 1) := by decide +kernel
theorem dX12_undo_51 : decode cX12_undo 51 = .ok (.iastore, 1) := by decide +kernel
theorem dX12_undo_52 : decode cX12_undo 52 = .ok (.iinc 1 1, 3) := by decide +kernel
theorem dX12_undo_55 : decode cX12_undo 55 = .ok (.goto (-29), 3) := by decide +kernel
theorem dX12_undo_58 : decode cX12_undo 58 = .ok (.aload_n 0, 1) := by decide +kernel
theorem dX12_undo_59 : decode cX12_undo 59 = .ok (.getfield 211, 3) := by decide +kernel
theorem dX12_undo_62 : decode cX12_undo 62 = .ok (.ireturn, 1) := by decide +kernel
theorem dX12_undo_12 : decode cX12_undo 12 = .ok (.iconst (-1), 1) := by decide +kernel
theorem dX12_undo_13 : decode cX12_undo 13 = .ok (.ireturn, 1) := by decide +kernel
theorem dX12_frees_0 : decode cX12_frees 0 = .ok (.aload_n 0, 1) := by decide +kernel
theorem dX12_frees_1 : decode cX12_frees 1 = .ok (.bipush 7, 2) := by decide +kernel
theorem dX12_frees_3 : decode cX12_frees 3 = .ok (.iload_n 1, 1) := by decide +kernel
theorem dX12_frees_4 : decode cX12_frees 4 = .ok (.imul, 1) := by decide +kernel
theorem dX12_frees_5 : decode cX12_frees 5 = .ok (.iconst 3, 1) := by decide +kernel
theorem dX12_frees_6 : decode cX12_frees 6 = .ok (.iadd, 1) := by decide +kernel
theorem dX12_frees_7 : decode cX12_frees 7 = .ok (.iconst 1, 1) := by decide +kernel
theorem dX12_frees_8 : decode cX12_frees 8 = .ok (.iastore, 1) := by decide +kernel
theorem dX12_frees_9 : decode cX12_frees 9 = .ok (.aload_n 0, 1) := by decide +kernel
theorem dX12_frees_10 : decode cX12_frees 10 = .ok (.bipush 7, 2) := by decide +kernel
theorem dX12_frees_12 : decode cX12_frees 12 = .ok (.iload_n 1, 1) := by decide +kernel
theorem dX12_frees_13 : decode cX12_frees 13 = .ok (.imul, 1) := by decide +kernel
theorem dX12_frees_14 : decode cX12_frees 14 = .ok (.iconst 5, 1) := by decide +kernel
theorem dX12_frees_15 : decode cX12_frees 15 = .ok (.iadd, 1) := by decide +kernel
theorem dX12_frees_16 : decode cX12_frees 16 = .ok (.iconst 0, 1) := by decide +kernel
theorem dX12_frees_17 : decode cX12_frees 17 = .ok (.iastore, 1) := by decide +kernel
theorem dX12_frees_18 : decode cX12_frees 18 = .ok (.aload_n 0, 1) := by decide +kernel
theorem dX12_frees_19 : decode cX12_frees 19 = .ok (.bipush 7, 2) := by decide +kernel
theorem dX12_frees_21 : decode cX12_frees 21 = .ok (.iload_n 1, 1) := by decide +kernel
theorem dX12_frees_22 : decode cX12_frees 22 = .ok (.imul, 1) := by decide +kernel
theorem dX12_frees_23 : decode cX12_frees 23 = .ok (.bipush 6, 2) := by decide +kernel
theorem dX12_frees_25 : decode cX12_frees 25 = .ok (.iadd, 1) := by decide +kernel
theorem dX12_frees_26 : decode cX12_frees 26 = .ok (.iconst 0, 1) := by decide +kernel
theorem dX12_frees_27 : decode cX12_frees 27 = .ok (.iastore, 1) := by decide +kernel
theorem dX12_frees_28 : decode cX12_frees 28 = .ok (.return_, 1) := by decide +kernel
theorem dX12_launches_0 : decode cX12_launches 0 = .ok (.aload_n 0, 1) := by decide +kernel
theorem dX12_launches_1 : decode cX12_launches 1 = .ok (.iload_n 2, 1) := by decide +kernel
theorem dX12_launches_2 : decode cX12_launches 2 = .ok (.invokevirtual 282, 3) := by decide +kernel
theorem dX12_launches_5 : decode cX12_launches 5 = .ok (.ifCond .ne 5, 3) := by decide +kernel
theorem dX12_launches_10 : decode cX12_launches 10 = .ok (.aload_n 1, 1) := by decide +kernel
theorem dX12_launches_11 : decode cX12_launches 11 = .ok (.bipush 7, 2) := by decide +kernel
theorem dX12_launches_13 : decode cX12_launches 13 = .ok (.iload_n 2, 1) := by decide +kernel
theorem dX12_launches_14 : decode cX12_launches 14 = .ok (.imul, 1) := by decide +kernel
theorem dX12_launches_15 : decode cX12_launches 15 = .ok (.iconst 3, 1) := by decide +kernel
theorem dX12_launches_16 : decode cX12_launches 16 = .ok (.iadd, 1) := by decide +kernel
theorem dX12_launches_17 : decode cX12_launches 17 = .ok (.iaload, 1) := by decide +kernel
theorem dX12_launches_18 : decode cX12_launches 18 = .ok (.ifCond .eq 6, 3) := by decide +kernel
theorem dX12_launches_24 : decode cX12_launches 24 = .ok (.aload_n 0, 1) := by decide +kernel
theorem dX12_launches_25 : decode cX12_launches 25 = .ok (.aload_n 1, 1) := by decide +kernel
theorem dX12_launches_26 : decode cX12_launches 26 = .ok (.iload_n 2, 1) := by decide +kernel
theorem dX12_launches_27 : decode cX12_launches 27 = .ok (.invokevirtual 261, 3) := by decide +kernel
theorem dX12_launches_30 : decode cX12_launches 30 = .ok (.ifCond .ge 6, 3) := by decide +kernel
theorem dX12_launches_36 : decode cX12_launches 36 = .ok (.aload_n 1, 1) := by decide +kernel
theorem dX12_launches_37 : decode cX12_launches 37 = .ok (.iload_n 2, 1) := by decide +kernel
theorem dX12_launches_38 : decode cX12_launches 38 = .ok (.invokestatic 304, 3) := by decide +kernel
theorem dX12_launches_41 : decode cX12_launches 41 = .ok (.aload_n 0, 1) := by decide +kernel
theorem dX12_launches_42 : decode cX12_launches 42 = .ok (.aload_n 1, 1) := by decide +kernel
theorem dX12_launches_43 : decode cX12_launches 43 = .ok (.iload_n 2, 1) := by decide +kernel
theorem dX12_launches_44 : decode cX12_launches 44 = .ok (.invokevirtual 290, 3) := by decide +kernel
theorem dX12_launches_47 : decode cX12_launches 47 = .ok (.ireturn, 1) := by decide +kernel
theorem dX12_launches_33 : decode cX12_launches 33 = .ok (.bipush (-3), 2) := by decide +kernel
theorem dX12_launches_35 : decode cX12_launches 35 = .ok (.ireturn, 1) := by decide +kernel
theorem dX12_launches_21 : decode cX12_launches 21 = .ok (.bipush (-2), 2) := by decide +kernel
theorem dX12_launches_23 : decode cX12_launches 23 = .ok (.ireturn, 1) := by decide +kernel
theorem dX12_launches_8 : decode cX12_launches 8 = .ok (.iconst (-1), 1) := by decide +kernel
theorem dX12_launches_9 : decode cX12_launches 9 = .ok (.ireturn, 1) := by decide +kernel
theorem dX12_apart_0 : decode cX12_apart 0 = .ok (.aload_n 0, 1) := by decide +kernel
theorem dX12_apart_1 : decode cX12_apart 1 = .ok (.bipush 7, 2) := by decide +kernel
theorem dX12_apart_3 : decode cX12_apart 3 = .ok (.iload_n 1, 1) := by decide +kernel
theorem dX12_apart_4 : decode cX12_apart 4 = .ok (.imul, 1) := by decide +kernel
theorem dX12_apart_5 : decode cX12_apart 5 = .ok (.iconst 5, 1) := by decide +kernel
theorem dX12_apart_6 : decode cX12_apart 6 = .ok (.iadd, 1) := by decide +kernel
theorem dX12_apart_7 : decode cX12_apart 7 = .ok (.iaload, 1) := by decide +kernel
theorem dX12_apart_8 : decode cX12_apart 8 = .ok (.invokestatic 308, 3) := by decide +kernel
theorem dX12_apart_11 : decode cX12_apart 11 = .ok (.aload_n 0, 1) := by decide +kernel
theorem dX12_apart_12 : decode cX12_apart 12 = .ok (.bipush 7, 2) := by decide +kernel
theorem dX12_apart_14 : decode cX12_apart 14 = .ok (.iload_n 1, 1) := by decide +kernel
theorem dX12_apart_15 : decode cX12_apart 15 = .ok (.imul, 1) := by decide +kernel
theorem dX12_apart_16 : decode cX12_apart 16 = .ok (.bipush 6, 2) := by decide +kernel
theorem dX12_apart_18 : decode cX12_apart 18 = .ok (.iadd, 1) := by decide +kernel
theorem dX12_apart_19 : decode cX12_apart 19 = .ok (.iaload, 1) := by decide +kernel
theorem dX12_apart_20 : decode cX12_apart 20 = .ok (.invokestatic 308, 3) := by decide +kernel
theorem dX12_apart_23 : decode cX12_apart 23 = .ok (.iadd, 1) := by decide +kernel
theorem dX12_apart_24 : decode cX12_apart 24 = .ok (.ireturn, 1) := by decide +kernel
theorem dX12_canTie_0 : decode cX12_canTie 0 = .ok (.aload_n 1, 1) := by decide +kernel
theorem dX12_canTie_1 : decode cX12_canTie 1 = .ok (.iload_n 2, 1) := by decide +kernel
theorem dX12_canTie_2 : decode cX12_canTie 2 = .ok (.invokestatic 311, 3) := by decide +kernel
theorem dX12_canTie_5 : decode cX12_canTie 5 = .ok (.aload_n 0, 1) := by decide +kernel
theorem dX12_canTie_6 : decode cX12_canTie 6 = .ok (.getfield 20, 3) := by decide +kernel
theorem dX12_canTie_9 : decode cX12_canTie 9 = .ok (.iload_n 2, 1) := by decide +kernel
theorem dX12_canTie_10 : decode cX12_canTie 10 = .ok (.iaload, 1) := by decide +kernel
theorem dX12_canTie_11 : decode cX12_canTie 11 = .ok (.if_icmp .gt 27, 3) := by decide +kernel
theorem dX12_canTie_38 : decode cX12_canTie 38 = .ok (.iconst 0, 1) := by decide +kernel
theorem dX12_canTie_39 : decode cX12_canTie 39 = .ok (.ireturn, 1) := by decide +kernel
theorem dX12_canTie_14 : decode cX12_canTie 14 = .ok (.aload_n 0, 1) := by decide +kernel
theorem dX12_canTie_15 : decode cX12_canTie 15 = .ok (.aload_n 1, 1) := by decide +kernel
theorem dX12_canTie_16 : decode cX12_canTie 16 = .ok (.iload_n 2, 1) := by decide +kernel
theorem dX12_canTie_17 : decode cX12_canTie 17 = .ok (.invokevirtual 290, 3) := by decide +kernel
theorem dX12_canTie_20 : decode cX12_canTie 20 = .ok (.aload_n 0, 1) := by decide +kernel
theorem dX12_canTie_21 : decode cX12_canTie 21 = .ok (.getfield 13, 3) := by decide +kernel
theorem dX12_canTie_24 : decode cX12_canTie 24 = .ok (.iload_n 3, 1) := by decide +kernel
theorem dX12_canTie_25 : decode cX12_canTie 25 = .ok (.iaload, 1) := by decide +kernel
theorem dX12_canTie_26 : decode cX12_canTie 26 = .ok (.isub, 1) := by decide +kernel
theorem dX12_canTie_27 : decode cX12_canTie 27 = .ok (.invokestatic 308, 3) := by decide +kernel
theorem dX12_canTie_30 : decode cX12_canTie 30 = .ok (.iconst 1, 1) := by decide +kernel
theorem dX12_canTie_31 : decode cX12_canTie 31 = .ok (.if_icmp .gt 7, 3) := by decide +kernel
theorem dX12_canTie_34 : decode cX12_canTie 34 = .ok (.iconst 1, 1) := by decide +kernel
theorem dX12_canTie_35 : decode cX12_canTie 35 = .ok (.goto 4, 3) := by decide +kernel
theorem dX12_moors_0 : decode cX12_moors 0 = .ok (.aload_n 0, 1) := by decide +kernel
theorem dX12_moors_1 : decode cX12_moors 1 = .ok (.iload_n 1, 1) := by decide +kernel
theorem dX12_moors_2 : decode cX12_moors 2 = .ok (.invokevirtual 282, 3) := by decide +kernel
theorem dX12_moors_5 : decode cX12_moors 5 = .ok (.ifCond .eq 11, 3) := by decide +kernel
theorem dX12_moors_16 : decode cX12_moors 16 = .ok (.iconst (-1), 1) := by decide +kernel
theorem dX12_moors_17 : decode cX12_moors 17 = .ok (.ireturn, 1) := by decide +kernel
theorem dX12_moors_8 : decode cX12_moors 8 = .ok (.aload_n 0, 1) := by decide +kernel
theorem dX12_moors_9 : decode cX12_moors 9 = .ok (.iload_n 2, 1) := by decide +kernel
theorem dX12_moors_10 : decode cX12_moors 10 = .ok (.invokevirtual 271, 3) := by decide +kernel
theorem dX12_moors_13 : decode cX12_moors 13 = .ok (.ifCond .ne 5, 3) := by decide +kernel
theorem dX12_moors_18 : decode cX12_moors 18 = .ok (.aload_n 0, 1) := by decide +kernel
theorem dX12_moors_19 : decode cX12_moors 19 = .ok (.iload_n 1, 1) := by decide +kernel
theorem dX12_moors_20 : decode cX12_moors 20 = .ok (.invokevirtual 268, 3) := by decide +kernel
theorem dX12_moors_23 : decode cX12_moors 23 = .ok (.iconst 1, 1) := by decide +kernel
theorem dX12_moors_24 : decode cX12_moors 24 = .ok (.if_icmp .eq 6, 3) := by decide +kernel
theorem dX12_moors_30 : decode cX12_moors 30 = .ok (.aload_n 0, 1) := by decide +kernel
theorem dX12_moors_31 : decode cX12_moors 31 = .ok (.getfield 32, 3) := by decide +kernel
theorem dX12_moors_34 : decode cX12_moors 34 = .ok (.iload_n 1, 1) := by decide +kernel
theorem dX12_moors_35 : decode cX12_moors 35 = .ok (.invokestatic 311, 3) := by decide +kernel
theorem dX12_moors_38 : decode cX12_moors 38 = .ok (.aload_n 0, 1) := by decide +kernel
theorem dX12_moors_39 : decode cX12_moors 39 = .ok (.getfield 20, 3) := by decide +kernel
theorem dX12_moors_42 : decode cX12_moors 42 = .ok (.iload_n 1, 1) := by decide +kernel
theorem dX12_moors_43 : decode cX12_moors 43 = .ok (.iaload, 1) := by decide +kernel
theorem dX12_moors_44 : decode cX12_moors 44 = .ok (.if_icmp .le 6, 3) := by decide +kernel
theorem dX12_moors_50 : decode cX12_moors 50 = .ok (.aload_n 0, 1) := by decide +kernel
theorem dX12_moors_51 : decode cX12_moors 51 = .ok (.aload_n 0, 1) := by decide +kernel
theorem dX12_moors_52 : decode cX12_moors 52 = .ok (.getfield 32, 3) := by decide +kernel
theorem dX12_moors_55 : decode cX12_moors 55 = .ok (.iload_n 1, 1) := by decide +kernel
theorem dX12_moors_56 : decode cX12_moors 56 = .ok (.iload_n 2, 1) := by decide +kernel
theorem dX12_moors_57 : decode cX12_moors 57 = .ok (.invokevirtual 314, 3) := by decide +kernel
theorem dX12_moors_60 : decode cX12_moors 60 = .ok (.ifCond .ne 6, 3) := by decide +kernel
theorem dX12_moors_66 : decode cX12_moors 66 = .ok (.aload_n 0, 1) := by decide +kernel
theorem dX12_moors_67 : decode cX12_moors 67 = .ok (.iload_n 2, 1) := by decide +kernel
theorem dX12_moors_68 : decode cX12_moors 68 = .ok (.invokevirtual 279, 3) := by decide +kernel
theorem dX12_moors_71 : decode cX12_moors 71 = .ok (.ifCond .lt 6, 3) := by decide +kernel
theorem dX12_moors_77 : decode cX12_moors 77 = .ok (.aload_n 0, 1) := by decide +kernel
theorem dX12_moors_78 : decode cX12_moors 78 = .ok (.getfield 32, 3) := by decide +kernel
theorem dX12_moors_81 : decode cX12_moors 81 = .ok (.bipush 7, 2) := by decide +kernel
theorem dX12_moors_83 : decode cX12_moors 83 = .ok (.iload_n 1, 1) := by decide +kernel
theorem dX12_moors_84 : decode cX12_moors 84 = .ok (.imul, 1) := by decide +kernel
theorem dX12_moors_85 : decode cX12_moors 85 = .ok (.iconst 3, 1) := by decide +kernel
theorem dX12_moors_86 : decode cX12_moors 86 = .ok (.iadd, 1) := by decide +kernel
theorem dX12_moors_87 : decode cX12_moors 87 = .ok (.iconst 2, 1) := by decide +kernel
theorem dX12_moors_88 : decode cX12_moors 88 = .ok (.iastore, 1) := by decide +kernel
theorem dX12_moors_89 : decode cX12_moors 89 = .ok (.aload_n 0, 1) := by decide +kernel
theorem dX12_moors_90 : decode cX12_moors 90 = .ok (.getfield 32, 3) := by decide +kernel
theorem dX12_moors_93 : decode cX12_moors 93 = .ok (.bipush 7, 2) := by decide +kernel
theorem dX12_moors_95 : decode cX12_moors 95 = .ok (.iload_n 1, 1) := by decide +kernel
theorem dX12_moors_96 : decode cX12_moors 96 = .ok (.imul, 1) := by decide +kernel
theorem dX12_moors_97 : decode cX12_moors 97 = .ok (.iconst 4, 1) := by decide +kernel
theorem dX12_moors_98 : decode cX12_moors 98 = .ok (.iadd, 1) := by decide +kernel
theorem dX12_moors_99 : decode cX12_moors 99 = .ok (.iload_n 2, 1) := by decide +kernel
theorem dX12_moors_100 : decode cX12_moors 100 = .ok (.iastore, 1) := by decide +kernel
theorem dX12_moors_101 : decode cX12_moors 101 = .ok (.aload_n 0, 1) := by decide +kernel
theorem dX12_moors_102 : decode cX12_moors 102 = .ok (.getfield 13, 3) := by decide +kernel
theorem dX12_moors_105 : decode cX12_moors 105 = .ok (.iload_n 2, 1) := by decide +kernel
theorem dX12_moors_106 : decode cX12_moors 106 = .ok (.iaload, 1) := by decide +kernel
theorem dX12_moors_107 : decode cX12_moors 107 = .ok (.ireturn, 1) := by decide +kernel
theorem dX12_moors_74 : decode cX12_moors 74 = .ok (.bipush (-5), 2) := by decide +kernel
theorem dX12_moors_76 : decode cX12_moors 76 = .ok (.ireturn, 1) := by decide +kernel
theorem dX12_moors_63 : decode cX12_moors 63 = .ok (.bipush (-4), 2) := by decide +kernel
theorem dX12_moors_65 : decode cX12_moors 65 = .ok (.ireturn, 1) := by decide +kernel
theorem dX12_moors_47 : decode cX12_moors 47 = .ok (.bipush (-3), 2) := by decide +kernel
theorem dX12_moors_49 : decode cX12_moors 49 = .ok (.ireturn, 1) := by decide +kernel
theorem dX12_moors_27 : decode cX12_moors 27 = .ok (.bipush (-2), 2) := by decide +kernel
theorem dX12_moors_29 : decode cX12_moors 29 = .ok (.ireturn, 1) := by decide +kernel
theorem dX12_casts_0 : decode cX12_casts 0 = .ok (.aload_n 0, 1) := by decide +kernel
theorem dX12_casts_1 : decode cX12_casts 1 = .ok (.iload_n 2, 1) := by decide +kernel
theorem dX12_casts_2 : decode cX12_casts 2 = .ok (.invokevirtual 282, 3) := by decide +kernel
theorem dX12_casts_5 : decode cX12_casts 5 = .ok (.ifCond .ne 5, 3) := by decide +kernel
theorem dX12_casts_10 : decode cX12_casts 10 = .ok (.aload_n 1, 1) := by decide +kernel
theorem dX12_casts_11 : decode cX12_casts 11 = .ok (.bipush 7, 2) := by decide +kernel
theorem dX12_casts_13 : decode cX12_casts 13 = .ok (.iload_n 2, 1) := by decide +kernel
theorem dX12_casts_14 : decode cX12_casts 14 = .ok (.imul, 1) := by decide +kernel
theorem dX12_casts_15 : decode cX12_casts 15 = .ok (.iconst 3, 1) := by decide +kernel
theorem dX12_casts_16 : decode cX12_casts 16 = .ok (.iadd, 1) := by decide +kernel
theorem dX12_casts_17 : decode cX12_casts 17 = .ok (.iaload, 1) := by decide +kernel
theorem dX12_casts_18 : decode cX12_casts 18 = .ok (.iconst 2, 1) := by decide +kernel
theorem dX12_casts_19 : decode cX12_casts 19 = .ok (.if_icmp .eq 6, 3) := by decide +kernel
theorem dX12_casts_25 : decode cX12_casts 25 = .ok (.aload_n 1, 1) := by decide +kernel
theorem dX12_casts_26 : decode cX12_casts 26 = .ok (.iload_n 2, 1) := by decide +kernel
theorem dX12_casts_27 : decode cX12_casts 27 = .ok (.invokestatic 304, 3) := by decide +kernel
theorem dX12_casts_30 : decode cX12_casts 30 = .ok (.aload_n 1, 1) := by decide +kernel
theorem dX12_casts_31 : decode cX12_casts 31 = .ok (.bipush 7, 2) := by decide +kernel
theorem dX12_casts_33 : decode cX12_casts 33 = .ok (.iload_n 2, 1) := by decide +kernel
theorem dX12_casts_34 : decode cX12_casts 34 = .ok (.imul, 1) := by decide +kernel
theorem dX12_casts_35 : decode cX12_casts 35 = .ok (.iconst 4, 1) := by decide +kernel
theorem dX12_casts_36 : decode cX12_casts 36 = .ok (.iadd, 1) := by decide +kernel
theorem dX12_casts_37 : decode cX12_casts 37 = .ok (.iaload, 1) := by decide +kernel
theorem dX12_casts_38 : decode cX12_casts 38 = .ok (.ireturn, 1) := by decide +kernel
theorem dX12_casts_22 : decode cX12_casts 22 = .ok (.bipush (-2), 2) := by decide +kernel
theorem dX12_casts_24 : decode cX12_casts 24 = .ok (.ireturn, 1) := by decide +kernel
theorem dX12_casts_8 : decode cX12_casts 8 = .ok (.iconst (-1), 1) := by decide +kernel
theorem dX12_casts_9 : decode cX12_casts 9 = .ok (.ireturn, 1) := by decide +kernel
theorem dX12_sacksBy_0 : decode cX12_sacksBy 0 = .ok (.aload_n 0, 1) := by decide +kernel
theorem dX12_sacksBy_1 : decode cX12_sacksBy 1 = .ok (.iload_n 1, 1) := by decide +kernel
theorem dX12_sacksBy_2 : decode cX12_sacksBy 2 = .ok (.invokevirtual 282, 3) := by decide +kernel
theorem dX12_sacksBy_5 : decode cX12_sacksBy 5 = .ok (.ifCond .eq 7, 3) := by decide +kernel
theorem dX12_sacksBy_12 : decode cX12_sacksBy 12 = .ok (.iconst (-1), 1) := by decide +kernel
theorem dX12_sacksBy_13 : decode cX12_sacksBy 13 = .ok (.ireturn, 1) := by decide +kernel
theorem dX12_sacksBy_8 : decode cX12_sacksBy 8 = .ok (.iload_n 2, 1) := by decide +kernel
theorem dX12_sacksBy_9 : decode cX12_sacksBy 9 = .ok (.ifCond .ne 5, 3) := by decide +kernel
theorem dX12_sacksBy_14 : decode cX12_sacksBy 14 = .ok (.aload_n 0, 1) := by decide +kernel
theorem dX12_sacksBy_15 : decode cX12_sacksBy 15 = .ok (.iload_n 1, 1) := by decide +kernel
theorem dX12_sacksBy_16 : decode cX12_sacksBy 16 = .ok (.invokevirtual 268, 3) := by decide +kernel
theorem dX12_sacksBy_19 : decode cX12_sacksBy 19 = .ok (.iconst 3, 1) := by decide +kernel
theorem dX12_sacksBy_20 : decode cX12_sacksBy 20 = .ok (.if_icmp .eq 16, 3) := by decide +kernel
theorem dX12_sacksBy_36 : decode cX12_sacksBy 36 = .ok (.bipush (-2), 2) := by decide +kernel
theorem dX12_sacksBy_38 : decode cX12_sacksBy 38 = .ok (.ireturn, 1) := by decide +kernel
theorem dX12_sacksBy_23 : decode cX12_sacksBy 23 = .ok (.iload_n 2, 1) := by decide +kernel
theorem dX12_sacksBy_39 : decode cX12_sacksBy 39 = .ok (.aload_n 0, 1) := by decide +kernel
theorem dX12_sacksBy_40 : decode cX12_sacksBy 40 = .ok (.getfield 32, 3) := by decide +kernel
theorem dX12_sacksBy_43 : decode cX12_sacksBy 43 = .ok (.bipush 7, 2) := by decide +kernel
theorem dX12_sacksBy_45 : decode cX12_sacksBy 45 = .ok (.iload_n 1, 1) := by decide +kernel
theorem dX12_sacksBy_46 : decode cX12_sacksBy 46 = .ok (.imul, 1) := by decide +kernel
theorem dX12_sacksBy_47 : decode cX12_sacksBy 47 = .ok (.iconst 1, 1) := by decide +kernel
theorem dX12_sacksBy_48 : decode cX12_sacksBy 48 = .ok (.iadd, 1) := by decide +kernel
theorem dX12_sacksBy_49 : decode cX12_sacksBy 49 = .ok (.iaload, 1) := by decide +kernel
theorem dX12_sacksBy_50 : decode cX12_sacksBy 50 = .ok (.i2l, 1) := by decide +kernel
theorem dX12_sacksBy_51 : decode cX12_sacksBy 51 = .ok (.iload_n 2, 1) := by decide +kernel
theorem dX12_sacksBy_52 : decode cX12_sacksBy 52 = .ok (.i2l, 1) := by decide +kernel
theorem dX12_sacksBy_53 : decode cX12_sacksBy 53 = .ok (.ladd, 1) := by decide +kernel
theorem dX12_sacksBy_54 : decode cX12_sacksBy 54 = .ok (.lstore_n 3, 1) := by decide +kernel
theorem dX12_sacksBy_55 : decode cX12_sacksBy 55 = .ok (.lload_n 3, 1) := by decide +kernel
theorem dX12_sacksBy_56 : decode cX12_sacksBy 56 = .ok (.lconst 0, 1) := by decide +kernel
theorem dX12_sacksBy_57 : decode cX12_sacksBy 57 = .ok (.ldc2_w 285, 3) := by decide +kernel
theorem dX12_sacksBy_60 : decode cX12_sacksBy 60 = .ok (.invokestatic 131, 3) := by decide +kernel
theorem dX12_sacksBy_63 : decode cX12_sacksBy 63 = .ok (.ifCond .ne 6, 3) := by decide +kernel
theorem dX12_sacksBy_69 : decode cX12_sacksBy 69 = .ok (.aload_n 0, 1) := by decide +kernel
theorem dX12_sacksBy_70 : decode cX12_sacksBy 70 = .ok (.getfield 32, 3) := by decide +kernel
theorem dX12_sacksBy_73 : decode cX12_sacksBy 73 = .ok (.bipush 7, 2) := by decide +kernel
theorem dX12_sacksBy_75 : decode cX12_sacksBy 75 = .ok (.iload_n 1, 1) := by decide +kernel
theorem dX12_sacksBy_76 : decode cX12_sacksBy 76 = .ok (.imul, 1) := by decide +kernel
theorem dX12_sacksBy_77 : decode cX12_sacksBy 77 = .ok (.iconst 1, 1) := by decide +kernel
theorem dX12_sacksBy_78 : decode cX12_sacksBy 78 = .ok (.iadd, 1) := by decide +kernel
theorem dX12_sacksBy_79 : decode cX12_sacksBy 79 = .ok (.lload_n 3, 1) := by decide +kernel
theorem dX12_sacksBy_80 : decode cX12_sacksBy 80 = .ok (.l2i, 1) := by decide +kernel
theorem dX12_sacksBy_81 : decode cX12_sacksBy 81 = .ok (.iastore, 1) := by decide +kernel
theorem dX12_sacksBy_82 : decode cX12_sacksBy 82 = .ok (.lload_n 3, 1) := by decide +kernel
theorem dX12_sacksBy_83 : decode cX12_sacksBy 83 = .ok (.l2i, 1) := by decide +kernel
theorem dX12_sacksBy_84 : decode cX12_sacksBy 84 = .ok (.ireturn, 1) := by decide +kernel
theorem dX12_sacksBy_66 : decode cX12_sacksBy 66 = .ok (.bipush (-3), 2) := by decide +kernel
theorem dX12_sacksBy_68 : decode cX12_sacksBy 68 = .ok (.ireturn, 1) := by decide +kernel
theorem dX12_sacksBy_24 : decode cX12_sacksBy 24 = .ok (.ifCond .le 15, 3) := by decide +kernel
theorem dX12_sacksBy_27 : decode cX12_sacksBy 27 = .ok (.aload_n 0, 1) := by decide +kernel
theorem dX12_sacksBy_28 : decode cX12_sacksBy 28 = .ok (.iload_n 1, 1) := by decide +kernel
theorem dX12_sacksBy_29 : decode cX12_sacksBy 29 = .ok (.invokevirtual 268, 3) := by decide +kernel
theorem dX12_sacksBy_32 : decode cX12_sacksBy 32 = .ok (.iconst 1, 1) := by decide +kernel
theorem dX12_sacksBy_33 : decode cX12_sacksBy 33 = .ok (.if_icmp .ne 6, 3) := by decide +kernel
theorem dX12_loads_0 : decode cX12_loads 0 = .ok (.aload_n 0, 1) := by decide +kernel
theorem dX12_loads_1 : decode cX12_loads 1 = .ok (.iload_n 1, 1) := by decide +kernel
theorem dX12_loads_2 : decode cX12_loads 2 = .ok (.invokevirtual 282, 3) := by decide +kernel
theorem dX12_loads_5 : decode cX12_loads 5 = .ok (.ifCond .eq 15, 3) := by decide +kernel
theorem dX12_loads_20 : decode cX12_loads 20 = .ok (.iconst (-1), 1) := by decide +kernel
theorem dX12_loads_21 : decode cX12_loads 21 = .ok (.ireturn, 1) := by decide +kernel
theorem dX12_loads_8 : decode cX12_loads 8 = .ok (.iload_n 2, 1) := by decide +kernel
theorem dX12_loads_9 : decode cX12_loads 9 = .ok (.i2l, 1) := by decide +kernel
theorem dX12_loads_10 : decode cX12_loads 10 = .ok (.lconst 0, 1) := by decide +kernel
theorem dX12_loads_11 : decode cX12_loads 11 = .ok (.ldc2_w 285, 3) := by decide +kernel
theorem dX12_loads_14 : decode cX12_loads 14 = .ok (.invokestatic 131, 3) := by decide +kernel
theorem dX12_loads_17 : decode cX12_loads 17 = .ok (.ifCond .ne 5, 3) := by decide +kernel
theorem dX12_loads_22 : decode cX12_loads 22 = .ok (.aload_n 0, 1) := by decide +kernel
theorem dX12_loads_23 : decode cX12_loads 23 = .ok (.iload_n 1, 1) := by decide +kernel
theorem dX12_loads_24 : decode cX12_loads 24 = .ok (.invokevirtual 268, 3) := by decide +kernel
theorem dX12_loads_42 : decode cX12_loads 42 = .ok (.aload_n 0, 1) := by decide +kernel
theorem dX12_loads_43 : decode cX12_loads 43 = .ok (.getfield 32, 3) := by decide +kernel
theorem dX12_loads_46 : decode cX12_loads 46 = .ok (.bipush 7, 2) := by decide +kernel
theorem dX12_loads_48 : decode cX12_loads 48 = .ok (.iload_n 1, 1) := by decide +kernel
theorem dX12_loads_49 : decode cX12_loads 49 = .ok (.imul, 1) := by decide +kernel
theorem dX12_loads_50 : decode cX12_loads 50 = .ok (.iconst 2, 1) := by decide +kernel
theorem dX12_loads_51 : decode cX12_loads 51 = .ok (.iadd, 1) := by decide +kernel
theorem dX12_loads_52 : decode cX12_loads 52 = .ok (.iaload, 1) := by decide +kernel
theorem dX12_loads_53 : decode cX12_loads 53 = .ok (.istore_n 3, 1) := by decide +kernel
theorem dX12_loads_54 : decode cX12_loads 54 = .ok (.aload_n 0, 1) := by decide +kernel
theorem dX12_loads_55 : decode cX12_loads 55 = .ok (.getfield 32, 3) := by decide +kernel
theorem dX12_loads_58 : decode cX12_loads 58 = .ok (.bipush 7, 2) := by decide +kernel
theorem dX12_loads_60 : decode cX12_loads 60 = .ok (.iload_n 1, 1) := by decide +kernel
theorem dX12_loads_61 : decode cX12_loads 61 = .ok (.imul, 1) := by decide +kernel
theorem dX12_loads_62 : decode cX12_loads 62 = .ok (.iconst 2, 1) := by decide +kernel
theorem dX12_loads_63 : decode cX12_loads 63 = .ok (.iadd, 1) := by decide +kernel
theorem dX12_loads_64 : decode cX12_loads 64 = .ok (.iload_n 2, 1) := by decide +kernel
theorem dX12_loads_65 : decode cX12_loads 65 = .ok (.iastore, 1) := by decide +kernel
theorem dX12_loads_66 : decode cX12_loads 66 = .ok (.iload_n 3, 1) := by decide +kernel
theorem dX12_loads_67 : decode cX12_loads 67 = .ok (.ireturn, 1) := by decide +kernel
theorem dX12_loads_27 : decode cX12_loads 27 = .ok (.ifCond .eq 15, 3) := by decide +kernel
theorem dX12_loads_30 : decode cX12_loads 30 = .ok (.aload_n 0, 1) := by decide +kernel
theorem dX12_loads_31 : decode cX12_loads 31 = .ok (.iload_n 1, 1) := by decide +kernel
theorem dX12_loads_32 : decode cX12_loads 32 = .ok (.invokevirtual 268, 3) := by decide +kernel
theorem dX12_loads_35 : decode cX12_loads 35 = .ok (.iconst 2, 1) := by decide +kernel
theorem dX12_loads_36 : decode cX12_loads 36 = .ok (.if_icmp .eq 6, 3) := by decide +kernel
theorem dX12_loads_39 : decode cX12_loads 39 = .ok (.bipush (-2), 2) := by decide +kernel
theorem dX12_loads_41 : decode cX12_loads 41 = .ok (.ireturn, 1) := by decide +kernel
theorem dX12_fills_0 : decode cX12_fills 0 = .ok (.aload_n 0, 1) := by decide +kernel
theorem dX12_fills_1 : decode cX12_fills 1 = .ok (.iload_n 1, 1) := by decide +kernel
theorem dX12_fills_2 : decode cX12_fills 2 = .ok (.invokevirtual 282, 3) := by decide +kernel
theorem dX12_fills_5 : decode cX12_fills 5 = .ok (.ifCond .eq 15, 3) := by decide +kernel
theorem dX12_fills_20 : decode cX12_fills 20 = .ok (.iconst (-1), 1) := by decide +kernel
theorem dX12_fills_21 : decode cX12_fills 21 = .ok (.ireturn, 1) := by decide +kernel
theorem dX12_fills_8 : decode cX12_fills 8 = .ok (.iload_n 2, 1) := by decide +kernel
theorem dX12_fills_9 : decode cX12_fills 9 = .ok (.i2l, 1) := by decide +kernel
theorem dX12_fills_10 : decode cX12_fills 10 = .ok (.lconst 0, 1) := by decide +kernel
theorem dX12_fills_11 : decode cX12_fills 11 = .ok (.ldc2_w 318, 3) := by decide +kernel
theorem dX12_fills_14 : decode cX12_fills 14 = .ok (.invokestatic 131, 3) := by decide +kernel
theorem dX12_fills_17 : decode cX12_fills 17 = .ok (.ifCond .ne 5, 3) := by decide +kernel
theorem dX12_fills_22 : decode cX12_fills 22 = .ok (.aload_n 0, 1) := by decide +kernel
theorem dX12_fills_23 : decode cX12_fills 23 = .ok (.iload_n 1, 1) := by decide +kernel
theorem dX12_fills_24 : decode cX12_fills 24 = .ok (.invokevirtual 268, 3) := by decide +kernel
theorem dX12_fills_27 : decode cX12_fills 27 = .ok (.ifCond .eq 6, 3) := by decide +kernel
theorem dX12_fills_33 : decode cX12_fills 33 = .ok (.aload_n 0, 1) := by decide +kernel
theorem dX12_fills_34 : decode cX12_fills 34 = .ok (.getfield 32, 3) := by decide +kernel
theorem dX12_fills_37 : decode cX12_fills 37 = .ok (.bipush 7, 2) := by decide +kernel
theorem dX12_fills_39 : decode cX12_fills 39 = .ok (.iload_n 1, 1) := by decide +kernel
theorem dX12_fills_40 : decode cX12_fills 40 = .ok (.imul, 1) := by decide +kernel
theorem dX12_fills_41 : decode cX12_fills 41 = .ok (.iconst 0, 1) := by decide +kernel
theorem dX12_fills_42 : decode cX12_fills 42 = .ok (.iadd, 1) := by decide +kernel
theorem dX12_fills_43 : decode cX12_fills 43 = .ok (.iaload, 1) := by decide +kernel
theorem dX12_fills_44 : decode cX12_fills 44 = .ok (.istore_n 3, 1) := by decide +kernel
theorem dX12_fills_45 : decode cX12_fills 45 = .ok (.aload_n 0, 1) := by decide +kernel
theorem dX12_fills_46 : decode cX12_fills 46 = .ok (.getfield 32, 3) := by decide +kernel
theorem dX12_fills_49 : decode cX12_fills 49 = .ok (.bipush 7, 2) := by decide +kernel
theorem dX12_fills_51 : decode cX12_fills 51 = .ok (.iload_n 1, 1) := by decide +kernel
theorem dX12_fills_52 : decode cX12_fills 52 = .ok (.imul, 1) := by decide +kernel
theorem dX12_fills_53 : decode cX12_fills 53 = .ok (.iconst 0, 1) := by decide +kernel
theorem dX12_fills_54 : decode cX12_fills 54 = .ok (.iadd, 1) := by decide +kernel
theorem dX12_fills_55 : decode cX12_fills 55 = .ok (.iload_n 2, 1) := by decide +kernel
theorem dX12_fills_56 : decode cX12_fills 56 = .ok (.iastore, 1) := by decide +kernel
theorem dX12_fills_57 : decode cX12_fills 57 = .ok (.iload_n 3, 1) := by decide +kernel
theorem dX12_fills_58 : decode cX12_fills 58 = .ok (.ireturn, 1) := by decide +kernel
theorem dX12_fills_30 : decode cX12_fills 30 = .ok (.bipush (-2), 2) := by decide +kernel
theorem dX12_fills_32 : decode cX12_fills 32 = .ok (.ireturn, 1) := by decide +kernel
theorem dX12_startsCounting_0 : decode cX12_startsCounting 0 = .ok (.aload_n 0, 1) := by decide +kernel
theorem dX12_startsCounting_1 : decode cX12_startsCounting 1 = .ok (.iconst 0, 1) := by decide +kernel
theorem dX12_startsCounting_2 : decode cX12_startsCounting 2 = .ok (.putfield 320, 3) := by decide +kernel
theorem dX12_startsCounting_5 : decode cX12_startsCounting 5 = .ok (.aload_n 0, 1) := by decide +kernel
theorem dX12_startsCounting_6 : decode cX12_startsCounting 6 = .ok (.iconst 0, 1) := by decide +kernel
theorem dX12_startsCounting_7 : decode cX12_startsCounting 7 = .ok (.putfield 323, 3) := by decide +kernel
theorem dX12_startsCounting_10 : decode cX12_startsCounting 10 = .ok (.aload_n 0, 1) := by decide +kernel
theorem dX12_startsCounting_11 : decode cX12_startsCounting 11 = .ok (.iconst 0, 1) := by decide +kernel
theorem dX12_startsCounting_12 : decode cX12_startsCounting 12 = .ok (.putfield 326, 3) := by decide +kernel
theorem dX12_startsCounting_15 : decode cX12_startsCounting 15 = .ok (.aload_n 0, 1) := by decide +kernel
theorem dX12_startsCounting_16 : decode cX12_startsCounting 16 = .ok (.iconst 0, 1) := by decide +kernel
theorem dX12_startsCounting_17 : decode cX12_startsCounting 17 = .ok (.putfield 329, 3) := by decide +kernel
theorem dX12_startsCounting_20 : decode cX12_startsCounting 20 = .ok (.return_, 1) := by decide +kernel
theorem dX12_isLost_0 : decode cX12_isLost 0 = .ok (.aload_n 1, 1) := by decide +kernel
theorem dX12_isLost_1 : decode cX12_isLost 1 = .ok (.bipush 7, 2) := by decide +kernel
theorem dX12_isLost_3 : decode cX12_isLost 3 = .ok (.iload_n 2, 1) := by decide +kernel
theorem dX12_isLost_4 : decode cX12_isLost 4 = .ok (.imul, 1) := by decide +kernel
theorem dX12_isLost_5 : decode cX12_isLost 5 = .ok (.iconst 3, 1) := by decide +kernel
theorem dX12_isLost_6 : decode cX12_isLost 6 = .ok (.iadd, 1) := by decide +kernel
theorem dX12_isLost_7 : decode cX12_isLost 7 = .ok (.iconst 3, 1) := by decide +kernel
theorem dX12_isLost_8 : decode cX12_isLost 8 = .ok (.iastore, 1) := by decide +kernel
theorem dX12_isLost_9 : decode cX12_isLost 9 = .ok (.aload_n 0, 1) := by decide +kernel
theorem dX12_isLost_10 : decode cX12_isLost 10 = .ok (.dup, 1) := by decide +kernel
theorem dX12_isLost_11 : decode cX12_isLost 11 = .ok (.getfield 323, 3) := by decide +kernel
theorem dX12_isLost_14 : decode cX12_isLost 14 = .ok (.iconst 1, 1) := by decide +kernel
theorem dX12_isLost_15 : decode cX12_isLost 15 = .ok (.iload_n 2, 1) := by decide +kernel
theorem dX12_isLost_16 : decode cX12_isLost 16 = .ok (.ishl, 1) := by decide +kernel
theorem dX12_isLost_17 : decode cX12_isLost 17 = .ok (.ior, 1) := by decide +kernel
theorem dX12_isLost_18 : decode cX12_isLost 18 = .ok (.putfield 323, 3) := by decide +kernel
theorem dX12_isLost_21 : decode cX12_isLost 21 = .ok (.aload_n 0, 1) := by decide +kernel
theorem dX12_isLost_22 : decode cX12_isLost 22 = .ok (.dup, 1) := by decide +kernel
theorem dX12_isLost_23 : decode cX12_isLost 23 = .ok (.getfield 329, 3) := by decide +kernel
theorem dX12_isLost_26 : decode cX12_isLost 26 = .ok (.iconst 1, 1) := by decide +kernel
theorem dX12_isLost_27 : decode cX12_isLost 27 = .ok (.iadd, 1) := by decide +kernel
theorem dX12_isLost_28 : decode cX12_isLost 28 = .ok (.putfield 329, 3) := by decide +kernel
theorem dX12_isLost_31 : decode cX12_isLost 31 = .ok (.return_, 1) := by decide +kernel
theorem dX12_eastward_0 : decode cX12_eastward 0 = .ok (.iload_n 0, 1) := by decide +kernel
theorem dX12_eastward_9 : decode cX12_eastward 9 = .ok (.iconst 0, 1) := by decide +kernel
theorem dX12_eastward_10 : decode cX12_eastward 10 = .ok (.goto 13, 3) := by decide +kernel
theorem dX12_eastward_23 : decode cX12_eastward 23 = .ok (.ireturn, 1) := by decide +kernel
theorem dX12_eastward_1 : decode cX12_eastward 1 = .ok (.ifCond .eq 8, 3) := by decide +kernel
theorem dX12_eastward_4 : decode cX12_eastward 4 = .ok (.iload_n 0, 1) := by decide +kernel
theorem dX12_eastward_5 : decode cX12_eastward 5 = .ok (.iconst 4, 1) := by decide +kernel
theorem dX12_eastward_6 : decode cX12_eastward 6 = .ok (.if_icmp .ne 7, 3) := by decide +kernel
theorem dX12_eastward_13 : decode cX12_eastward 13 = .ok (.iload_n 0, 1) := by decide +kernel
theorem dX12_eastward_14 : decode cX12_eastward 14 = .ok (.iconst 4, 1) := by decide +kernel
theorem dX12_eastward_15 : decode cX12_eastward 15 = .ok (.if_icmp .ge 7, 3) := by decide +kernel
theorem dX12_eastward_22 : decode cX12_eastward 22 = .ok (.iconst (-1), 1) := by decide +kernel
theorem dX12_eastward_18 : decode cX12_eastward 18 = .ok (.iconst 1, 1) := by decide +kernel
theorem dX12_eastward_19 : decode cX12_eastward 19 = .ok (.goto 4, 3) := by decide +kernel
theorem dX12_southward_0 : decode cX12_southward 0 = .ok (.iload_n 0, 1) := by decide +kernel
theorem dX12_southward_1 : decode cX12_southward 1 = .ok (.iconst 2, 1) := by decide +kernel
theorem dX12_southward_11 : decode cX12_southward 11 = .ok (.iconst 0, 1) := by decide +kernel
theorem dX12_southward_12 : decode cX12_southward 12 = .ok (.goto 19, 3) := by decide +kernel
theorem dX12_southward_31 : decode cX12_southward 31 = .ok (.ireturn, 1) := by decide +kernel
theorem dX12_southward_2 : decode cX12_southward 2 = .ok (.if_icmp .eq 9, 3) := by decide +kernel
theorem dX12_southward_5 : decode cX12_southward 5 = .ok (.iload_n 0, 1) := by decide +kernel
theorem dX12_southward_6 : decode cX12_southward 6 = .ok (.bipush 6, 2) := by decide +kernel
theorem dX12_southward_8 : decode cX12_southward 8 = .ok (.if_icmp .ne 7, 3) := by decide +kernel
theorem dX12_southward_15 : decode cX12_southward 15 = .ok (.iload_n 0, 1) := by decide +kernel
theorem dX12_southward_16 : decode cX12_southward 16 = .ok (.iconst 2, 1) := by decide +kernel
theorem dX12_southward_17 : decode cX12_southward 17 = .ok (.if_icmp .le 13, 3) := by decide +kernel
theorem dX12_southward_30 : decode cX12_southward 30 = .ok (.iconst (-1), 1) := by decide +kernel
theorem dX12_southward_20 : decode cX12_southward 20 = .ok (.iload_n 0, 1) := by decide +kernel
theorem dX12_southward_21 : decode cX12_southward 21 = .ok (.bipush 6, 2) := by decide +kernel
theorem dX12_southward_23 : decode cX12_southward 23 = .ok (.if_icmp .ge 7, 3) := by decide +kernel
theorem dX12_southward_26 : decode cX12_southward 26 = .ok (.iconst 1, 1) := by decide +kernel
theorem dX12_southward_27 : decode cX12_southward 27 = .ok (.goto 4, 3) := by decide +kernel
theorem dX12_blows_0 : decode cX12_blows 0 = .ok (.bipush 7, 2) := by decide +kernel
theorem dX12_blows_2 : decode cX12_blows 2 = .ok (.iload_n 2, 1) := by decide +kernel
theorem dX12_blows_3 : decode cX12_blows 3 = .ok (.imul, 1) := by decide +kernel
theorem dX12_blows_4 : decode cX12_blows 4 = .ok (.istore 4, 2) := by decide +kernel
theorem dX12_blows_6 : decode cX12_blows 6 = .ok (.aload_n 0, 1) := by decide +kernel
theorem dX12_blows_7 : decode cX12_blows 7 = .ok (.getfield 26, 3) := by decide +kernel
theorem dX12_blows_10 : decode cX12_blows 10 = .ok (.iload_n 3, 1) := by decide +kernel
theorem dX12_blows_11 : decode cX12_blows 11 = .ok (.iaload, 1) := by decide +kernel
theorem dX12_blows_66 : decode cX12_blows 66 = .ok (.aload_n 1, 1) := by decide +kernel
theorem dX12_blows_67 : decode cX12_blows 67 = .ok (.iload 4, 2) := by decide +kernel
theorem dX12_blows_69 : decode cX12_blows 69 = .ok (.iconst 5, 1) := by decide +kernel
theorem dX12_blows_70 : decode cX12_blows 70 = .ok (.iadd, 1) := by decide +kernel
theorem dX12_blows_71 : decode cX12_blows 71 = .ok (.iaload, 1) := by decide +kernel
theorem dX12_blows_72 : decode cX12_blows 72 = .ok (.i2l, 1) := by decide +kernel
theorem dX12_blows_73 : decode cX12_blows 73 = .ok (.ldc2_w 338, 3) := by decide +kernel
theorem dX12_blows_76 : decode cX12_blows 76 = .ok (.ldc2_w 285, 3) := by decide +kernel
theorem dX12_blows_79 : decode cX12_blows 79 = .ok (.invokestatic 131, 3) := by decide +kernel
theorem dX12_blows_82 : decode cX12_blows 82 = .ok (.ifCond .eq 27, 3) := by decide +kernel
theorem dX12_blows_109 : decode cX12_blows 109 = .ok (.iconst 0, 1) := by decide +kernel
theorem dX12_blows_110 : decode cX12_blows 110 = .ok (.ireturn, 1) := by decide +kernel
theorem dX12_blows_85 : decode cX12_blows 85 = .ok (.aload_n 1, 1) := by decide +kernel
theorem dX12_blows_86 : decode cX12_blows 86 = .ok (.iload 4, 2) := by decide +kernel
theorem dX12_blows_88 : decode cX12_blows 88 = .ok (.bipush 6, 2) := by decide +kernel
theorem dX12_blows_90 : decode cX12_blows 90 = .ok (.iadd, 1) := by decide +kernel
theorem dX12_blows_91 : decode cX12_blows 91 = .ok (.iaload, 1) := by decide +kernel
theorem dX12_blows_92 : decode cX12_blows 92 = .ok (.i2l, 1) := by decide +kernel
theorem dX12_blows_93 : decode cX12_blows 93 = .ok (.ldc2_w 338, 3) := by decide +kernel
theorem dX12_blows_96 : decode cX12_blows 96 = .ok (.ldc2_w 285, 3) := by decide +kernel
theorem dX12_blows_99 : decode cX12_blows 99 = .ok (.invokestatic 131, 3) := by decide +kernel
theorem dX12_blows_102 : decode cX12_blows 102 = .ok (.ifCond .eq 7, 3) := by decide +kernel
theorem dX12_blows_105 : decode cX12_blows 105 = .ok (.iconst 1, 1) := by decide +kernel
theorem dX12_blows_106 : decode cX12_blows 106 = .ok (.goto 4, 3) := by decide +kernel
theorem dX12_blows_12 : decode cX12_blows 12 = .ok (.ifCond .lt 54, 3) := by decide +kernel
theorem dX12_blows_15 : decode cX12_blows 15 = .ok (.aload_n 1, 1) := by decide +kernel
theorem dX12_blows_16 : decode cX12_blows 16 = .ok (.iload 4, 2) := by decide +kernel
theorem dX12_blows_18 : decode cX12_blows 18 = .ok (.iconst 5, 1) := by decide +kernel
theorem dX12_blows_19 : decode cX12_blows 19 = .ok (.iadd, 1) := by decide +kernel
theorem dX12_blows_20 : decode cX12_blows 20 = .ok (.dup2, 1) := by decide +kernel
theorem dX12_blows_21 : decode cX12_blows 21 = .ok (.iaload, 1) := by decide +kernel
theorem dX12_blows_22 : decode cX12_blows 22 = .ok (.aload_n 0, 1) := by decide +kernel
theorem dX12_blows_23 : decode cX12_blows 23 = .ok (.getfield 26, 3) := by decide +kernel
theorem dX12_blows_26 : decode cX12_blows 26 = .ok (.iload_n 3, 1) := by decide +kernel
theorem dX12_blows_27 : decode cX12_blows 27 = .ok (.iaload, 1) := by decide +kernel
theorem dX12_blows_28 : decode cX12_blows 28 = .ok (.invokestatic 332, 3) := by decide +kernel
theorem dX12_blows_31 : decode cX12_blows 31 = .ok (.aload_n 0, 1) := by decide +kernel
theorem dX12_blows_32 : decode cX12_blows 32 = .ok (.getfield 29, 3) := by decide +kernel
theorem dX12_blows_35 : decode cX12_blows 35 = .ok (.iload_n 3, 1) := by decide +kernel
theorem dX12_blows_36 : decode cX12_blows 36 = .ok (.iaload, 1) := by decide +kernel
theorem dX12_blows_37 : decode cX12_blows 37 = .ok (.imul, 1) := by decide +kernel
theorem dX12_blows_38 : decode cX12_blows 38 = .ok (.iadd, 1) := by decide +kernel
theorem dX12_blows_39 : decode cX12_blows 39 = .ok (.iastore, 1) := by decide +kernel
theorem dX12_blows_40 : decode cX12_blows 40 = .ok (.aload_n 1, 1) := by decide +kernel
theorem dX12_blows_41 : decode cX12_blows 41 = .ok (.iload 4, 2) := by decide +kernel
theorem dX12_blows_43 : decode cX12_blows 43 = .ok (.bipush 6, 2) := by decide +kernel
theorem dX12_blows_45 : decode cX12_blows 45 = .ok (.iadd, 1) := by decide +kernel
theorem dX12_blows_46 : decode cX12_blows 46 = .ok (.dup2, 1) := by decide +kernel
theorem dX12_blows_47 : decode cX12_blows 47 = .ok (.iaload, 1) := by decide +kernel
theorem dX12_blows_48 : decode cX12_blows 48 = .ok (.aload_n 0, 1) := by decide +kernel
theorem dX12_blows_49 : decode cX12_blows 49 = .ok (.getfield 26, 3) := by decide +kernel
theorem dX12_blows_52 : decode cX12_blows 52 = .ok (.iload_n 3, 1) := by decide +kernel
theorem dX12_blows_53 : decode cX12_blows 53 = .ok (.iaload, 1) := by decide +kernel
theorem dX12_blows_54 : decode cX12_blows 54 = .ok (.invokestatic 335, 3) := by decide +kernel
theorem dX12_blows_57 : decode cX12_blows 57 = .ok (.aload_n 0, 1) := by decide +kernel
theorem dX12_blows_58 : decode cX12_blows 58 = .ok (.getfield 29, 3) := by decide +kernel
theorem dX12_blows_61 : decode cX12_blows 61 = .ok (.iload_n 3, 1) := by decide +kernel
theorem dX12_blows_62 : decode cX12_blows 62 = .ok (.iaload, 1) := by decide +kernel
theorem dX12_blows_63 : decode cX12_blows 63 = .ok (.imul, 1) := by decide +kernel
theorem dX12_blows_64 : decode cX12_blows 64 = .ok (.iadd, 1) := by decide +kernel
theorem dX12_blows_65 : decode cX12_blows 65 = .ok (.iastore, 1) := by decide +kernel
theorem dX12_touch_0 : decode cX12_touch 0 = .ok (.aload_n 0, 1) := by decide +kernel
theorem dX12_touch_1 : decode cX12_touch 1 = .ok (.getfield 17, 3) := by decide +kernel
theorem dX12_touch_4 : decode cX12_touch 4 = .ok (.iload_n 1, 1) := by decide +kernel
theorem dX12_touch_5 : decode cX12_touch 5 = .ok (.iaload, 1) := by decide +kernel
theorem dX12_touch_6 : decode cX12_touch 6 = .ok (.aload_n 0, 1) := by decide +kernel
theorem dX12_touch_7 : decode cX12_touch 7 = .ok (.getfield 17, 3) := by decide +kernel
theorem dX12_touch_10 : decode cX12_touch 10 = .ok (.iload_n 2, 1) := by decide +kernel
theorem dX12_touch_11 : decode cX12_touch 11 = .ok (.iaload, 1) := by decide +kernel
theorem dX12_touch_12 : decode cX12_touch 12 = .ok (.if_icmp .ne 27, 3) := by decide +kernel
theorem dX12_touch_39 : decode cX12_touch 39 = .ok (.iconst 0, 1) := by decide +kernel
theorem dX12_touch_40 : decode cX12_touch 40 = .ok (.ireturn, 1) := by decide +kernel
theorem dX12_touch_15 : decode cX12_touch 15 = .ok (.aload_n 0, 1) := by decide +kernel
theorem dX12_touch_16 : decode cX12_touch 16 = .ok (.getfield 13, 3) := by decide +kernel
theorem dX12_touch_19 : decode cX12_touch 19 = .ok (.iload_n 1, 1) := by decide +kernel
theorem dX12_touch_20 : decode cX12_touch 20 = .ok (.iaload, 1) := by decide +kernel
theorem dX12_touch_21 : decode cX12_touch 21 = .ok (.aload_n 0, 1) := by decide +kernel
theorem dX12_touch_22 : decode cX12_touch 22 = .ok (.getfield 13, 3) := by decide +kernel
theorem dX12_touch_25 : decode cX12_touch 25 = .ok (.iload_n 2, 1) := by decide +kernel
theorem dX12_touch_26 : decode cX12_touch 26 = .ok (.iaload, 1) := by decide +kernel
theorem dX12_touch_27 : decode cX12_touch 27 = .ok (.isub, 1) := by decide +kernel
theorem dX12_touch_28 : decode cX12_touch 28 = .ok (.invokestatic 308, 3) := by decide +kernel
theorem dX12_touch_31 : decode cX12_touch 31 = .ok (.iconst 1, 1) := by decide +kernel
theorem dX12_touch_32 : decode cX12_touch 32 = .ok (.if_icmp .gt 7, 3) := by decide +kernel
theorem dX12_touch_35 : decode cX12_touch 35 = .ok (.iconst 1, 1) := by decide +kernel
theorem dX12_touch_36 : decode cX12_touch 36 = .ok (.goto 4, 3) := by decide +kernel
theorem dX12_comesDown_0 : decode cX12_comesDown 0 = .ok (.bipush 7, 2) := by decide +kernel
theorem dX12_comesDown_2 : decode cX12_comesDown 2 = .ok (.iload_n 2, 1) := by decide +kernel
theorem dX12_comesDown_3 : decode cX12_comesDown 3 = .ok (.imul, 1) := by decide +kernel
theorem dX12_comesDown_4 : decode cX12_comesDown 4 = .ok (.istore_n 3, 1) := by decide +kernel
theorem dX12_comesDown_5 : decode cX12_comesDown 5 = .ok (.aload_n 1, 1) := by decide +kernel
theorem dX12_comesDown_6 : decode cX12_comesDown 6 = .ok (.iload_n 3, 1) := by decide +kernel
theorem dX12_comesDown_7 : decode cX12_comesDown 7 = .ok (.iconst 3, 1) := by decide +kernel
theorem dX12_comesDown_8 : decode cX12_comesDown 8 = .ok (.iadd, 1) := by decide +kernel
theorem dX12_comesDown_9 : decode cX12_comesDown 9 = .ok (.iaload, 1) := by decide +kernel
theorem dX12_comesDown_10 : decode cX12_comesDown 10 = .ok (.iconst 1, 1) := by decide +kernel
theorem dX12_comesDown_28 : decode cX12_comesDown 28 = .ok (.istore 4, 2) := by decide +kernel
theorem dX12_comesDown_30 : decode cX12_comesDown 30 = .ok (.iload 4, 2) := by decide +kernel
theorem dX12_comesDown_32 : decode cX12_comesDown 32 = .ok (.ifCond .eq 12, 3) := by decide +kernel
theorem dX12_comesDown_44 : decode cX12_comesDown 44 = .ok (.return_, 1) := by decide +kernel
theorem dX12_comesDown_35 : decode cX12_comesDown 35 = .ok (.aload_n 0, 1) := by decide +kernel
theorem dX12_comesDown_36 : decode cX12_comesDown 36 = .ok (.aload_n 1, 1) := by decide +kernel
theorem dX12_comesDown_37 : decode cX12_comesDown 37 = .ok (.iload_n 2, 1) := by decide +kernel
theorem dX12_comesDown_38 : decode cX12_comesDown 38 = .ok (.invokevirtual 261, 3) := by decide +kernel
theorem dX12_comesDown_41 : decode cX12_comesDown 41 = .ok (.ifCond .lt 4, 3) := by decide +kernel
theorem dX12_comesDown_45 : decode cX12_comesDown 45 = .ok (.aload_n 1, 1) := by decide +kernel
theorem dX12_comesDown_46 : decode cX12_comesDown 46 = .ok (.iload_n 3, 1) := by decide +kernel
theorem dX12_comesDown_47 : decode cX12_comesDown 47 = .ok (.iconst 3, 1) := by decide +kernel
theorem dX12_comesDown_48 : decode cX12_comesDown 48 = .ok (.iadd, 1) := by decide +kernel
theorem dX12_comesDown_49 : decode cX12_comesDown 49 = .ok (.iaload, 1) := by decide +kernel
theorem dX12_comesDown_50 : decode cX12_comesDown 50 = .ok (.iconst 1, 1) := by decide +kernel
theorem dX12_comesDown_70 : decode cX12_comesDown 70 = .ok (.aload_n 1, 1) := by decide +kernel
theorem dX12_comesDown_71 : decode cX12_comesDown 71 = .ok (.iload_n 3, 1) := by decide +kernel
theorem dX12_comesDown_72 : decode cX12_comesDown 72 = .ok (.iconst 3, 1) := by decide +kernel
theorem dX12_comesDown_73 : decode cX12_comesDown 73 = .ok (.iadd, 1) := by decide +kernel
theorem dX12_comesDown_74 : decode cX12_comesDown 74 = .ok (.iconst 0, 1) := by decide +kernel
theorem dX12_comesDown_75 : decode cX12_comesDown 75 = .ok (.iastore, 1) := by decide +kernel
theorem dX12_comesDown_76 : decode cX12_comesDown 76 = .ok (.aload_n 0, 1) := by decide +kernel
theorem dX12_comesDown_77 : decode cX12_comesDown 77 = .ok (.dup, 1) := by decide +kernel
theorem dX12_comesDown_78 : decode cX12_comesDown 78 = .ok (.getfield 320, 3) := by decide +kernel
theorem dX12_comesDown_81 : decode cX12_comesDown 81 = .ok (.iconst 1, 1) := by decide +kernel
theorem dX12_comesDown_82 : decode cX12_comesDown 82 = .ok (.iload_n 2, 1) := by decide +kernel
theorem dX12_comesDown_83 : decode cX12_comesDown 83 = .ok (.ishl, 1) := by decide +kernel
theorem dX12_comesDown_84 : decode cX12_comesDown 84 = .ok (.ior, 1) := by decide +kernel
theorem dX12_comesDown_85 : decode cX12_comesDown 85 = .ok (.putfield 320, 3) := by decide +kernel
theorem dX12_comesDown_88 : decode cX12_comesDown 88 = .ok (.aload_n 0, 1) := by decide +kernel
theorem dX12_comesDown_89 : decode cX12_comesDown 89 = .ok (.dup, 1) := by decide +kernel
theorem dX12_comesDown_90 : decode cX12_comesDown 90 = .ok (.getfield 326, 3) := by decide +kernel
theorem dX12_comesDown_93 : decode cX12_comesDown 93 = .ok (.iconst 1, 1) := by decide +kernel
theorem dX12_comesDown_94 : decode cX12_comesDown 94 = .ok (.iadd, 1) := by decide +kernel
theorem dX12_comesDown_95 : decode cX12_comesDown 95 = .ok (.putfield 326, 3) := by decide +kernel
theorem dX12_comesDown_98 : decode cX12_comesDown 98 = .ok (.return_, 1) := by decide +kernel
theorem dX12_comesDown_51 : decode cX12_comesDown 51 = .ok (.if_icmp .ne 19, 3) := by decide +kernel
theorem dX12_comesDown_54 : decode cX12_comesDown 54 = .ok (.aload_n 1, 1) := by decide +kernel
theorem dX12_comesDown_55 : decode cX12_comesDown 55 = .ok (.iload_n 2, 1) := by decide +kernel
theorem dX12_comesDown_56 : decode cX12_comesDown 56 = .ok (.invokestatic 311, 3) := by decide +kernel
theorem dX12_comesDown_59 : decode cX12_comesDown 59 = .ok (.iconst 2, 1) := by decide +kernel
theorem dX12_comesDown_60 : decode cX12_comesDown 60 = .ok (.if_icmp .le 10, 3) := by decide +kernel
theorem dX12_comesDown_63 : decode cX12_comesDown 63 = .ok (.aload_n 0, 1) := by decide +kernel
theorem dX12_comesDown_64 : decode cX12_comesDown 64 = .ok (.aload_n 1, 1) := by decide +kernel
theorem dX12_comesDown_65 : decode cX12_comesDown 65 = .ok (.iload_n 2, 1) := by decide +kernel
theorem dX12_comesDown_66 : decode cX12_comesDown 66 = .ok (.invokevirtual 340, 3) := by decide +kernel
theorem dX12_comesDown_69 : decode cX12_comesDown 69 = .ok (.return_, 1) := by decide +kernel
theorem dX12_comesDown_23 : decode cX12_comesDown 23 = .ok (.iconst 1, 1) := by decide +kernel
theorem dX12_comesDown_24 : decode cX12_comesDown 24 = .ok (.goto 4, 3) := by decide +kernel
theorem dX12_comesDown_11 : decode cX12_comesDown 11 = .ok (.if_icmp .eq 12, 3) := by decide +kernel
theorem dX12_comesDown_14 : decode cX12_comesDown 14 = .ok (.aload_n 1, 1) := by decide +kernel
theorem dX12_comesDown_15 : decode cX12_comesDown 15 = .ok (.iload_n 3, 1) := by decide +kernel
theorem dX12_comesDown_16 : decode cX12_comesDown 16 = .ok (.iconst 3, 1) := by decide +kernel
theorem dX12_comesDown_17 : decode cX12_comesDown 17 = .ok (.iadd, 1) := by decide +kernel
theorem dX12_comesDown_18 : decode cX12_comesDown 18 = .ok (.iaload, 1) := by decide +kernel
theorem dX12_comesDown_19 : decode cX12_comesDown 19 = .ok (.iconst 2, 1) := by decide +kernel
theorem dX12_comesDown_20 : decode cX12_comesDown 20 = .ok (.if_icmp .ne 7, 3) := by decide +kernel
theorem dX12_comesDown_27 : decode cX12_comesDown 27 = .ok (.iconst 0, 1) := by decide +kernel
theorem dX12_hourGoes_0 : decode cX12_hourGoes 0 = .ok (.iconst 0, 1) := by decide +kernel
theorem dX12_hourGoes_1 : decode cX12_hourGoes 1 = .ok (.istore_n 2, 1) := by decide +kernel
theorem dX12_hourGoes_2 : decode cX12_hourGoes 2 = .ok (.iload_n 2, 1) := by decide +kernel
theorem dX12_hourGoes_3 : decode cX12_hourGoes 3 = .ok (.aload_n 0, 1) := by decide +kernel
theorem dX12_hourGoes_4 : decode cX12_hourGoes 4 = .ok (.getfield 135, 3) := by decide +kernel
theorem dX12_hourGoes_7 : decode cX12_hourGoes 7 = .ok (.if_icmp .ge 42, 3) := by decide +kernel
theorem dX12_hourGoes_10 : decode cX12_hourGoes 10 = .ok (.aload_n 1, 1) := by decide +kernel
theorem dX12_hourGoes_11 : decode cX12_hourGoes 11 = .ok (.bipush 7, 2) := by decide +kernel
theorem dX12_hourGoes_13 : decode cX12_hourGoes 13 = .ok (.iload_n 2, 1) := by decide +kernel
theorem dX12_hourGoes_14 : decode cX12_hourGoes 14 = .ok (.imul, 1) := by decide +kernel
theorem dX12_hourGoes_15 : decode cX12_hourGoes 15 = .ok (.iconst 3, 1) := by decide +kernel
theorem dX12_hourGoes_16 : decode cX12_hourGoes 16 = .ok (.iadd, 1) := by decide +kernel
theorem dX12_hourGoes_17 : decode cX12_hourGoes 17 = .ok (.iaload, 1) := by decide +kernel
theorem dX12_hourGoes_18 : decode cX12_hourGoes 18 = .ok (.iconst 1, 1) := by decide +kernel
theorem dX12_hourGoes_43 : decode cX12_hourGoes 43 = .ok (.iinc 2 1, 3) := by decide +kernel
theorem dX12_hourGoes_46 : decode cX12_hourGoes 46 = .ok (.goto (-44), 3) := by decide +kernel
theorem dX12_hourGoes_19 : decode cX12_hourGoes 19 = .ok (.if_icmp .ne 24, 3) := by decide +kernel
theorem dX12_hourGoes_22 : decode cX12_hourGoes 22 = .ok (.aload_n 0, 1) := by decide +kernel
theorem dX12_hourGoes_23 : decode cX12_hourGoes 23 = .ok (.aload_n 1, 1) := by decide +kernel
theorem dX12_hourGoes_24 : decode cX12_hourGoes 24 = .ok (.iload_n 2, 1) := by decide +kernel
theorem dX12_hourGoes_25 : decode cX12_hourGoes 25 = .ok (.aload_n 0, 1) := by decide +kernel
theorem dX12_hourGoes_26 : decode cX12_hourGoes 26 = .ok (.aload_n 1, 1) := by decide +kernel
theorem dX12_hourGoes_27 : decode cX12_hourGoes 27 = .ok (.iload_n 2, 1) := by decide +kernel
theorem dX12_hourGoes_28 : decode cX12_hourGoes 28 = .ok (.invokevirtual 290, 3) := by decide +kernel
theorem dX12_hourGoes_31 : decode cX12_hourGoes 31 = .ok (.invokevirtual 343, 3) := by decide +kernel
theorem dX12_hourGoes_34 : decode cX12_hourGoes 34 = .ok (.ifCond .ne 9, 3) := by decide +kernel
theorem dX12_hourGoes_37 : decode cX12_hourGoes 37 = .ok (.aload_n 0, 1) := by decide +kernel
theorem dX12_hourGoes_38 : decode cX12_hourGoes 38 = .ok (.aload_n 1, 1) := by decide +kernel
theorem dX12_hourGoes_39 : decode cX12_hourGoes 39 = .ok (.iload_n 2, 1) := by decide +kernel
theorem dX12_hourGoes_40 : decode cX12_hourGoes 40 = .ok (.invokevirtual 340, 3) := by decide +kernel
theorem dX12_hourGoes_49 : decode cX12_hourGoes 49 = .ok (.iconst 0, 1) := by decide +kernel
theorem dX12_hourGoes_50 : decode cX12_hourGoes 50 = .ok (.istore_n 2, 1) := by decide +kernel
theorem dX12_hourGoes_51 : decode cX12_hourGoes 51 = .ok (.iload_n 2, 1) := by decide +kernel
theorem dX12_hourGoes_52 : decode cX12_hourGoes 52 = .ok (.aload_n 0, 1) := by decide +kernel
theorem dX12_hourGoes_53 : decode cX12_hourGoes 53 = .ok (.getfield 135, 3) := by decide +kernel
theorem dX12_hourGoes_56 : decode cX12_hourGoes 56 = .ok (.if_icmp .ge 176, 3) := by decide +kernel
theorem dX12_hourGoes_59 : decode cX12_hourGoes 59 = .ok (.bipush 7, 2) := by decide +kernel
theorem dX12_hourGoes_61 : decode cX12_hourGoes 61 = .ok (.iload_n 2, 1) := by decide +kernel
theorem dX12_hourGoes_62 : decode cX12_hourGoes 62 = .ok (.imul, 1) := by decide +kernel
theorem dX12_hourGoes_63 : decode cX12_hourGoes 63 = .ok (.istore_n 3, 1) := by decide +kernel
theorem dX12_hourGoes_64 : decode cX12_hourGoes 64 = .ok (.aload_n 1, 1) := by decide +kernel
theorem dX12_hourGoes_65 : decode cX12_hourGoes 65 = .ok (.iload_n 3, 1) := by decide +kernel
theorem dX12_hourGoes_66 : decode cX12_hourGoes 66 = .ok (.iconst 3, 1) := by decide +kernel
theorem dX12_hourGoes_67 : decode cX12_hourGoes 67 = .ok (.iadd, 1) := by decide +kernel
theorem dX12_hourGoes_68 : decode cX12_hourGoes 68 = .ok (.iaload, 1) := by decide +kernel
theorem dX12_hourGoes_69 : decode cX12_hourGoes 69 = .ok (.iconst 1, 1) := by decide +kernel
theorem dX12_hourGoes_87 : decode cX12_hourGoes 87 = .ok (.istore 4, 2) := by decide +kernel
theorem dX12_hourGoes_89 : decode cX12_hourGoes 89 = .ok (.aload_n 1, 1) := by decide +kernel
theorem dX12_hourGoes_90 : decode cX12_hourGoes 90 = .ok (.iload_n 3, 1) := by decide +kernel
theorem dX12_hourGoes_91 : decode cX12_hourGoes 91 = .ok (.iconst 0, 1) := by decide +kernel
theorem dX12_hourGoes_92 : decode cX12_hourGoes 92 = .ok (.iadd, 1) := by decide +kernel
theorem dX12_hourGoes_93 : decode cX12_hourGoes 93 = .ok (.iload 4, 2) := by decide +kernel
theorem dX12_hourGoes_122 : decode cX12_hourGoes 122 = .ok (.iastore, 1) := by decide +kernel
theorem dX12_hourGoes_123 : decode cX12_hourGoes 123 = .ok (.aload_n 0, 1) := by decide +kernel
theorem dX12_hourGoes_124 : decode cX12_hourGoes 124 = .ok (.getfield 59, 3) := by decide +kernel
theorem dX12_hourGoes_127 : decode cX12_hourGoes 127 = .ok (.iload_n 2, 1) := by decide +kernel
theorem dX12_hourGoes_128 : decode cX12_hourGoes 128 = .ok (.iconst 0, 1) := by decide +kernel
theorem dX12_hourGoes_129 : decode cX12_hourGoes 129 = .ok (.iastore, 1) := by decide +kernel
theorem dX12_hourGoes_130 : decode cX12_hourGoes 130 = .ok (.iconst 0, 1) := by decide +kernel
theorem dX12_hourGoes_131 : decode cX12_hourGoes 131 = .ok (.istore 5, 2) := by decide +kernel
theorem dX12_hourGoes_133 : decode cX12_hourGoes 133 = .ok (.iload 5, 2) := by decide +kernel
theorem dX12_hourGoes_135 : decode cX12_hourGoes 135 = .ok (.aload_n 0, 1) := by decide +kernel
theorem dX12_hourGoes_136 : decode cX12_hourGoes 136 = .ok (.getfield 135, 3) := by decide +kernel
theorem dX12_hourGoes_139 : decode cX12_hourGoes 139 = .ok (.if_icmp .ge 87, 3) := by decide +kernel
theorem dX12_hourGoes_142 : decode cX12_hourGoes 142 = .ok (.iload 5, 2) := by decide +kernel
theorem dX12_hourGoes_144 : decode cX12_hourGoes 144 = .ok (.iload_n 2, 1) := by decide +kernel
theorem dX12_hourGoes_175 : decode cX12_hourGoes 175 = .ok (.istore 6, 2) := by decide +kernel
theorem dX12_hourGoes_177 : decode cX12_hourGoes 177 = .ok (.aload_n 0, 1) := by decide +kernel
theorem dX12_hourGoes_178 : decode cX12_hourGoes 178 = .ok (.getfield 59, 3) := by decide +kernel
theorem dX12_hourGoes_181 : decode cX12_hourGoes 181 = .ok (.iload_n 2, 1) := by decide +kernel
theorem dX12_hourGoes_182 : decode cX12_hourGoes 182 = .ok (.dup2, 1) := by decide +kernel
theorem dX12_hourGoes_183 : decode cX12_hourGoes 183 = .ok (.iaload, 1) := by decide +kernel
theorem dX12_hourGoes_184 : decode cX12_hourGoes 184 = .ok (.iload 6, 2) := by decide +kernel
theorem dX12_hourGoes_215 : decode cX12_hourGoes 215 = .ok (.invokestatic 156, 3) := by decide +kernel
theorem dX12_hourGoes_218 : decode cX12_hourGoes 218 = .ok (.iadd, 1) := by decide +kernel
theorem dX12_hourGoes_219 : decode cX12_hourGoes 219 = .ok (.iastore, 1) := by decide +kernel
theorem dX12_hourGoes_220 : decode cX12_hourGoes 220 = .ok (.iinc 5 1, 3) := by decide +kernel
theorem dX12_hourGoes_223 : decode cX12_hourGoes 223 = .ok (.goto (-90), 3) := by decide +kernel
theorem dX12_hourGoes_214 : decode cX12_hourGoes 214 = .ok (.iconst 0, 1) := by decide +kernel
theorem dX12_hourGoes_186 : decode cX12_hourGoes 186 = .ok (.ifCond .eq 28, 3) := by decide +kernel
theorem dX12_hourGoes_189 : decode cX12_hourGoes 189 = .ok (.aload_n 0, 1) := by decide +kernel
theorem dX12_hourGoes_190 : decode cX12_hourGoes 190 = .ok (.aload_n 1, 1) := by decide +kernel
theorem dX12_hourGoes_191 : decode cX12_hourGoes 191 = .ok (.iload_n 3, 1) := by decide +kernel
theorem dX12_hourGoes_192 : decode cX12_hourGoes 192 = .ok (.iconst 4, 1) := by decide +kernel
theorem dX12_hourGoes_193 : decode cX12_hourGoes 193 = .ok (.iadd, 1) := by decide +kernel
theorem dX12_hourGoes_194 : decode cX12_hourGoes 194 = .ok (.iaload, 1) := by decide +kernel
theorem dX12_hourGoes_195 : decode cX12_hourGoes 195 = .ok (.aload_n 1, 1) := by decide +kernel
theorem dX12_hourGoes_196 : decode cX12_hourGoes 196 = .ok (.bipush 7, 2) := by decide +kernel
theorem dX12_hourGoes_198 : decode cX12_hourGoes 198 = .ok (.iload 5, 2) := by decide +kernel
theorem dX12_hourGoes_200 : decode cX12_hourGoes 200 = .ok (.imul, 1) := by decide +kernel
theorem dX12_hourGoes_201 : decode cX12_hourGoes 201 = .ok (.iconst 4, 1) := by decide +kernel
theorem dX12_hourGoes_202 : decode cX12_hourGoes 202 = .ok (.iadd, 1) := by decide +kernel
theorem dX12_hourGoes_203 : decode cX12_hourGoes 203 = .ok (.iaload, 1) := by decide +kernel
theorem dX12_hourGoes_204 : decode cX12_hourGoes 204 = .ok (.invokevirtual 346, 3) := by decide +kernel
theorem dX12_hourGoes_207 : decode cX12_hourGoes 207 = .ok (.ifCond .eq 7, 3) := by decide +kernel
theorem dX12_hourGoes_210 : decode cX12_hourGoes 210 = .ok (.iconst 1, 1) := by decide +kernel
theorem dX12_hourGoes_211 : decode cX12_hourGoes 211 = .ok (.goto 4, 3) := by decide +kernel
theorem dX12_hourGoes_174 : decode cX12_hourGoes 174 = .ok (.iconst 0, 1) := by decide +kernel
theorem dX12_hourGoes_145 : decode cX12_hourGoes 145 = .ok (.if_icmp .eq 29, 3) := by decide +kernel
theorem dX12_hourGoes_148 : decode cX12_hourGoes 148 = .ok (.aload_n 1, 1) := by decide +kernel
theorem dX12_hourGoes_149 : decode cX12_hourGoes 149 = .ok (.iload_n 3, 1) := by decide +kernel
theorem dX12_hourGoes_150 : decode cX12_hourGoes 150 = .ok (.iconst 3, 1) := by decide +kernel
theorem dX12_hourGoes_151 : decode cX12_hourGoes 151 = .ok (.iadd, 1) := by decide +kernel
theorem dX12_hourGoes_152 : decode cX12_hourGoes 152 = .ok (.iaload, 1) := by decide +kernel
theorem dX12_hourGoes_153 : decode cX12_hourGoes 153 = .ok (.iconst 2, 1) := by decide +kernel
theorem dX12_hourGoes_154 : decode cX12_hourGoes 154 = .ok (.if_icmp .ne 20, 3) := by decide +kernel
theorem dX12_hourGoes_157 : decode cX12_hourGoes 157 = .ok (.aload_n 1, 1) := by decide +kernel
theorem dX12_hourGoes_158 : decode cX12_hourGoes 158 = .ok (.bipush 7, 2) := by decide +kernel
theorem dX12_hourGoes_160 : decode cX12_hourGoes 160 = .ok (.iload 5, 2) := by decide +kernel
theorem dX12_hourGoes_162 : decode cX12_hourGoes 162 = .ok (.imul, 1) := by decide +kernel
theorem dX12_hourGoes_163 : decode cX12_hourGoes 163 = .ok (.iconst 3, 1) := by decide +kernel
theorem dX12_hourGoes_164 : decode cX12_hourGoes 164 = .ok (.iadd, 1) := by decide +kernel
theorem dX12_hourGoes_165 : decode cX12_hourGoes 165 = .ok (.iaload, 1) := by decide +kernel
theorem dX12_hourGoes_166 : decode cX12_hourGoes 166 = .ok (.iconst 2, 1) := by decide +kernel
theorem dX12_hourGoes_167 : decode cX12_hourGoes 167 = .ok (.if_icmp .ne 7, 3) := by decide +kernel
theorem dX12_hourGoes_170 : decode cX12_hourGoes 170 = .ok (.iconst 1, 1) := by decide +kernel
theorem dX12_hourGoes_171 : decode cX12_hourGoes 171 = .ok (.goto 4, 3) := by decide +kernel
theorem dX12_hourGoes_226 : decode cX12_hourGoes 226 = .ok (.iinc 2 1, 3) := by decide +kernel
theorem dX12_hourGoes_229 : decode cX12_hourGoes 229 = .ok (.goto (-178), 3) := by decide +kernel
theorem dX12_hourGoes_95 : decode cX12_hourGoes 95 = .ok (.ifCond .eq 22, 3) := by decide +kernel
theorem dX12_hourGoes_117 : decode cX12_hourGoes 117 = .ok (.aload_n 1, 1) := by decide +kernel
theorem dX12_hourGoes_118 : decode cX12_hourGoes 118 = .ok (.iload_n 3, 1) := by decide +kernel
theorem dX12_hourGoes_119 : decode cX12_hourGoes 119 = .ok (.iconst 0, 1) := by decide +kernel
theorem dX12_hourGoes_120 : decode cX12_hourGoes 120 = .ok (.iadd, 1) := by decide +kernel
theorem dX12_hourGoes_121 : decode cX12_hourGoes 121 = .ok (.iaload, 1) := by decide +kernel
theorem dX12_hourGoes_98 : decode cX12_hourGoes 98 = .ok (.iconst 0, 1) := by decide +kernel
theorem dX12_hourGoes_99 : decode cX12_hourGoes 99 = .ok (.aload_n 1, 1) := by decide +kernel
theorem dX12_hourGoes_100 : decode cX12_hourGoes 100 = .ok (.iload_n 3, 1) := by decide +kernel
theorem dX12_hourGoes_101 : decode cX12_hourGoes 101 = .ok (.iconst 0, 1) := by decide +kernel
theorem dX12_hourGoes_102 : decode cX12_hourGoes 102 = .ok (.iadd, 1) := by decide +kernel
theorem dX12_hourGoes_103 : decode cX12_hourGoes 103 = .ok (.iaload, 1) := by decide +kernel
theorem dX12_hourGoes_104 : decode cX12_hourGoes 104 = .ok (.aload_n 0, 1) := by decide +kernel
theorem dX12_hourGoes_105 : decode cX12_hourGoes 105 = .ok (.getfield 23, 3) := by decide +kernel
theorem dX12_hourGoes_108 : decode cX12_hourGoes 108 = .ok (.iload_n 2, 1) := by decide +kernel
theorem dX12_hourGoes_109 : decode cX12_hourGoes 109 = .ok (.iaload, 1) := by decide +kernel
theorem dX12_hourGoes_110 : decode cX12_hourGoes 110 = .ok (.isub, 1) := by decide +kernel
theorem dX12_hourGoes_111 : decode cX12_hourGoes 111 = .ok (.invokestatic 265, 3) := by decide +kernel
theorem dX12_hourGoes_114 : decode cX12_hourGoes 114 = .ok (.goto 8, 3) := by decide +kernel
theorem dX12_hourGoes_82 : decode cX12_hourGoes 82 = .ok (.iconst 1, 1) := by decide +kernel
theorem dX12_hourGoes_83 : decode cX12_hourGoes 83 = .ok (.goto 4, 3) := by decide +kernel
theorem dX12_hourGoes_70 : decode cX12_hourGoes 70 = .ok (.if_icmp .eq 12, 3) := by decide +kernel
theorem dX12_hourGoes_73 : decode cX12_hourGoes 73 = .ok (.aload_n 1, 1) := by decide +kernel
theorem dX12_hourGoes_74 : decode cX12_hourGoes 74 = .ok (.iload_n 3, 1) := by decide +kernel
theorem dX12_hourGoes_75 : decode cX12_hourGoes 75 = .ok (.iconst 3, 1) := by decide +kernel
theorem dX12_hourGoes_76 : decode cX12_hourGoes 76 = .ok (.iadd, 1) := by decide +kernel
theorem dX12_hourGoes_77 : decode cX12_hourGoes 77 = .ok (.iaload, 1) := by decide +kernel
theorem dX12_hourGoes_78 : decode cX12_hourGoes 78 = .ok (.iconst 2, 1) := by decide +kernel
theorem dX12_hourGoes_79 : decode cX12_hourGoes 79 = .ok (.if_icmp .ne 7, 3) := by decide +kernel
theorem dX12_hourGoes_86 : decode cX12_hourGoes 86 = .ok (.iconst 0, 1) := by decide +kernel
theorem dX12_hourGoes_232 : decode cX12_hourGoes 232 = .ok (.iconst 0, 1) := by decide +kernel
theorem dX12_hourGoes_233 : decode cX12_hourGoes 233 = .ok (.istore_n 2, 1) := by decide +kernel
theorem dX12_hourGoes_234 : decode cX12_hourGoes 234 = .ok (.iload_n 2, 1) := by decide +kernel
theorem dX12_hourGoes_235 : decode cX12_hourGoes 235 = .ok (.aload_n 0, 1) := by decide +kernel
theorem dX12_hourGoes_236 : decode cX12_hourGoes 236 = .ok (.getfield 135, 3) := by decide +kernel
theorem dX12_hourGoes_239 : decode cX12_hourGoes 239 = .ok (.if_icmp .ge 36, 3) := by decide +kernel
theorem dX12_hourGoes_242 : decode cX12_hourGoes 242 = .ok (.aload_n 1, 1) := by decide +kernel
theorem dX12_hourGoes_243 : decode cX12_hourGoes 243 = .ok (.bipush 7, 2) := by decide +kernel
theorem dX12_hourGoes_245 : decode cX12_hourGoes 245 = .ok (.iload_n 2, 1) := by decide +kernel
theorem dX12_hourGoes_246 : decode cX12_hourGoes 246 = .ok (.imul, 1) := by decide +kernel
theorem dX12_hourGoes_247 : decode cX12_hourGoes 247 = .ok (.iconst 0, 1) := by decide +kernel
theorem dX12_hourGoes_248 : decode cX12_hourGoes 248 = .ok (.iadd, 1) := by decide +kernel
theorem dX12_hourGoes_249 : decode cX12_hourGoes 249 = .ok (.iconst 0, 1) := by decide +kernel
theorem dX12_hourGoes_250 : decode cX12_hourGoes 250 = .ok (.aload_n 1, 1) := by decide +kernel
theorem dX12_hourGoes_251 : decode cX12_hourGoes 251 = .ok (.bipush 7, 2) := by decide +kernel
theorem dX12_hourGoes_253 : decode cX12_hourGoes 253 = .ok (.iload_n 2, 1) := by decide +kernel
theorem dX12_hourGoes_254 : decode cX12_hourGoes 254 = .ok (.imul, 1) := by decide +kernel
theorem dX12_hourGoes_255 : decode cX12_hourGoes 255 = .ok (.iconst 0, 1) := by decide +kernel
theorem dX12_hourGoes_256 : decode cX12_hourGoes 256 = .ok (.iadd, 1) := by decide +kernel
theorem dX12_hourGoes_257 : decode cX12_hourGoes 257 = .ok (.iaload, 1) := by decide +kernel
theorem dX12_hourGoes_258 : decode cX12_hourGoes 258 = .ok (.aload_n 0, 1) := by decide +kernel
theorem dX12_hourGoes_259 : decode cX12_hourGoes 259 = .ok (.getfield 59, 3) := by decide +kernel
theorem dX12_hourGoes_262 : decode cX12_hourGoes 262 = .ok (.iload_n 2, 1) := by decide +kernel
theorem dX12_hourGoes_263 : decode cX12_hourGoes 263 = .ok (.iaload, 1) := by decide +kernel
theorem dX12_hourGoes_264 : decode cX12_hourGoes 264 = .ok (.isub, 1) := by decide +kernel
theorem dX12_hourGoes_265 : decode cX12_hourGoes 265 = .ok (.invokestatic 265, 3) := by decide +kernel
theorem dX12_hourGoes_268 : decode cX12_hourGoes 268 = .ok (.iastore, 1) := by decide +kernel
theorem dX12_hourGoes_269 : decode cX12_hourGoes 269 = .ok (.iinc 2 1, 3) := by decide +kernel
theorem dX12_hourGoes_272 : decode cX12_hourGoes 272 = .ok (.goto (-38), 3) := by decide +kernel
theorem dX12_hourGoes_275 : decode cX12_hourGoes 275 = .ok (.aload_n 1, 1) := by decide +kernel
theorem dX12_hourGoes_276 : decode cX12_hourGoes 276 = .ok (.bipush 42, 2) := by decide +kernel
theorem dX12_hourGoes_278 : decode cX12_hourGoes 278 = .ok (.dup2, 1) := by decide +kernel
theorem dX12_hourGoes_279 : decode cX12_hourGoes 279 = .ok (.iaload, 1) := by decide +kernel
theorem dX12_hourGoes_280 : decode cX12_hourGoes 280 = .ok (.iconst 1, 1) := by decide +kernel
theorem dX12_hourGoes_281 : decode cX12_hourGoes 281 = .ok (.iadd, 1) := by decide +kernel
theorem dX12_hourGoes_282 : decode cX12_hourGoes 282 = .ok (.iastore, 1) := by decide +kernel
theorem dX12_hourGoes_283 : decode cX12_hourGoes 283 = .ok (.iconst 0, 1) := by decide +kernel
theorem dX12_hourGoes_284 : decode cX12_hourGoes 284 = .ok (.istore_n 2, 1) := by decide +kernel
theorem dX12_hourGoes_285 : decode cX12_hourGoes 285 = .ok (.iload_n 2, 1) := by decide +kernel
theorem dX12_hourGoes_286 : decode cX12_hourGoes 286 = .ok (.aload_n 0, 1) := by decide +kernel
theorem dX12_hourGoes_287 : decode cX12_hourGoes 287 = .ok (.getfield 135, 3) := by decide +kernel
theorem dX12_hourGoes_290 : decode cX12_hourGoes 290 = .ok (.if_icmp .ge 15, 3) := by decide +kernel
theorem dX12_hourGoes_293 : decode cX12_hourGoes 293 = .ok (.aload_n 0, 1) := by decide +kernel
theorem dX12_hourGoes_294 : decode cX12_hourGoes 294 = .ok (.aload_n 1, 1) := by decide +kernel
theorem dX12_hourGoes_295 : decode cX12_hourGoes 295 = .ok (.iload_n 2, 1) := by decide +kernel
theorem dX12_hourGoes_296 : decode cX12_hourGoes 296 = .ok (.invokevirtual 350, 3) := by decide +kernel
theorem dX12_hourGoes_299 : decode cX12_hourGoes 299 = .ok (.iinc 2 1, 3) := by decide +kernel
theorem dX12_hourGoes_302 : decode cX12_hourGoes 302 = .ok (.goto (-17), 3) := by decide +kernel
theorem dX12_hourGoes_305 : decode cX12_hourGoes 305 = .ok (.return_, 1) := by decide +kernel
theorem dX12_launch_0 : decode cX12_launch 0 = .ok (.aload_n 0, 1) := by decide +kernel
theorem dX12_launch_1 : decode cX12_launch 1 = .ok (.iconst 0, 1) := by decide +kernel
theorem dX12_launch_2 : decode cX12_launch 2 = .ok (.putfield 117, 3) := by decide +kernel
theorem dX12_launch_5 : decode cX12_launch 5 = .ok (.aload_n 0, 1) := by decide +kernel
theorem dX12_launch_6 : decode cX12_launch 6 = .ok (.invokevirtual 353, 3) := by decide +kernel
theorem dX12_launch_9 : decode cX12_launch 9 = .ok (.aload_n 0, 1) := by decide +kernel
theorem dX12_launch_10 : decode cX12_launch 10 = .ok (.aload_n 0, 1) := by decide +kernel
theorem dX12_launch_11 : decode cX12_launch 11 = .ok (.aload_n 0, 1) := by decide +kernel
theorem dX12_launch_12 : decode cX12_launch 12 = .ok (.getfield 32, 3) := by decide +kernel
theorem dX12_launch_15 : decode cX12_launch 15 = .ok (.iload_n 1, 1) := by decide +kernel
theorem dX12_launch_16 : decode cX12_launch 16 = .ok (.invokevirtual 356, 3) := by decide +kernel
theorem dX12_launch_19 : decode cX12_launch 19 = .ok (.invokevirtual 359, 3) := by decide +kernel
theorem dX12_launch_22 : decode cX12_launch 22 = .ok (.ireturn, 1) := by decide +kernel
theorem dX12_moor_0 : decode cX12_moor 0 = .ok (.aload_n 0, 1) := by decide +kernel
theorem dX12_moor_1 : decode cX12_moor 1 = .ok (.iconst 0, 1) := by decide +kernel
theorem dX12_moor_2 : decode cX12_moor 2 = .ok (.putfield 117, 3) := by decide +kernel
theorem dX12_moor_5 : decode cX12_moor 5 = .ok (.aload_n 0, 1) := by decide +kernel
theorem dX12_moor_6 : decode cX12_moor 6 = .ok (.invokevirtual 353, 3) := by decide +kernel
theorem dX12_moor_9 : decode cX12_moor 9 = .ok (.aload_n 0, 1) := by decide +kernel
theorem dX12_moor_10 : decode cX12_moor 10 = .ok (.aload_n 0, 1) := by decide +kernel
theorem dX12_moor_11 : decode cX12_moor 11 = .ok (.iload_n 1, 1) := by decide +kernel
theorem dX12_moor_12 : decode cX12_moor 12 = .ok (.iload_n 2, 1) := by decide +kernel
theorem dX12_moor_13 : decode cX12_moor 13 = .ok (.invokevirtual 362, 3) := by decide +kernel
theorem dX12_moor_16 : decode cX12_moor 16 = .ok (.invokevirtual 359, 3) := by decide +kernel
theorem dX12_moor_19 : decode cX12_moor 19 = .ok (.ireturn, 1) := by decide +kernel
theorem dX12_cast_0 : decode cX12_cast 0 = .ok (.aload_n 0, 1) := by decide +kernel
theorem dX12_cast_1 : decode cX12_cast 1 = .ok (.iconst 0, 1) := by decide +kernel
theorem dX12_cast_2 : decode cX12_cast 2 = .ok (.putfield 117, 3) := by decide +kernel
theorem dX12_cast_5 : decode cX12_cast 5 = .ok (.aload_n 0, 1) := by decide +kernel
theorem dX12_cast_6 : decode cX12_cast 6 = .ok (.invokevirtual 353, 3) := by decide +kernel
theorem dX12_cast_9 : decode cX12_cast 9 = .ok (.aload_n 0, 1) := by decide +kernel
theorem dX12_cast_10 : decode cX12_cast 10 = .ok (.aload_n 0, 1) := by decide +kernel
theorem dX12_cast_11 : decode cX12_cast 11 = .ok (.aload_n 0, 1) := by decide +kernel
theorem dX12_cast_12 : decode cX12_cast 12 = .ok (.getfield 32, 3) := by decide +kernel
theorem dX12_cast_15 : decode cX12_cast 15 = .ok (.iload_n 1, 1) := by decide +kernel
theorem dX12_cast_16 : decode cX12_cast 16 = .ok (.invokevirtual 365, 3) := by decide +kernel
theorem dX12_cast_19 : decode cX12_cast 19 = .ok (.invokevirtual 359, 3) := by decide +kernel
theorem dX12_cast_22 : decode cX12_cast 22 = .ok (.ireturn, 1) := by decide +kernel
theorem dX12_sacks_0 : decode cX12_sacks 0 = .ok (.aload_n 0, 1) := by decide +kernel
theorem dX12_sacks_1 : decode cX12_sacks 1 = .ok (.iconst 0, 1) := by decide +kernel
theorem dX12_sacks_2 : decode cX12_sacks 2 = .ok (.putfield 117, 3) := by decide +kernel
theorem dX12_sacks_5 : decode cX12_sacks 5 = .ok (.aload_n 0, 1) := by decide +kernel
theorem dX12_sacks_6 : decode cX12_sacks 6 = .ok (.invokevirtual 353, 3) := by decide +kernel
theorem dX12_sacks_9 : decode cX12_sacks 9 = .ok (.aload_n 0, 1) := by decide +kernel
theorem dX12_sacks_10 : decode cX12_sacks 10 = .ok (.aload_n 0, 1) := by decide +kernel
theorem dX12_sacks_11 : decode cX12_sacks 11 = .ok (.iload_n 1, 1) := by decide +kernel
theorem dX12_sacks_12 : decode cX12_sacks 12 = .ok (.iload_n 2, 1) := by decide +kernel
theorem dX12_sacks_13 : decode cX12_sacks 13 = .ok (.invokevirtual 368, 3) := by decide +kernel
theorem dX12_sacks_16 : decode cX12_sacks 16 = .ok (.invokevirtual 359, 3) := by decide +kernel
theorem dX12_sacks_19 : decode cX12_sacks 19 = .ok (.ireturn, 1) := by decide +kernel
theorem dX12_cargo_0 : decode cX12_cargo 0 = .ok (.aload_n 0, 1) := by decide +kernel
theorem dX12_cargo_1 : decode cX12_cargo 1 = .ok (.iconst 0, 1) := by decide +kernel
theorem dX12_cargo_2 : decode cX12_cargo 2 = .ok (.putfield 117, 3) := by decide +kernel
theorem dX12_cargo_5 : decode cX12_cargo 5 = .ok (.aload_n 0, 1) := by decide +kernel
theorem dX12_cargo_6 : decode cX12_cargo 6 = .ok (.invokevirtual 353, 3) := by decide +kernel
theorem dX12_cargo_9 : decode cX12_cargo 9 = .ok (.aload_n 0, 1) := by decide +kernel
theorem dX12_cargo_10 : decode cX12_cargo 10 = .ok (.aload_n 0, 1) := by decide +kernel
theorem dX12_cargo_11 : decode cX12_cargo 11 = .ok (.iload_n 1, 1) := by decide +kernel
theorem dX12_cargo_12 : decode cX12_cargo 12 = .ok (.iload_n 2, 1) := by decide +kernel
theorem dX12_cargo_13 : decode cX12_cargo 13 = .ok (.invokevirtual 371, 3) := by decide +kernel
theorem dX12_cargo_16 : decode cX12_cargo 16 = .ok (.invokevirtual 359, 3) := by decide +kernel
theorem dX12_cargo_19 : decode cX12_cargo 19 = .ok (.ireturn, 1) := by decide +kernel
theorem dX12_fill_0 : decode cX12_fill 0 = .ok (.aload_n 0, 1) := by decide +kernel
theorem dX12_fill_1 : decode cX12_fill 1 = .ok (.iconst 0, 1) := by decide +kernel
theorem dX12_fill_2 : decode cX12_fill 2 = .ok (.putfield 117, 3) := by decide +kernel
theorem dX12_fill_5 : decode cX12_fill 5 = .ok (.aload_n 0, 1) := by decide +kernel
theorem dX12_fill_6 : decode cX12_fill 6 = .ok (.invokevirtual 353, 3) := by decide +kernel
theorem dX12_fill_9 : decode cX12_fill 9 = .ok (.aload_n 0, 1) := by decide +kernel
theorem dX12_fill_10 : decode cX12_fill 10 = .ok (.aload_n 0, 1) := by decide +kernel
theorem dX12_fill_11 : decode cX12_fill 11 = .ok (.iload_n 1, 1) := by decide +kernel
theorem dX12_fill_12 : decode cX12_fill 12 = .ok (.iload_n 2, 1) := by decide +kernel
theorem dX12_fill_13 : decode cX12_fill 13 = .ok (.invokevirtual 374, 3) := by decide +kernel
theorem dX12_fill_16 : decode cX12_fill 16 = .ok (.invokevirtual 359, 3) := by decide +kernel
theorem dX12_fill_19 : decode cX12_fill 19 = .ok (.ireturn, 1) := by decide +kernel
theorem dX12_hours_0 : decode cX12_hours 0 = .ok (.aload_n 0, 1) := by decide +kernel
theorem dX12_hours_1 : decode cX12_hours 1 = .ok (.iconst 0, 1) := by decide +kernel
theorem dX12_hours_2 : decode cX12_hours 2 = .ok (.putfield 117, 3) := by decide +kernel
theorem dX12_hours_5 : decode cX12_hours 5 = .ok (.iload_n 1, 1) := by decide +kernel
theorem dX12_hours_6 : decode cX12_hours 6 = .ok (.i2l, 1) := by decide +kernel
theorem dX12_hours_7 : decode cX12_hours 7 = .ok (.lconst 0, 1) := by decide +kernel
theorem dX12_hours_8 : decode cX12_hours 8 = .ok (.ldc2_w 160, 3) := by decide +kernel
theorem dX12_hours_11 : decode cX12_hours 11 = .ok (.invokestatic 131, 3) := by decide +kernel
theorem dX12_hours_14 : decode cX12_hours 14 = .ok (.ifCond .ne 5, 3) := by decide +kernel
theorem dX12_hours_19 : decode cX12_hours 19 = .ok (.aload_n 0, 1) := by decide +kernel
theorem dX12_hours_20 : decode cX12_hours 20 = .ok (.invokevirtual 353, 3) := by decide +kernel
theorem dX12_hours_23 : decode cX12_hours 23 = .ok (.aload_n 0, 1) := by decide +kernel
theorem dX12_hours_24 : decode cX12_hours 24 = .ok (.invokevirtual 377, 3) := by decide +kernel
theorem dX12_hours_27 : decode cX12_hours 27 = .ok (.iconst 0, 1) := by decide +kernel
theorem dX12_hours_28 : decode cX12_hours 28 = .ok (.istore_n 2, 1) := by decide +kernel
theorem dX12_hours_29 : decode cX12_hours 29 = .ok (.iload_n 2, 1) := by decide +kernel
theorem dX12_hours_30 : decode cX12_hours 30 = .ok (.iload_n 1, 1) := by decide +kernel
theorem dX12_hours_31 : decode cX12_hours 31 = .ok (.if_icmp .ge 17, 3) := by decide +kernel
theorem dX12_hours_34 : decode cX12_hours 34 = .ok (.aload_n 0, 1) := by decide +kernel
theorem dX12_hours_35 : decode cX12_hours 35 = .ok (.aload_n 0, 1) := by decide +kernel
theorem dX12_hours_36 : decode cX12_hours 36 = .ok (.getfield 32, 3) := by decide +kernel
theorem dX12_hours_39 : decode cX12_hours 39 = .ok (.invokevirtual 380, 3) := by decide +kernel
theorem dX12_hours_42 : decode cX12_hours 42 = .ok (.iinc 2 1, 3) := by decide +kernel
theorem dX12_hours_45 : decode cX12_hours 45 = .ok (.goto (-16), 3) := by decide +kernel
theorem dX12_hours_48 : decode cX12_hours 48 = .ok (.aload_n 0, 1) := by decide +kernel
theorem dX12_hours_49 : decode cX12_hours 49 = .ok (.iconst 0, 1) := by decide +kernel
theorem dX12_hours_50 : decode cX12_hours 50 = .ok (.putfield 125, 3) := by decide +kernel
theorem dX12_hours_53 : decode cX12_hours 53 = .ok (.aload_n 0, 1) := by decide +kernel
theorem dX12_hours_54 : decode cX12_hours 54 = .ok (.aload_n 0, 1) := by decide +kernel
theorem dX12_hours_55 : decode cX12_hours 55 = .ok (.getfield 320, 3) := by decide +kernel
theorem dX12_hours_58 : decode cX12_hours 58 = .ok (.i2l, 1) := by decide +kernel
theorem dX12_hours_59 : decode cX12_hours 59 = .ok (.invokevirtual 384, 3) := by decide +kernel
theorem dX12_hours_62 : decode cX12_hours 62 = .ok (.aload_n 0, 1) := by decide +kernel
theorem dX12_hours_63 : decode cX12_hours 63 = .ok (.aload_n 0, 1) := by decide +kernel
theorem dX12_hours_64 : decode cX12_hours 64 = .ok (.getfield 323, 3) := by decide +kernel
theorem dX12_hours_67 : decode cX12_hours 67 = .ok (.i2l, 1) := by decide +kernel
theorem dX12_hours_68 : decode cX12_hours 68 = .ok (.invokevirtual 384, 3) := by decide +kernel
theorem dX12_hours_71 : decode cX12_hours 71 = .ok (.aload_n 0, 1) := by decide +kernel
theorem dX12_hours_72 : decode cX12_hours 72 = .ok (.aload_n 0, 1) := by decide +kernel
theorem dX12_hours_73 : decode cX12_hours 73 = .ok (.getfield 32, 3) := by decide +kernel
theorem dX12_hours_76 : decode cX12_hours 76 = .ok (.bipush 42, 2) := by decide +kernel
theorem dX12_hours_78 : decode cX12_hours 78 = .ok (.iaload, 1) := by decide +kernel
theorem dX12_hours_79 : decode cX12_hours 79 = .ok (.invokevirtual 301, 3) := by decide +kernel
theorem dX12_hours_82 : decode cX12_hours 82 = .ok (.ireturn, 1) := by decide +kernel
theorem dX12_hours_17 : decode cX12_hours 17 = .ok (.iconst (-1), 1) := by decide +kernel
theorem dX12_hours_18 : decode cX12_hours 18 = .ok (.ireturn, 1) := by decide +kernel
theorem dX12_readsAct_0 : decode cX12_readsAct 0 = .ok (.aload_n 0, 1) := by decide +kernel
theorem dX12_readsAct_1 : decode cX12_readsAct 1 = .ok (.getfield 388, 3) := by decide +kernel
theorem dX12_readsAct_4 : decode cX12_readsAct 4 = .ok (.istore_n 1, 1) := by decide +kernel
theorem dX12_readsAct_5 : decode cX12_readsAct 5 = .ok (.aload_n 0, 1) := by decide +kernel
theorem dX12_readsAct_6 : decode cX12_readsAct 6 = .ok (.getfield 62, 3) := by decide +kernel
theorem dX12_readsAct_9 : decode cX12_readsAct 9 = .ok (.iload_n 1, 1) := by decide +kernel
theorem dX12_readsAct_10 : decode cX12_readsAct 10 = .ok (.aload_n 0, 1) := by decide +kernel
theorem dX12_readsAct_11 : decode cX12_readsAct 11 = .ok (.ldc_w 391, 3) := by decide +kernel
theorem dX12_readsAct_14 : decode cX12_readsAct 14 = .ok (.invokevirtual 191, 3) := by decide +kernel
theorem dX12_readsAct_17 : decode cX12_readsAct 17 = .ok (.iastore, 1) := by decide +kernel
theorem dX12_readsAct_18 : decode cX12_readsAct 18 = .ok (.aload_n 0, 1) := by decide +kernel
theorem dX12_readsAct_19 : decode cX12_readsAct 19 = .ok (.dup, 1) := by decide +kernel
theorem dX12_readsAct_20 : decode cX12_readsAct 20 = .ok (.getfield 388, 3) := by decide +kernel
theorem dX12_readsAct_23 : decode cX12_readsAct 23 = .ok (.iconst 1, 1) := by decide +kernel
theorem dX12_readsAct_24 : decode cX12_readsAct 24 = .ok (.iadd, 1) := by decide +kernel
theorem dX12_readsAct_25 : decode cX12_readsAct 25 = .ok (.putfield 388, 3) := by decide +kernel
theorem dX12_readsAct_28 : decode cX12_readsAct 28 = .ok (.aload_n 0, 1) := by decide +kernel
theorem dX12_readsAct_29 : decode cX12_readsAct 29 = .ok (.getfield 62, 3) := by decide +kernel
theorem dX12_readsAct_32 : decode cX12_readsAct 32 = .ok (.iload_n 1, 1) := by decide +kernel
theorem dX12_readsAct_33 : decode cX12_readsAct 33 = .ok (.iaload, 1) := by decide +kernel
theorem dX12_readsAct_34 : decode cX12_readsAct 34 = .ok (.ifCond .ge 5, 3) := by decide +kernel
theorem dX12_readsAct_39 : decode cX12_readsAct 39 = .ok (.aload_n 0, 1) := by decide +kernel
theorem dX12_readsAct_40 : decode cX12_readsAct 40 = .ok (.getfield 65, 3) := by decide +kernel
theorem dX12_readsAct_43 : decode cX12_readsAct 43 = .ok (.iload_n 1, 1) := by decide +kernel
theorem dX12_readsAct_44 : decode cX12_readsAct 44 = .ok (.aload_n 0, 1) := by decide +kernel
theorem dX12_readsAct_45 : decode cX12_readsAct 45 = .ok (.aload_n 0, 1) := by decide +kernel
theorem dX12_readsAct_46 : decode cX12_readsAct 46 = .ok (.getfield 62, 3) := by decide +kernel
theorem dX12_readsAct_49 : decode cX12_readsAct 49 = .ok (.iload_n 1, 1) := by decide +kernel
theorem dX12_readsAct_50 : decode cX12_readsAct 50 = .ok (.iaload, 1) := by decide +kernel
theorem dX12_readsAct_51 : decode cX12_readsAct 51 = .ok (.iconst 4, 1) := by decide +kernel
theorem dX12_readsAct_60 : decode cX12_readsAct 60 = .ok (.invokevirtual 185, 3) := by decide +kernel
theorem dX12_readsAct_63 : decode cX12_readsAct 63 = .ok (.iastore, 1) := by decide +kernel
theorem dX12_readsAct_64 : decode cX12_readsAct 64 = .ok (.aload_n 0, 1) := by decide +kernel
theorem dX12_readsAct_65 : decode cX12_readsAct 65 = .ok (.getfield 65, 3) := by decide +kernel
theorem dX12_readsAct_68 : decode cX12_readsAct 68 = .ok (.iload_n 1, 1) := by decide +kernel
theorem dX12_readsAct_69 : decode cX12_readsAct 69 = .ok (.iaload, 1) := by decide +kernel
theorem dX12_readsAct_93 : decode cX12_readsAct 93 = .ok (.aload_n 0, 1) := by decide +kernel
theorem dX12_readsAct_94 : decode cX12_readsAct 94 = .ok (.getfield 65, 3) := by decide +kernel
theorem dX12_readsAct_97 : decode cX12_readsAct 97 = .ok (.iload_n 1, 1) := by decide +kernel
theorem dX12_readsAct_98 : decode cX12_readsAct 98 = .ok (.iaload, 1) := by decide +kernel
theorem dX12_readsAct_99 : decode cX12_readsAct 99 = .ok (.ifCond .lt 7, 3) := by decide +kernel
theorem dX12_readsAct_106 : decode cX12_readsAct 106 = .ok (.iconst 0, 1) := by decide +kernel
theorem dX12_readsAct_107 : decode cX12_readsAct 107 = .ok (.ireturn, 1) := by decide +kernel
theorem dX12_readsAct_102 : decode cX12_readsAct 102 = .ok (.iconst 1, 1) := by decide +kernel
theorem dX12_readsAct_103 : decode cX12_readsAct 103 = .ok (.goto 4, 3) := by decide +kernel
theorem dX12_readsAct_70 : decode cX12_readsAct 70 = .ok (.ifCond .lt 23, 3) := by decide +kernel
theorem dX12_readsAct_73 : decode cX12_readsAct 73 = .ok (.aload_n 0, 1) := by decide +kernel
theorem dX12_readsAct_74 : decode cX12_readsAct 74 = .ok (.getfield 62, 3) := by decide +kernel
theorem dX12_readsAct_77 : decode cX12_readsAct 77 = .ok (.iload_n 1, 1) := by decide +kernel
theorem dX12_readsAct_78 : decode cX12_readsAct 78 = .ok (.iaload, 1) := by decide +kernel
theorem dX12_readsAct_79 : decode cX12_readsAct 79 = .ok (.iconst 1, 1) := by decide +kernel
theorem dX12_readsAct_108 : decode cX12_readsAct 108 = .ok (.aload_n 0, 1) := by decide +kernel
theorem dX12_readsAct_109 : decode cX12_readsAct 109 = .ok (.getfield 62, 3) := by decide +kernel
theorem dX12_readsAct_112 : decode cX12_readsAct 112 = .ok (.iload_n 1, 1) := by decide +kernel
theorem dX12_readsAct_113 : decode cX12_readsAct 113 = .ok (.iaload, 1) := by decide +kernel
theorem dX12_readsAct_114 : decode cX12_readsAct 114 = .ok (.iconst 3, 1) := by decide +kernel
theorem dX12_readsAct_128 : decode cX12_readsAct 128 = .ok (.istore_n 2, 1) := by decide +kernel
theorem dX12_readsAct_129 : decode cX12_readsAct 129 = .ok (.iload_n 2, 1) := by decide +kernel
theorem dX12_readsAct_130 : decode cX12_readsAct 130 = .ok (.ifCond .ge 5, 3) := by decide +kernel
theorem dX12_readsAct_135 : decode cX12_readsAct 135 = .ok (.aload_n 0, 1) := by decide +kernel
theorem dX12_readsAct_136 : decode cX12_readsAct 136 = .ok (.getfield 68, 3) := by decide +kernel
theorem dX12_readsAct_139 : decode cX12_readsAct 139 = .ok (.iload_n 1, 1) := by decide +kernel
theorem dX12_readsAct_140 : decode cX12_readsAct 140 = .ok (.aload_n 0, 1) := by decide +kernel
theorem dX12_readsAct_141 : decode cX12_readsAct 141 = .ok (.iconst 1, 1) := by decide +kernel
theorem dX12_readsAct_142 : decode cX12_readsAct 142 = .ok (.invokevirtual 185, 3) := by decide +kernel
theorem dX12_readsAct_145 : decode cX12_readsAct 145 = .ok (.iastore, 1) := by decide +kernel
theorem dX12_readsAct_146 : decode cX12_readsAct 146 = .ok (.aload_n 0, 1) := by decide +kernel
theorem dX12_readsAct_147 : decode cX12_readsAct 147 = .ok (.getfield 68, 3) := by decide +kernel
theorem dX12_readsAct_150 : decode cX12_readsAct 150 = .ok (.iload_n 1, 1) := by decide +kernel
theorem dX12_readsAct_151 : decode cX12_readsAct 151 = .ok (.iaload, 1) := by decide +kernel
theorem dX12_readsAct_152 : decode cX12_readsAct 152 = .ok (.ifCond .ge 5, 3) := by decide +kernel
theorem dX12_readsAct_157 : decode cX12_readsAct 157 = .ok (.aload_n 0, 1) := by decide +kernel
theorem dX12_readsAct_158 : decode cX12_readsAct 158 = .ok (.getfield 68, 3) := by decide +kernel
theorem dX12_readsAct_161 : decode cX12_readsAct 161 = .ok (.iload_n 1, 1) := by decide +kernel
theorem dX12_readsAct_162 : decode cX12_readsAct 162 = .ok (.iload_n 2, 1) := by decide +kernel
theorem dX12_readsAct_163 : decode cX12_readsAct 163 = .ok (.iconst 1, 1) := by decide +kernel
theorem dX12_readsAct_164 : decode cX12_readsAct 164 = .ok (.if_icmp .ne 13, 3) := by decide +kernel
theorem dX12_readsAct_177 : decode cX12_readsAct 177 = .ok (.aload_n 0, 1) := by decide +kernel
theorem dX12_readsAct_178 : decode cX12_readsAct 178 = .ok (.getfield 68, 3) := by decide +kernel
theorem dX12_readsAct_181 : decode cX12_readsAct 181 = .ok (.iload_n 1, 1) := by decide +kernel
theorem dX12_readsAct_182 : decode cX12_readsAct 182 = .ok (.iaload, 1) := by decide +kernel
theorem dX12_readsAct_183 : decode cX12_readsAct 183 = .ok (.iastore, 1) := by decide +kernel
theorem dX12_readsAct_184 : decode cX12_readsAct 184 = .ok (.iconst 1, 1) := by decide +kernel
theorem dX12_readsAct_185 : decode cX12_readsAct 185 = .ok (.ireturn, 1) := by decide +kernel
theorem dX12_readsAct_167 : decode cX12_readsAct 167 = .ok (.aload_n 0, 1) := by decide +kernel
theorem dX12_readsAct_168 : decode cX12_readsAct 168 = .ok (.getfield 68, 3) := by decide +kernel
theorem dX12_readsAct_171 : decode cX12_readsAct 171 = .ok (.iload_n 1, 1) := by decide +kernel
theorem dX12_readsAct_172 : decode cX12_readsAct 172 = .ok (.iaload, 1) := by decide +kernel
theorem dX12_readsAct_173 : decode cX12_readsAct 173 = .ok (.ineg, 1) := by decide +kernel
theorem dX12_readsAct_174 : decode cX12_readsAct 174 = .ok (.goto 9, 3) := by decide +kernel
theorem dX12_readsAct_155 : decode cX12_readsAct 155 = .ok (.iconst 0, 1) := by decide +kernel
theorem dX12_readsAct_156 : decode cX12_readsAct 156 = .ok (.ireturn, 1) := by decide +kernel
theorem dX12_readsAct_133 : decode cX12_readsAct 133 = .ok (.iconst 0, 1) := by decide +kernel
theorem dX12_readsAct_134 : decode cX12_readsAct 134 = .ok (.ireturn, 1) := by decide +kernel
theorem dX12_readsAct_115 : decode cX12_readsAct 115 = .ok (.if_icmp .ne 12, 3) := by decide +kernel
theorem dX12_readsAct_127 : decode cX12_readsAct 127 = .ok (.iconst 0, 1) := by decide +kernel
theorem dX12_readsAct_118 : decode cX12_readsAct 118 = .ok (.aload_n 0, 1) := by decide +kernel
theorem dX12_readsAct_119 : decode cX12_readsAct 119 = .ok (.ldc 244, 2) := by decide +kernel
theorem dX12_readsAct_121 : decode cX12_readsAct 121 = .ok (.invokevirtual 191, 3) := by decide +kernel
theorem dX12_readsAct_124 : decode cX12_readsAct 124 = .ok (.goto 4, 3) := by decide +kernel
theorem dX12_readsAct_80 : decode cX12_readsAct 80 = .ok (.if_icmp .eq 28, 3) := by decide +kernel
theorem dX12_readsAct_83 : decode cX12_readsAct 83 = .ok (.aload_n 0, 1) := by decide +kernel
theorem dX12_readsAct_84 : decode cX12_readsAct 84 = .ok (.getfield 62, 3) := by decide +kernel
theorem dX12_readsAct_87 : decode cX12_readsAct 87 = .ok (.iload_n 1, 1) := by decide +kernel
theorem dX12_readsAct_88 : decode cX12_readsAct 88 = .ok (.iaload, 1) := by decide +kernel
theorem dX12_readsAct_89 : decode cX12_readsAct 89 = .ok (.iconst 3, 1) := by decide +kernel
theorem dX12_readsAct_90 : decode cX12_readsAct 90 = .ok (.if_icmp .eq 18, 3) := by decide +kernel
theorem dX12_readsAct_52 : decode cX12_readsAct 52 = .ok (.if_icmp .ne 7, 3) := by decide +kernel
theorem dX12_readsAct_59 : decode cX12_readsAct 59 = .ok (.iconst 1, 1) := by decide +kernel
theorem dX12_readsAct_55 : decode cX12_readsAct 55 = .ok (.iconst 2, 1) := by decide +kernel
