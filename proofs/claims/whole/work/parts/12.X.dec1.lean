theorem dX8_isRead_0 : decode cX8_isRead 0 = .ok (.aload_n 0, 1) := by decide +kernel
theorem dX8_isRead_1 : decode cX8_isRead 1 = .ok (.getfield 19, 3) := by decide +kernel
theorem dX8_isRead_4 : decode cX8_isRead 4 = .ok (.aload_n 0, 1) := by decide +kernel
theorem dX8_isRead_5 : decode cX8_isRead 5 = .ok (.getfield 15, 3) := by decide +kernel
theorem dX8_isRead_8 : decode cX8_isRead 8 = .ok (.if_icmp .ne 7, 3) := by decide +kernel
theorem dX8_isRead_15 : decode cX8_isRead 15 = .ok (.iconst 0, 1) := by decide +kernel
theorem dX8_isRead_16 : decode cX8_isRead 16 = .ok (.ireturn, 1) := by decide +kernel
theorem dX8_isRead_11 : decode cX8_isRead 11 = .ok (.iconst 1, 1) := by decide +kernel
theorem dX8_isRead_12 : decode cX8_isRead 12 = .ok (.goto 4, 3) := by decide +kernel
theorem dX8_next_0 : decode cX8_next 0 = .ok (.aload_n 0, 1) := by decide +kernel
theorem dX8_next_1 : decode cX8_next 1 = .ok (.getfield 19, 3) := by decide +kernel
theorem dX8_next_4 : decode cX8_next 4 = .ok (.aload_n 0, 1) := by decide +kernel
theorem dX8_next_5 : decode cX8_next 5 = .ok (.getfield 28, 3) := by decide +kernel
theorem dX8_next_8 : decode cX8_next 8 = .ok (.if_icmp .ge 15, 3) := by decide +kernel
theorem dX8_next_23 : decode cX8_next 23 = .ok (.iconst (-1), 1) := by decide +kernel
theorem dX8_next_24 : decode cX8_next 24 = .ok (.ireturn, 1) := by decide +kernel
theorem dX8_next_11 : decode cX8_next 11 = .ok (.aload_n 0, 1) := by decide +kernel
theorem dX8_next_12 : decode cX8_next 12 = .ok (.getfield 9, 3) := by decide +kernel
theorem dX8_next_15 : decode cX8_next 15 = .ok (.aload_n 0, 1) := by decide +kernel
theorem dX8_next_16 : decode cX8_next 16 = .ok (.getfield 19, 3) := by decide +kernel
theorem dX8_next_19 : decode cX8_next 19 = .ok (.caload, 1) := by decide +kernel
theorem dX8_next_20 : decode cX8_next 20 = .ok (.goto 4, 3) := by decide +kernel
theorem dX8_step_0 : decode cX8_step 0 = .ok (.aload_n 0, 1) := by decide +kernel
theorem dX8_step_1 : decode cX8_step 1 = .ok (.dup, 1) := by decide +kernel
theorem dX8_step_2 : decode cX8_step 2 = .ok (.getfield 19, 3) := by decide +kernel
theorem dX8_step_5 : decode cX8_step 5 = .ok (.iconst 1, 1) := by decide +kernel
theorem dX8_step_6 : decode cX8_step 6 = .ok (.iadd, 1) := by decide +kernel
theorem dX8_step_7 : decode cX8_step 7 = .ok (.putfield 19, 3) := by decide +kernel
theorem dX8_step_10 : decode cX8_step 10 = .ok (.return_, 1) := by decide +kernel
theorem dX8_digit_0 : decode cX8_digit 0 = .ok (.aload_n 0, 1) := by decide +kernel
theorem dX8_digit_1 : decode cX8_digit 1 = .ok (.getfield 19, 3) := by decide +kernel
theorem dX8_digit_4 : decode cX8_digit 4 = .ok (.aload_n 0, 1) := by decide +kernel
theorem dX8_digit_5 : decode cX8_digit 5 = .ok (.getfield 28, 3) := by decide +kernel
theorem dX8_digit_27 : decode cX8_digit 27 = .ok (.istore_n 3, 1) := by decide +kernel
theorem dX8_digit_28 : decode cX8_digit 28 = .ok (.iload_n 3, 1) := by decide +kernel
theorem dX8_digit_29 : decode cX8_digit 29 = .ok (.iload_n 1, 1) := by decide +kernel
theorem dX8_digit_30 : decode cX8_digit 30 = .ok (.if_icmp .lt 8, 3) := by decide +kernel
theorem dX8_digit_38 : decode cX8_digit 38 = .ok (.iconst (-1), 1) := by decide +kernel
theorem dX8_digit_39 : decode cX8_digit 39 = .ok (.ireturn, 1) := by decide +kernel
theorem dX8_digit_33 : decode cX8_digit 33 = .ok (.iload_n 3, 1) := by decide +kernel
theorem dX8_digit_34 : decode cX8_digit 34 = .ok (.iload_n 2, 1) := by decide +kernel
theorem dX8_digit_35 : decode cX8_digit 35 = .ok (.if_icmp .le 5, 3) := by decide +kernel
theorem dX8_digit_40 : decode cX8_digit 40 = .ok (.aload_n 0, 1) := by decide +kernel
theorem dX8_digit_41 : decode cX8_digit 41 = .ok (.dup, 1) := by decide +kernel
theorem dX8_digit_42 : decode cX8_digit 42 = .ok (.getfield 19, 3) := by decide +kernel
theorem dX8_digit_45 : decode cX8_digit 45 = .ok (.iconst 1, 1) := by decide +kernel
theorem dX8_digit_46 : decode cX8_digit 46 = .ok (.iadd, 1) := by decide +kernel
theorem dX8_digit_47 : decode cX8_digit 47 = .ok (.putfield 19, 3) := by decide +kernel
theorem dX8_digit_50 : decode cX8_digit 50 = .ok (.iload_n 3, 1) := by decide +kernel
theorem dX8_digit_51 : decode cX8_digit 51 = .ok (.ireturn, 1) := by decide +kernel
theorem dX8_digit_8 : decode cX8_digit 8 = .ok (.if_icmp .ge 18, 3) := by decide +kernel
theorem dX8_digit_26 : decode cX8_digit 26 = .ok (.iconst (-1), 1) := by decide +kernel
theorem dX8_digit_11 : decode cX8_digit 11 = .ok (.aload_n 0, 1) := by decide +kernel
theorem dX8_digit_12 : decode cX8_digit 12 = .ok (.getfield 9, 3) := by decide +kernel
theorem dX8_digit_15 : decode cX8_digit 15 = .ok (.aload_n 0, 1) := by decide +kernel
theorem dX8_digit_16 : decode cX8_digit 16 = .ok (.getfield 19, 3) := by decide +kernel
theorem dX8_digit_19 : decode cX8_digit 19 = .ok (.caload, 1) := by decide +kernel
theorem dX8_digit_20 : decode cX8_digit 20 = .ok (.bipush 48, 2) := by decide +kernel
theorem dX8_digit_22 : decode cX8_digit 22 = .ok (.isub, 1) := by decide +kernel
theorem dX8_digit_23 : decode cX8_digit 23 = .ok (.goto 4, 3) := by decide +kernel
theorem dX0_readFirst_0 : decode cX0_readFirst 0 = .ok (.aload_n 0, 1) := by decide +kernel
theorem dX0_readFirst_1 : decode cX0_readFirst 1 = .ok (.getfield 15, 3) := by decide +kernel
theorem dX0_readFirst_4 : decode cX0_readFirst 4 = .ok (.iload_n 2, 1) := by decide +kernel
theorem dX0_readFirst_5 : decode cX0_readFirst 5 = .ok (.aload_n 1, 1) := by decide +kernel
theorem dX0_readFirst_6 : decode cX0_readFirst 6 = .ok (.iconst 0, 1) := by decide +kernel
theorem dX0_readFirst_7 : decode cX0_readFirst 7 = .ok (.bipush 9, 2) := by decide +kernel
theorem dX0_readFirst_9 : decode cX0_readFirst 9 = .ok (.invokevirtual 58, 3) := by decide +kernel
theorem dX0_readFirst_12 : decode cX0_readFirst 12 = .ok (.iastore, 1) := by decide +kernel
theorem dX0_readFirst_13 : decode cX0_readFirst 13 = .ok (.aload_n 0, 1) := by decide +kernel
theorem dX0_readFirst_14 : decode cX0_readFirst 14 = .ok (.getfield 15, 3) := by decide +kernel
theorem dX0_readFirst_17 : decode cX0_readFirst 17 = .ok (.iload_n 2, 1) := by decide +kernel
theorem dX0_readFirst_18 : decode cX0_readFirst 18 = .ok (.iaload, 1) := by decide +kernel
theorem dX0_readFirst_19 : decode cX0_readFirst 19 = .ok (.ifCond .lt 7, 3) := by decide +kernel
theorem dX0_readFirst_26 : decode cX0_readFirst 26 = .ok (.iconst 0, 1) := by decide +kernel
theorem dX0_readFirst_27 : decode cX0_readFirst 27 = .ok (.ireturn, 1) := by decide +kernel
theorem dX0_readFirst_22 : decode cX0_readFirst 22 = .ok (.iconst 1, 1) := by decide +kernel
theorem dX0_readFirst_23 : decode cX0_readFirst 23 = .ok (.goto 4, 3) := by decide +kernel
theorem dX0_readSecond_0 : decode cX0_readSecond 0 = .ok (.aload_n 0, 1) := by decide +kernel
theorem dX0_readSecond_1 : decode cX0_readSecond 1 = .ok (.getfield 18, 3) := by decide +kernel
theorem dX0_readSecond_4 : decode cX0_readSecond 4 = .ok (.iload_n 2, 1) := by decide +kernel
theorem dX0_readSecond_5 : decode cX0_readSecond 5 = .ok (.aload_n 1, 1) := by decide +kernel
theorem dX0_readSecond_6 : decode cX0_readSecond 6 = .ok (.iconst 0, 1) := by decide +kernel
theorem dX0_readSecond_7 : decode cX0_readSecond 7 = .ok (.bipush 9, 2) := by decide +kernel
theorem dX0_readSecond_9 : decode cX0_readSecond 9 = .ok (.invokevirtual 58, 3) := by decide +kernel
theorem dX0_readSecond_12 : decode cX0_readSecond 12 = .ok (.iastore, 1) := by decide +kernel
theorem dX0_readSecond_13 : decode cX0_readSecond 13 = .ok (.aload_n 0, 1) := by decide +kernel
theorem dX0_readSecond_14 : decode cX0_readSecond 14 = .ok (.getfield 18, 3) := by decide +kernel
theorem dX0_readSecond_17 : decode cX0_readSecond 17 = .ok (.iload_n 2, 1) := by decide +kernel
theorem dX0_readSecond_18 : decode cX0_readSecond 18 = .ok (.iaload, 1) := by decide +kernel
theorem dX0_readSecond_19 : decode cX0_readSecond 19 = .ok (.ifCond .lt 7, 3) := by decide +kernel
theorem dX0_readSecond_26 : decode cX0_readSecond 26 = .ok (.iconst 0, 1) := by decide +kernel
theorem dX0_readSecond_27 : decode cX0_readSecond 27 = .ok (.ireturn, 1) := by decide +kernel
theorem dX0_readSecond_22 : decode cX0_readSecond 22 = .ok (.iconst 1, 1) := by decide +kernel
theorem dX0_readSecond_23 : decode cX0_readSecond 23 = .ok (.goto 4, 3) := by decide +kernel
theorem dX8_take_0 : decode cX8_take 0 = .ok (.aload_n 0, 1) := by decide +kernel
theorem dX8_take_1 : decode cX8_take 1 = .ok (.getfield 19, 3) := by decide +kernel
theorem dX8_take_4 : decode cX8_take 4 = .ok (.aload_n 0, 1) := by decide +kernel
theorem dX8_take_5 : decode cX8_take 5 = .ok (.getfield 28, 3) := by decide +kernel
theorem dX8_take_8 : decode cX8_take 8 = .ok (.if_icmp .ge 16, 3) := by decide +kernel
theorem dX8_take_24 : decode cX8_take 24 = .ok (.iconst 0, 1) := by decide +kernel
theorem dX8_take_25 : decode cX8_take 25 = .ok (.ireturn, 1) := by decide +kernel
theorem dX8_take_11 : decode cX8_take 11 = .ok (.aload_n 0, 1) := by decide +kernel
theorem dX8_take_12 : decode cX8_take 12 = .ok (.getfield 9, 3) := by decide +kernel
theorem dX8_take_15 : decode cX8_take 15 = .ok (.aload_n 0, 1) := by decide +kernel
theorem dX8_take_16 : decode cX8_take 16 = .ok (.getfield 19, 3) := by decide +kernel
theorem dX8_take_19 : decode cX8_take 19 = .ok (.caload, 1) := by decide +kernel
theorem dX8_take_20 : decode cX8_take 20 = .ok (.iload_n 1, 1) := by decide +kernel
theorem dX8_take_21 : decode cX8_take 21 = .ok (.if_icmp .eq 5, 3) := by decide +kernel
theorem dX8_take_26 : decode cX8_take 26 = .ok (.aload_n 0, 1) := by decide +kernel
theorem dX8_take_27 : decode cX8_take 27 = .ok (.dup, 1) := by decide +kernel
theorem dX8_take_28 : decode cX8_take 28 = .ok (.getfield 19, 3) := by decide +kernel
theorem dX8_take_31 : decode cX8_take 31 = .ok (.iconst 1, 1) := by decide +kernel
theorem dX8_take_32 : decode cX8_take 32 = .ok (.iadd, 1) := by decide +kernel
theorem dX8_take_33 : decode cX8_take 33 = .ok (.putfield 19, 3) := by decide +kernel
theorem dX8_take_36 : decode cX8_take 36 = .ok (.iconst 1, 1) := by decide +kernel
theorem dX8_take_37 : decode cX8_take 37 = .ok (.ireturn, 1) := by decide +kernel
theorem dX0_readChange_0 : decode cX0_readChange 0 = .ok (.aload_n 1, 1) := by decide +kernel
theorem dX0_readChange_1 : decode cX0_readChange 1 = .ok (.bipush 45, 2) := by decide +kernel
theorem dX0_readChange_3 : decode cX0_readChange 3 = .ok (.invokevirtual 35, 3) := by decide +kernel
theorem dX0_readChange_6 : decode cX0_readChange 6 = .ok (.istore_n 3, 1) := by decide +kernel
theorem dX0_readChange_7 : decode cX0_readChange 7 = .ok (.iload_n 3, 1) := by decide +kernel
theorem dX0_readChange_20 : decode cX0_readChange 20 = .ok (.aload_n 0, 1) := by decide +kernel
theorem dX0_readChange_21 : decode cX0_readChange 21 = .ok (.aload_n 1, 1) := by decide +kernel
theorem dX0_readChange_22 : decode cX0_readChange 22 = .ok (.iload_n 2, 1) := by decide +kernel
theorem dX0_readChange_23 : decode cX0_readChange 23 = .ok (.invokevirtual 49, 3) := by decide +kernel
theorem dX0_readChange_26 : decode cX0_readChange 26 = .ok (.ifCond .ne 5, 3) := by decide +kernel
theorem dX0_readChange_31 : decode cX0_readChange 31 = .ok (.aload_n 0, 1) := by decide +kernel
theorem dX0_readChange_32 : decode cX0_readChange 32 = .ok (.getfield 18, 3) := by decide +kernel
theorem dX0_readChange_35 : decode cX0_readChange 35 = .ok (.iload_n 2, 1) := by decide +kernel
theorem dX0_readChange_36 : decode cX0_readChange 36 = .ok (.iload_n 3, 1) := by decide +kernel
theorem dX0_readChange_37 : decode cX0_readChange 37 = .ok (.ifCond .eq 13, 3) := by decide +kernel
theorem dX0_readChange_50 : decode cX0_readChange 50 = .ok (.aload_n 0, 1) := by decide +kernel
theorem dX0_readChange_51 : decode cX0_readChange 51 = .ok (.getfield 18, 3) := by decide +kernel
theorem dX0_readChange_54 : decode cX0_readChange 54 = .ok (.iload_n 2, 1) := by decide +kernel
theorem dX0_readChange_55 : decode cX0_readChange 55 = .ok (.iaload, 1) := by decide +kernel
theorem dX0_readChange_56 : decode cX0_readChange 56 = .ok (.iastore, 1) := by decide +kernel
theorem dX0_readChange_57 : decode cX0_readChange 57 = .ok (.iconst 1, 1) := by decide +kernel
theorem dX0_readChange_58 : decode cX0_readChange 58 = .ok (.ireturn, 1) := by decide +kernel
theorem dX0_readChange_40 : decode cX0_readChange 40 = .ok (.aload_n 0, 1) := by decide +kernel
theorem dX0_readChange_41 : decode cX0_readChange 41 = .ok (.getfield 18, 3) := by decide +kernel
theorem dX0_readChange_44 : decode cX0_readChange 44 = .ok (.iload_n 2, 1) := by decide +kernel
theorem dX0_readChange_45 : decode cX0_readChange 45 = .ok (.iaload, 1) := by decide +kernel
theorem dX0_readChange_46 : decode cX0_readChange 46 = .ok (.ineg, 1) := by decide +kernel
theorem dX0_readChange_47 : decode cX0_readChange 47 = .ok (.goto 9, 3) := by decide +kernel
theorem dX0_readChange_29 : decode cX0_readChange 29 = .ok (.iconst 0, 1) := by decide +kernel
theorem dX0_readChange_30 : decode cX0_readChange 30 = .ok (.ireturn, 1) := by decide +kernel
theorem dX0_readChange_8 : decode cX0_readChange 8 = .ok (.ifCond .ne 12, 3) := by decide +kernel
theorem dX0_readChange_11 : decode cX0_readChange 11 = .ok (.aload_n 1, 1) := by decide +kernel
theorem dX0_readChange_12 : decode cX0_readChange 12 = .ok (.bipush 43, 2) := by decide +kernel
theorem dX0_readChange_14 : decode cX0_readChange 14 = .ok (.invokevirtual 35, 3) := by decide +kernel
theorem dX0_readChange_17 : decode cX0_readChange 17 = .ok (.ifCond .eq 12, 3) := by decide +kernel
theorem dX8_isDigit_0 : decode cX8_isDigit 0 = .ok (.aload_n 0, 1) := by decide +kernel
theorem dX8_isDigit_1 : decode cX8_isDigit 1 = .ok (.getfield 19, 3) := by decide +kernel
theorem dX8_isDigit_4 : decode cX8_isDigit 4 = .ok (.aload_n 0, 1) := by decide +kernel
theorem dX8_isDigit_5 : decode cX8_isDigit 5 = .ok (.getfield 28, 3) := by decide +kernel
theorem dX8_isDigit_8 : decode cX8_isDigit 8 = .ok (.if_icmp .ge 35, 3) := by decide +kernel
theorem dX8_isDigit_43 : decode cX8_isDigit 43 = .ok (.iconst 0, 1) := by decide +kernel
theorem dX8_isDigit_44 : decode cX8_isDigit 44 = .ok (.ireturn, 1) := by decide +kernel
theorem dX8_isDigit_11 : decode cX8_isDigit 11 = .ok (.aload_n 0, 1) := by decide +kernel
theorem dX8_isDigit_12 : decode cX8_isDigit 12 = .ok (.getfield 9, 3) := by decide +kernel
theorem dX8_isDigit_15 : decode cX8_isDigit 15 = .ok (.aload_n 0, 1) := by decide +kernel
theorem dX8_isDigit_16 : decode cX8_isDigit 16 = .ok (.getfield 19, 3) := by decide +kernel
theorem dX8_isDigit_19 : decode cX8_isDigit 19 = .ok (.caload, 1) := by decide +kernel
theorem dX8_isDigit_20 : decode cX8_isDigit 20 = .ok (.bipush 48, 2) := by decide +kernel
theorem dX8_isDigit_22 : decode cX8_isDigit 22 = .ok (.if_icmp .lt 21, 3) := by decide +kernel
theorem dX8_isDigit_25 : decode cX8_isDigit 25 = .ok (.aload_n 0, 1) := by decide +kernel
theorem dX8_isDigit_26 : decode cX8_isDigit 26 = .ok (.getfield 9, 3) := by decide +kernel
theorem dX8_isDigit_29 : decode cX8_isDigit 29 = .ok (.aload_n 0, 1) := by decide +kernel
theorem dX8_isDigit_30 : decode cX8_isDigit 30 = .ok (.getfield 19, 3) := by decide +kernel
theorem dX8_isDigit_33 : decode cX8_isDigit 33 = .ok (.caload, 1) := by decide +kernel
theorem dX8_isDigit_34 : decode cX8_isDigit 34 = .ok (.bipush 57, 2) := by decide +kernel
theorem dX8_isDigit_36 : decode cX8_isDigit 36 = .ok (.if_icmp .gt 7, 3) := by decide +kernel
theorem dX8_isDigit_39 : decode cX8_isDigit 39 = .ok (.iconst 1, 1) := by decide +kernel
theorem dX8_isDigit_40 : decode cX8_isDigit 40 = .ok (.goto 4, 3) := by decide +kernel
theorem dX8_number_0 : decode cX8_number 0 = .ok (.aload_n 0, 1) := by decide +kernel
theorem dX8_number_1 : decode cX8_number 1 = .ok (.iconst 0, 1) := by decide +kernel
theorem dX8_number_2 : decode cX8_number 2 = .ok (.bipush 9, 2) := by decide +kernel
theorem dX8_number_4 : decode cX8_number 4 = .ok (.invokevirtual 31, 3) := by decide +kernel
theorem dX8_number_7 : decode cX8_number 7 = .ok (.istore_n 1, 1) := by decide +kernel
theorem dX8_number_8 : decode cX8_number 8 = .ok (.iload_n 1, 1) := by decide +kernel
theorem dX8_number_9 : decode cX8_number 9 = .ok (.ifCond .lt 23, 3) := by decide +kernel
theorem dX8_number_32 : decode cX8_number 32 = .ok (.iload_n 1, 1) := by decide +kernel
theorem dX8_number_33 : decode cX8_number 33 = .ok (.ireturn, 1) := by decide +kernel
theorem dX8_number_12 : decode cX8_number 12 = .ok (.aload_n 0, 1) := by decide +kernel
theorem dX8_number_13 : decode cX8_number 13 = .ok (.invokevirtual 34, 3) := by decide +kernel
theorem dX8_number_16 : decode cX8_number 16 = .ok (.ifCond .eq 16, 3) := by decide +kernel
theorem dX8_number_19 : decode cX8_number 19 = .ok (.iload_n 1, 1) := by decide +kernel
theorem dX8_number_20 : decode cX8_number 20 = .ok (.bipush 10, 2) := by decide +kernel
theorem dX8_number_22 : decode cX8_number 22 = .ok (.imul, 1) := by decide +kernel
theorem dX8_number_23 : decode cX8_number 23 = .ok (.aload_n 0, 1) := by decide +kernel
theorem dX8_number_24 : decode cX8_number 24 = .ok (.iconst 0, 1) := by decide +kernel
theorem dX8_number_25 : decode cX8_number 25 = .ok (.bipush 9, 2) := by decide +kernel
theorem dX8_number_27 : decode cX8_number 27 = .ok (.invokevirtual 31, 3) := by decide +kernel
theorem dX8_number_30 : decode cX8_number 30 = .ok (.iadd, 1) := by decide +kernel
theorem dX8_number_31 : decode cX8_number 31 = .ok (.istore_n 1, 1) := by decide +kernel
theorem dX0_readOne_0 : decode cX0_readOne 0 = .ok (.aload_n 0, 1) := by decide +kernel
theorem dX0_readOne_1 : decode cX0_readOne 1 = .ok (.getfield 9, 3) := by decide +kernel
theorem dX0_readOne_4 : decode cX0_readOne 4 = .ok (.iload_n 2, 1) := by decide +kernel
theorem dX0_readOne_5 : decode cX0_readOne 5 = .ok (.aload_n 1, 1) := by decide +kernel
theorem dX0_readOne_6 : decode cX0_readOne 6 = .ok (.invokevirtual 39, 3) := by decide +kernel
theorem dX0_readOne_9 : decode cX0_readOne 9 = .ok (.iastore, 1) := by decide +kernel
theorem dX0_readOne_10 : decode cX0_readOne 10 = .ok (.aload_n 0, 1) := by decide +kernel
theorem dX0_readOne_11 : decode cX0_readOne 11 = .ok (.getfield 9, 3) := by decide +kernel
theorem dX0_readOne_14 : decode cX0_readOne 14 = .ok (.iload_n 2, 1) := by decide +kernel
theorem dX0_readOne_15 : decode cX0_readOne 15 = .ok (.iaload, 1) := by decide +kernel
theorem dX0_readOne_16 : decode cX0_readOne 16 = .ok (.lookupswitch 148 #[(99, 52), (104, 119), (108, 52), (109, 63), (115, 91)], 52) := by decide +kernel
theorem dX0_readOne_68 : decode cX0_readOne 68 = .ok (.aload_n 1, 1) := by decide +kernel
theorem dX0_readOne_69 : decode cX0_readOne 69 = .ok (.invokevirtual 43, 3) := by decide +kernel
theorem dX0_readOne_72 : decode cX0_readOne 72 = .ok (.aload_n 0, 1) := by decide +kernel
theorem dX0_readOne_73 : decode cX0_readOne 73 = .ok (.aload_n 1, 1) := by decide +kernel
theorem dX0_readOne_74 : decode cX0_readOne 74 = .ok (.iload_n 2, 1) := by decide +kernel
theorem dX0_readOne_75 : decode cX0_readOne 75 = .ok (.invokevirtual 46, 3) := by decide +kernel
theorem dX0_readOne_78 : decode cX0_readOne 78 = .ok (.ireturn, 1) := by decide +kernel
theorem dX0_readOne_135 : decode cX0_readOne 135 = .ok (.aload_n 1, 1) := by decide +kernel
theorem dX0_readOne_136 : decode cX0_readOne 136 = .ok (.invokevirtual 43, 3) := by decide +kernel
theorem dX0_readOne_139 : decode cX0_readOne 139 = .ok (.aload_n 0, 1) := by decide +kernel
theorem dX0_readOne_140 : decode cX0_readOne 140 = .ok (.getfield 15, 3) := by decide +kernel
theorem dX0_readOne_143 : decode cX0_readOne 143 = .ok (.iload_n 2, 1) := by decide +kernel
theorem dX0_readOne_144 : decode cX0_readOne 144 = .ok (.aload_n 1, 1) := by decide +kernel
theorem dX0_readOne_145 : decode cX0_readOne 145 = .ok (.invokevirtual 55, 3) := by decide +kernel
theorem dX0_readOne_148 : decode cX0_readOne 148 = .ok (.iastore, 1) := by decide +kernel
theorem dX0_readOne_149 : decode cX0_readOne 149 = .ok (.aload_n 0, 1) := by decide +kernel
theorem dX0_readOne_150 : decode cX0_readOne 150 = .ok (.getfield 15, 3) := by decide +kernel
theorem dX0_readOne_153 : decode cX0_readOne 153 = .ok (.iload_n 2, 1) := by decide +kernel
theorem dX0_readOne_154 : decode cX0_readOne 154 = .ok (.iaload, 1) := by decide +kernel
theorem dX0_readOne_155 : decode cX0_readOne 155 = .ok (.ifCond .lt 7, 3) := by decide +kernel
theorem dX0_readOne_162 : decode cX0_readOne 162 = .ok (.iconst 0, 1) := by decide +kernel
theorem dX0_readOne_163 : decode cX0_readOne 163 = .ok (.ireturn, 1) := by decide +kernel
theorem dX0_readOne_158 : decode cX0_readOne 158 = .ok (.iconst 1, 1) := by decide +kernel
theorem dX0_readOne_159 : decode cX0_readOne 159 = .ok (.goto 4, 3) := by decide +kernel
theorem dX0_readOne_79 : decode cX0_readOne 79 = .ok (.aload_n 1, 1) := by decide +kernel
theorem dX0_readOne_80 : decode cX0_readOne 80 = .ok (.invokevirtual 43, 3) := by decide +kernel
theorem dX0_readOne_83 : decode cX0_readOne 83 = .ok (.aload_n 0, 1) := by decide +kernel
theorem dX0_readOne_84 : decode cX0_readOne 84 = .ok (.aload_n 1, 1) := by decide +kernel
theorem dX0_readOne_85 : decode cX0_readOne 85 = .ok (.iload_n 2, 1) := by decide +kernel
theorem dX0_readOne_86 : decode cX0_readOne 86 = .ok (.invokevirtual 46, 3) := by decide +kernel
theorem dX0_readOne_89 : decode cX0_readOne 89 = .ok (.ifCond .eq 16, 3) := by decide +kernel
theorem dX0_readOne_105 : decode cX0_readOne 105 = .ok (.iconst 0, 1) := by decide +kernel
theorem dX0_readOne_106 : decode cX0_readOne 106 = .ok (.ireturn, 1) := by decide +kernel
theorem dX0_readOne_92 : decode cX0_readOne 92 = .ok (.aload_n 0, 1) := by decide +kernel
theorem dX0_readOne_93 : decode cX0_readOne 93 = .ok (.aload_n 1, 1) := by decide +kernel
theorem dX0_readOne_94 : decode cX0_readOne 94 = .ok (.iload_n 2, 1) := by decide +kernel
theorem dX0_readOne_95 : decode cX0_readOne 95 = .ok (.invokevirtual 49, 3) := by decide +kernel
theorem dX0_readOne_98 : decode cX0_readOne 98 = .ok (.ifCond .eq 7, 3) := by decide +kernel
theorem dX0_readOne_101 : decode cX0_readOne 101 = .ok (.iconst 1, 1) := by decide +kernel
theorem dX0_readOne_102 : decode cX0_readOne 102 = .ok (.goto 4, 3) := by decide +kernel
theorem dX0_readOne_107 : decode cX0_readOne 107 = .ok (.aload_n 1, 1) := by decide +kernel
theorem dX0_readOne_108 : decode cX0_readOne 108 = .ok (.invokevirtual 43, 3) := by decide +kernel
theorem dX0_readOne_111 : decode cX0_readOne 111 = .ok (.aload_n 0, 1) := by decide +kernel
theorem dX0_readOne_112 : decode cX0_readOne 112 = .ok (.aload_n 1, 1) := by decide +kernel
theorem dX0_readOne_113 : decode cX0_readOne 113 = .ok (.iload_n 2, 1) := by decide +kernel
theorem dX0_readOne_114 : decode cX0_readOne 114 = .ok (.invokevirtual 46, 3) := by decide +kernel
theorem dX0_readOne_117 : decode cX0_readOne 117 = .ok (.ifCond .eq 16, 3) := by decide +kernel
theorem dX0_readOne_133 : decode cX0_readOne 133 = .ok (.iconst 0, 1) := by decide +kernel
theorem dX0_readOne_134 : decode cX0_readOne 134 = .ok (.ireturn, 1) := by decide +kernel
theorem dX0_readOne_120 : decode cX0_readOne 120 = .ok (.aload_n 0, 1) := by decide +kernel
theorem dX0_readOne_121 : decode cX0_readOne 121 = .ok (.aload_n 1, 1) := by decide +kernel
theorem dX0_readOne_122 : decode cX0_readOne 122 = .ok (.iload_n 2, 1) := by decide +kernel
theorem dX0_readOne_123 : decode cX0_readOne 123 = .ok (.invokevirtual 52, 3) := by decide +kernel
theorem dX0_readOne_126 : decode cX0_readOne 126 = .ok (.ifCond .eq 7, 3) := by decide +kernel
theorem dX0_readOne_129 : decode cX0_readOne 129 = .ok (.iconst 1, 1) := by decide +kernel
theorem dX0_readOne_130 : decode cX0_readOne 130 = .ok (.goto 4, 3) := by decide +kernel
theorem dX0_readOne_164 : decode cX0_readOne 164 = .ok (.iconst 0, 1) := by decide +kernel
theorem dX0_readOne_165 : decode cX0_readOne 165 = .ok (.ireturn, 1) := by decide +kernel
theorem dX0_read_0 : decode cX0_read 0 = .ok (.aload_n 0, 1) := by decide +kernel
theorem dX0_read_1 : decode cX0_read 1 = .ok (.iconst 0, 1) := by decide +kernel
theorem dX0_read_2 : decode cX0_read 2 = .ok (.putfield 21, 3) := by decide +kernel
theorem dX0_read_5 : decode cX0_read 5 = .ok (.aload_n 1, 1) := by decide +kernel
theorem dX0_read_6 : decode cX0_read 6 = .ok (.invokevirtual 25, 3) := by decide +kernel
theorem dX0_read_9 : decode cX0_read 9 = .ok (.istore_n 2, 1) := by decide +kernel
theorem dX0_read_10 : decode cX0_read 10 = .ok (.iconst 0, 1) := by decide +kernel
theorem dX0_read_11 : decode cX0_read 11 = .ok (.istore_n 3, 1) := by decide +kernel
theorem dX0_read_12 : decode cX0_read 12 = .ok (.iload_n 2, 1) := by decide +kernel
theorem dX0_read_13 : decode cX0_read 13 = .ok (.ifCond .ne 53, 3) := by decide +kernel
theorem dX0_read_16 : decode cX0_read 16 = .ok (.iload_n 3, 1) := by decide +kernel
theorem dX0_read_17 : decode cX0_read 17 = .ok (.bipush 20, 2) := by decide +kernel
theorem dX0_read_19 : decode cX0_read 19 = .ok (.if_icmp .ge 47, 3) := by decide +kernel
theorem dX0_read_22 : decode cX0_read 22 = .ok (.aload_n 0, 1) := by decide +kernel
theorem dX0_read_23 : decode cX0_read 23 = .ok (.aload_n 1, 1) := by decide +kernel
theorem dX0_read_24 : decode cX0_read 24 = .ok (.iload_n 3, 1) := by decide +kernel
theorem dX0_read_25 : decode cX0_read 25 = .ok (.invokevirtual 31, 3) := by decide +kernel
theorem dX0_read_28 : decode cX0_read 28 = .ok (.ifCond .ne 5, 3) := by decide +kernel
theorem dX0_read_33 : decode cX0_read 33 = .ok (.aload_n 0, 1) := by decide +kernel
theorem dX0_read_34 : decode cX0_read 34 = .ok (.iload_n 3, 1) := by decide +kernel
theorem dX0_read_35 : decode cX0_read 35 = .ok (.iconst 1, 1) := by decide +kernel
theorem dX0_read_36 : decode cX0_read 36 = .ok (.iadd, 1) := by decide +kernel
theorem dX0_read_37 : decode cX0_read 37 = .ok (.putfield 21, 3) := by decide +kernel
theorem dX0_read_40 : decode cX0_read 40 = .ok (.aload_n 1, 1) := by decide +kernel
theorem dX0_read_41 : decode cX0_read 41 = .ok (.invokevirtual 25, 3) := by decide +kernel
theorem dX0_read_44 : decode cX0_read 44 = .ok (.istore_n 2, 1) := by decide +kernel
theorem dX0_read_45 : decode cX0_read 45 = .ok (.iload_n 2, 1) := by decide +kernel
theorem dX0_read_60 : decode cX0_read 60 = .ok (.iinc 3 1, 3) := by decide +kernel
theorem dX0_read_63 : decode cX0_read 63 = .ok (.goto (-51), 3) := by decide +kernel
theorem dX0_read_46 : decode cX0_read 46 = .ok (.ifCond .ne 14, 3) := by decide +kernel
theorem dX0_read_49 : decode cX0_read 49 = .ok (.aload_n 1, 1) := by decide +kernel
theorem dX0_read_50 : decode cX0_read 50 = .ok (.bipush 59, 2) := by decide +kernel
theorem dX0_read_52 : decode cX0_read 52 = .ok (.invokevirtual 35, 3) := by decide +kernel
theorem dX0_read_55 : decode cX0_read 55 = .ok (.ifCond .ne 5, 3) := by decide +kernel
theorem dX0_read_58 : decode cX0_read 58 = .ok (.iconst 0, 1) := by decide +kernel
theorem dX0_read_59 : decode cX0_read 59 = .ok (.ireturn, 1) := by decide +kernel
theorem dX0_read_31 : decode cX0_read 31 = .ok (.iconst 0, 1) := by decide +kernel
theorem dX0_read_32 : decode cX0_read 32 = .ok (.ireturn, 1) := by decide +kernel
theorem dX0_read_66 : decode cX0_read 66 = .ok (.iload_n 2, 1) := by decide +kernel
theorem dX0_read_67 : decode cX0_read 67 = .ok (.ireturn, 1) := by decide +kernel
theorem dX1_add_0 : decode cX1_add 0 = .ok (.aload_n 0, 1) := by decide +kernel
theorem dX1_add_1 : decode cX1_add 1 = .ok (.getfield 13, 3) := by decide +kernel
theorem dX1_add_4 : decode cX1_add 4 = .ok (.bipush 8, 2) := by decide +kernel
theorem dX1_add_6 : decode cX1_add 6 = .ok (.if_icmp .ge 23, 3) := by decide +kernel
theorem dX1_add_29 : decode cX1_add 29 = .ok (.return_, 1) := by decide +kernel
theorem dX1_add_9 : decode cX1_add 9 = .ok (.aload_n 0, 1) := by decide +kernel
theorem dX1_add_10 : decode cX1_add 10 = .ok (.getfield 9, 3) := by decide +kernel
theorem dX1_add_13 : decode cX1_add 13 = .ok (.aload_n 0, 1) := by decide +kernel
theorem dX1_add_14 : decode cX1_add 14 = .ok (.getfield 13, 3) := by decide +kernel
theorem dX1_add_17 : decode cX1_add 17 = .ok (.lload_n 1, 1) := by decide +kernel
theorem dX1_add_18 : decode cX1_add 18 = .ok (.lastore, 1) := by decide +kernel
theorem dX1_add_19 : decode cX1_add 19 = .ok (.aload_n 0, 1) := by decide +kernel
theorem dX1_add_20 : decode cX1_add 20 = .ok (.dup, 1) := by decide +kernel
theorem dX1_add_21 : decode cX1_add 21 = .ok (.getfield 13, 3) := by decide +kernel
theorem dX1_add_24 : decode cX1_add 24 = .ok (.iconst 1, 1) := by decide +kernel
theorem dX1_add_25 : decode cX1_add 25 = .ok (.iadd, 1) := by decide +kernel
theorem dX1_add_26 : decode cX1_add 26 = .ok (.putfield 13, 3) := by decide +kernel
theorem dX3_has_0 : decode cX3_has 0 = .ok (.iload_n 1, 1) := by decide +kernel
theorem dX3_has_1 : decode cX3_has 1 = .ok (.ifCond .lt 15, 3) := by decide +kernel
theorem dX3_has_16 : decode cX3_has 16 = .ok (.iconst 0, 1) := by decide +kernel
theorem dX3_has_17 : decode cX3_has 17 = .ok (.ireturn, 1) := by decide +kernel
theorem dX3_has_4 : decode cX3_has 4 = .ok (.iload_n 1, 1) := by decide +kernel
theorem dX3_has_5 : decode cX3_has 5 = .ok (.aload_n 0, 1) := by decide +kernel
theorem dX3_has_6 : decode cX3_has 6 = .ok (.getfield 59, 3) := by decide +kernel
theorem dX3_has_9 : decode cX3_has 9 = .ok (.if_icmp .ge 7, 3) := by decide +kernel
theorem dX3_has_12 : decode cX3_has 12 = .ok (.iconst 1, 1) := by decide +kernel
theorem dX3_has_13 : decode cX3_has 13 = .ok (.goto 4, 3) := by decide +kernel
theorem dX3_weightOf_0 : decode cX3_weightOf 0 = .ok (.aload_n 0, 1) := by decide +kernel
theorem dX3_weightOf_1 : decode cX3_weightOf 1 = .ok (.iload_n 1, 1) := by decide +kernel
theorem dX3_weightOf_2 : decode cX3_weightOf 2 = .ok (.invokevirtual 92, 3) := by decide +kernel
theorem dX3_weightOf_5 : decode cX3_weightOf 5 = .ok (.ifCond .eq 23, 3) := by decide +kernel
theorem dX3_weightOf_28 : decode cX3_weightOf 28 = .ok (.iconst 0, 1) := by decide +kernel
theorem dX3_weightOf_29 : decode cX3_weightOf 29 = .ok (.ireturn, 1) := by decide +kernel
theorem dX3_weightOf_8 : decode cX3_weightOf 8 = .ok (.iconst 5, 1) := by decide +kernel
theorem dX3_weightOf_9 : decode cX3_weightOf 9 = .ok (.aload_n 0, 1) := by decide +kernel
theorem dX3_weightOf_10 : decode cX3_weightOf 10 = .ok (.getfield 23, 3) := by decide +kernel
theorem dX3_weightOf_13 : decode cX3_weightOf 13 = .ok (.iload_n 1, 1) := by decide +kernel
theorem dX3_weightOf_14 : decode cX3_weightOf 14 = .ok (.iaload, 1) := by decide +kernel
theorem dX3_weightOf_15 : decode cX3_weightOf 15 = .ok (.imul, 1) := by decide +kernel
theorem dX3_weightOf_16 : decode cX3_weightOf 16 = .ok (.iconst 4, 1) := by decide +kernel
theorem dX3_weightOf_17 : decode cX3_weightOf 17 = .ok (.aload_n 0, 1) := by decide +kernel
theorem dX3_weightOf_18 : decode cX3_weightOf 18 = .ok (.getfield 26, 3) := by decide +kernel
theorem dX3_weightOf_21 : decode cX3_weightOf 21 = .ok (.iload_n 1, 1) := by decide +kernel
theorem dX3_weightOf_22 : decode cX3_weightOf 22 = .ok (.iaload, 1) := by decide +kernel
theorem dX3_weightOf_23 : decode cX3_weightOf 23 = .ok (.imul, 1) := by decide +kernel
theorem dX3_weightOf_24 : decode cX3_weightOf 24 = .ok (.iadd, 1) := by decide +kernel
theorem dX3_weightOf_25 : decode cX3_weightOf 25 = .ok (.goto 4, 3) := by decide +kernel
theorem dX2_choose_0 : decode cX2_choose 0 = .ok (.aload_n 0, 1) := by decide +kernel
theorem dX2_choose_1 : decode cX2_choose 1 = .ok (.iconst 0, 1) := by decide +kernel
theorem dX2_choose_2 : decode cX2_choose 2 = .ok (.putfield 29, 3) := by decide +kernel
theorem dX2_choose_5 : decode cX2_choose 5 = .ok (.iconst 0, 1) := by decide +kernel
theorem dX2_choose_6 : decode cX2_choose 6 = .ok (.istore_n 2, 1) := by decide +kernel
theorem dX2_choose_7 : decode cX2_choose 7 = .ok (.iload_n 2, 1) := by decide +kernel
theorem dX2_choose_8 : decode cX2_choose 8 = .ok (.aload_n 0, 1) := by decide +kernel
theorem dX2_choose_9 : decode cX2_choose 9 = .ok (.getfield 25, 3) := by decide +kernel
theorem dX2_choose_12 : decode cX2_choose 12 = .ok (.getfield 33, 3) := by decide +kernel
theorem dX2_choose_15 : decode cX2_choose 15 = .ok (.if_icmp .ge 45, 3) := by decide +kernel
theorem dX2_choose_18 : decode cX2_choose 18 = .ok (.iload_n 1, 1) := by decide +kernel
theorem dX2_choose_19 : decode cX2_choose 19 = .ok (.iload_n 2, 1) := by decide +kernel
theorem dX2_choose_20 : decode cX2_choose 20 = .ok (.ishr, 1) := by decide +kernel
theorem dX2_choose_21 : decode cX2_choose 21 = .ok (.iconst 1, 1) := by decide +kernel
theorem dX2_choose_22 : decode cX2_choose 22 = .ok (.iand, 1) := by decide +kernel
theorem dX2_choose_23 : decode cX2_choose 23 = .ok (.iconst 1, 1) := by decide +kernel
theorem dX2_choose_54 : decode cX2_choose 54 = .ok (.iinc 2 1, 3) := by decide +kernel
theorem dX2_choose_57 : decode cX2_choose 57 = .ok (.goto (-50), 3) := by decide +kernel
theorem dX2_choose_24 : decode cX2_choose 24 = .ok (.if_icmp .ne 30, 3) := by decide +kernel
theorem dX2_choose_27 : decode cX2_choose 27 = .ok (.aload_n 0, 1) := by decide +kernel
theorem dX2_choose_28 : decode cX2_choose 28 = .ok (.getfield 9, 3) := by decide +kernel
theorem dX2_choose_31 : decode cX2_choose 31 = .ok (.aload_n 0, 1) := by decide +kernel
theorem dX2_choose_32 : decode cX2_choose 32 = .ok (.getfield 29, 3) := by decide +kernel
theorem dX2_choose_35 : decode cX2_choose 35 = .ok (.aload_n 0, 1) := by decide +kernel
theorem dX2_choose_36 : decode cX2_choose 36 = .ok (.getfield 25, 3) := by decide +kernel
theorem dX2_choose_39 : decode cX2_choose 39 = .ok (.iload_n 2, 1) := by decide +kernel
theorem dX2_choose_40 : decode cX2_choose 40 = .ok (.invokevirtual 36, 3) := by decide +kernel
theorem dX2_choose_43 : decode cX2_choose 43 = .ok (.iastore, 1) := by decide +kernel
theorem dX2_choose_44 : decode cX2_choose 44 = .ok (.aload_n 0, 1) := by decide +kernel
theorem dX2_choose_45 : decode cX2_choose 45 = .ok (.dup, 1) := by decide +kernel
theorem dX2_choose_46 : decode cX2_choose 46 = .ok (.getfield 29, 3) := by decide +kernel
theorem dX2_choose_49 : decode cX2_choose 49 = .ok (.iconst 1, 1) := by decide +kernel
theorem dX2_choose_50 : decode cX2_choose 50 = .ok (.iadd, 1) := by decide +kernel
theorem dX2_choose_51 : decode cX2_choose 51 = .ok (.putfield 29, 3) := by decide +kernel
theorem dX2_choose_60 : decode cX2_choose 60 = .ok (.return_, 1) := by decide +kernel
theorem dX9_has_0 : decode cX9_has 0 = .ok (.iload_n 1, 1) := by decide +kernel
theorem dX9_has_1 : decode cX9_has 1 = .ok (.ifCond .lt 15, 3) := by decide +kernel
theorem dX9_has_16 : decode cX9_has 16 = .ok (.iconst 0, 1) := by decide +kernel
theorem dX9_has_17 : decode cX9_has 17 = .ok (.ireturn, 1) := by decide +kernel
theorem dX9_has_4 : decode cX9_has 4 = .ok (.iload_n 1, 1) := by decide +kernel
theorem dX9_has_5 : decode cX9_has 5 = .ok (.aload_n 0, 1) := by decide +kernel
theorem dX9_has_6 : decode cX9_has 6 = .ok (.getfield 30, 3) := by decide +kernel
theorem dX9_has_9 : decode cX9_has 9 = .ok (.if_icmp .ge 7, 3) := by decide +kernel
theorem dX9_has_12 : decode cX9_has 12 = .ok (.iconst 1, 1) := by decide +kernel
theorem dX9_has_13 : decode cX9_has 13 = .ok (.goto 4, 3) := by decide +kernel
theorem dX9_barredBy_0 : decode cX9_barredBy 0 = .ok (.aload_n 0, 1) := by decide +kernel
theorem dX9_barredBy_1 : decode cX9_barredBy 1 = .ok (.iload_n 1, 1) := by decide +kernel
theorem dX9_barredBy_2 : decode cX9_barredBy 2 = .ok (.invokevirtual 55, 3) := by decide +kernel
theorem dX9_barredBy_5 : decode cX9_barredBy 5 = .ok (.ifCond .ne 5, 3) := by decide +kernel
theorem dX9_barredBy_10 : decode cX9_barredBy 10 = .ok (.aload_n 0, 1) := by decide +kernel
theorem dX9_barredBy_11 : decode cX9_barredBy 11 = .ok (.getfield 21, 3) := by decide +kernel
theorem dX9_barredBy_14 : decode cX9_barredBy 14 = .ok (.iload_n 1, 1) := by decide +kernel
theorem dX9_barredBy_15 : decode cX9_barredBy 15 = .ok (.iaload, 1) := by decide +kernel
theorem dX9_barredBy_16 : decode cX9_barredBy 16 = .ok (.istore 4, 2) := by decide +kernel
theorem dX9_barredBy_18 : decode cX9_barredBy 18 = .ok (.iload_n 2, 1) := by decide +kernel
theorem dX9_barredBy_19 : decode cX9_barredBy 19 = .ok (.iload_n 3, 1) := by decide +kernel
theorem dX9_barredBy_20 : decode cX9_barredBy 20 = .ok (.if_icmp .le 17, 3) := by decide +kernel
theorem dX9_barredBy_37 : decode cX9_barredBy 37 = .ok (.iload_n 2, 1) := by decide +kernel
theorem dX9_barredBy_38 : decode cX9_barredBy 38 = .ok (.iload_n 3, 1) := by decide +kernel
theorem dX9_barredBy_39 : decode cX9_barredBy 39 = .ok (.if_icmp .ge 14, 3) := by decide +kernel
theorem dX9_barredBy_53 : decode cX9_barredBy 53 = .ok (.iload 4, 2) := by decide +kernel
theorem dX9_barredBy_55 : decode cX9_barredBy 55 = .ok (.ireturn, 1) := by decide +kernel
theorem dX9_barredBy_42 : decode cX9_barredBy 42 = .ok (.iload 4, 2) := by decide +kernel
theorem dX9_barredBy_44 : decode cX9_barredBy 44 = .ok (.aload_n 0, 1) := by decide +kernel
theorem dX9_barredBy_45 : decode cX9_barredBy 45 = .ok (.getfield 27, 3) := by decide +kernel
theorem dX9_barredBy_48 : decode cX9_barredBy 48 = .ok (.iload_n 1, 1) := by decide +kernel
theorem dX9_barredBy_49 : decode cX9_barredBy 49 = .ok (.iaload, 1) := by decide +kernel
theorem dX9_barredBy_50 : decode cX9_barredBy 50 = .ok (.ior, 1) := by decide +kernel
theorem dX9_barredBy_51 : decode cX9_barredBy 51 = .ok (.istore 4, 2) := by decide +kernel
theorem dX9_barredBy_23 : decode cX9_barredBy 23 = .ok (.iload 4, 2) := by decide +kernel
theorem dX9_barredBy_25 : decode cX9_barredBy 25 = .ok (.aload_n 0, 1) := by decide +kernel
theorem dX9_barredBy_26 : decode cX9_barredBy 26 = .ok (.getfield 24, 3) := by decide +kernel
theorem dX9_barredBy_29 : decode cX9_barredBy 29 = .ok (.iload_n 1, 1) := by decide +kernel
theorem dX9_barredBy_30 : decode cX9_barredBy 30 = .ok (.iaload, 1) := by decide +kernel
theorem dX9_barredBy_31 : decode cX9_barredBy 31 = .ok (.ior, 1) := by decide +kernel
theorem dX9_barredBy_32 : decode cX9_barredBy 32 = .ok (.istore 4, 2) := by decide +kernel
theorem dX9_barredBy_34 : decode cX9_barredBy 34 = .ok (.goto 19, 3) := by decide +kernel
theorem dX9_barredBy_8 : decode cX9_barredBy 8 = .ok (.iconst 0, 1) := by decide +kernel
theorem dX9_barredBy_9 : decode cX9_barredBy 9 = .ok (.ireturn, 1) := by decide +kernel
theorem dX2_openTo_0 : decode cX2_openTo 0 = .ok (.iconst 1, 1) := by decide +kernel
theorem dX2_openTo_1 : decode cX2_openTo 1 = .ok (.aload_n 0, 1) := by decide +kernel
theorem dX2_openTo_2 : decode cX2_openTo 2 = .ok (.getfield 21, 3) := by decide +kernel
theorem dX2_openTo_5 : decode cX2_openTo 5 = .ok (.getfield 62, 3) := by decide +kernel
theorem dX2_openTo_8 : decode cX2_openTo 8 = .ok (.ishl, 1) := by decide +kernel
theorem dX2_openTo_9 : decode cX2_openTo 9 = .ok (.iconst 1, 1) := by decide +kernel
theorem dX2_openTo_10 : decode cX2_openTo 10 = .ok (.isub, 1) := by decide +kernel
theorem dX2_openTo_11 : decode cX2_openTo 11 = .ok (.istore_n 2, 1) := by decide +kernel
theorem dX2_openTo_12 : decode cX2_openTo 12 = .ok (.iconst 0, 1) := by decide +kernel
theorem dX2_openTo_13 : decode cX2_openTo 13 = .ok (.istore_n 3, 1) := by decide +kernel
theorem dX2_openTo_14 : decode cX2_openTo 14 = .ok (.iload_n 3, 1) := by decide +kernel
theorem dX2_openTo_15 : decode cX2_openTo 15 = .ok (.iload_n 1, 1) := by decide +kernel
theorem dX2_openTo_16 : decode cX2_openTo 16 = .ok (.if_icmp .ge 39, 3) := by decide +kernel
theorem dX2_openTo_19 : decode cX2_openTo 19 = .ok (.iload_n 2, 1) := by decide +kernel
theorem dX2_openTo_20 : decode cX2_openTo 20 = .ok (.aload_n 0, 1) := by decide +kernel
theorem dX2_openTo_21 : decode cX2_openTo 21 = .ok (.getfield 21, 3) := by decide +kernel
theorem dX2_openTo_24 : decode cX2_openTo 24 = .ok (.aload_n 0, 1) := by decide +kernel
theorem dX2_openTo_25 : decode cX2_openTo 25 = .ok (.getfield 15, 3) := by decide +kernel
theorem dX2_openTo_28 : decode cX2_openTo 28 = .ok (.iload_n 3, 1) := by decide +kernel
theorem dX2_openTo_29 : decode cX2_openTo 29 = .ok (.iaload, 1) := by decide +kernel
theorem dX2_openTo_30 : decode cX2_openTo 30 = .ok (.aload_n 0, 1) := by decide +kernel
theorem dX2_openTo_31 : decode cX2_openTo 31 = .ok (.getfield 9, 3) := by decide +kernel
theorem dX2_openTo_34 : decode cX2_openTo 34 = .ok (.iload_n 3, 1) := by decide +kernel
theorem dX2_openTo_35 : decode cX2_openTo 35 = .ok (.iaload, 1) := by decide +kernel
theorem dX2_openTo_36 : decode cX2_openTo 36 = .ok (.aload_n 0, 1) := by decide +kernel
theorem dX2_openTo_37 : decode cX2_openTo 37 = .ok (.getfield 9, 3) := by decide +kernel
theorem dX2_openTo_40 : decode cX2_openTo 40 = .ok (.iload_n 1, 1) := by decide +kernel
theorem dX2_openTo_41 : decode cX2_openTo 41 = .ok (.iaload, 1) := by decide +kernel
theorem dX2_openTo_42 : decode cX2_openTo 42 = .ok (.invokevirtual 69, 3) := by decide +kernel
theorem dX2_openTo_45 : decode cX2_openTo 45 = .ok (.iconst (-1), 1) := by decide +kernel
theorem dX2_openTo_46 : decode cX2_openTo 46 = .ok (.ixor, 1) := by decide +kernel
theorem dX2_openTo_47 : decode cX2_openTo 47 = .ok (.iand, 1) := by decide +kernel
theorem dX2_openTo_48 : decode cX2_openTo 48 = .ok (.istore_n 2, 1) := by decide +kernel
theorem dX2_openTo_49 : decode cX2_openTo 49 = .ok (.iinc 3 1, 3) := by decide +kernel
theorem dX2_openTo_52 : decode cX2_openTo 52 = .ok (.goto (-38), 3) := by decide +kernel
theorem dX2_openTo_55 : decode cX2_openTo 55 = .ok (.iload_n 2, 1) := by decide +kernel
theorem dX2_openTo_56 : decode cX2_openTo 56 = .ok (.ireturn, 1) := by decide +kernel
theorem dJ6_bitCount_0f7a4_0 : decode cJ6_bitCount_0f7a4 0 = .ok (.iload_n 0, 1) := by decide +kernel
theorem dJ6_bitCount_0f7a4_1 : decode cJ6_bitCount_0f7a4 1 = .ok (.iload_n 0, 1) := by decide +kernel
theorem dJ6_bitCount_0f7a4_2 : decode cJ6_bitCount_0f7a4 2 = .ok (.iconst 1, 1) := by decide +kernel
theorem dJ6_bitCount_0f7a4_3 : decode cJ6_bitCount_0f7a4 3 = .ok (.iushr, 1) := by decide +kernel
theorem dJ6_bitCount_0f7a4_4 : decode cJ6_bitCount_0f7a4 4 = .ok (.ldc_w 265, 3) := by decide +kernel
theorem dJ6_bitCount_0f7a4_7 : decode cJ6_bitCount_0f7a4 7 = .ok (.iand, 1) := by decide +kernel
theorem dJ6_bitCount_0f7a4_8 : decode cJ6_bitCount_0f7a4 8 = .ok (.isub, 1) := by decide +kernel
theorem dJ6_bitCount_0f7a4_9 : decode cJ6_bitCount_0f7a4 9 = .ok (.istore_n 0, 1) := by decide +kernel
theorem dJ6_bitCount_0f7a4_10 : decode cJ6_bitCount_0f7a4 10 = .ok (.iload_n 0, 1) := by decide +kernel
theorem dJ6_bitCount_0f7a4_11 : decode cJ6_bitCount_0f7a4 11 = .ok (.ldc_w 266, 3) := by decide +kernel
theorem dJ6_bitCount_0f7a4_14 : decode cJ6_bitCount_0f7a4 14 = .ok (.iand, 1) := by decide +kernel
theorem dJ6_bitCount_0f7a4_15 : decode cJ6_bitCount_0f7a4 15 = .ok (.iload_n 0, 1) := by decide +kernel
theorem dJ6_bitCount_0f7a4_16 : decode cJ6_bitCount_0f7a4 16 = .ok (.iconst 2, 1) := by decide +kernel
theorem dJ6_bitCount_0f7a4_17 : decode cJ6_bitCount_0f7a4 17 = .ok (.iushr, 1) := by decide +kernel
theorem dJ6_bitCount_0f7a4_18 : decode cJ6_bitCount_0f7a4 18 = .ok (.ldc_w 266, 3) := by decide +kernel
theorem dJ6_bitCount_0f7a4_21 : decode cJ6_bitCount_0f7a4 21 = .ok (.iand, 1) := by decide +kernel
theorem dJ6_bitCount_0f7a4_22 : decode cJ6_bitCount_0f7a4 22 = .ok (.iadd, 1) := by decide +kernel
theorem dJ6_bitCount_0f7a4_23 : decode cJ6_bitCount_0f7a4 23 = .ok (.istore_n 0, 1) := by decide +kernel
theorem dJ6_bitCount_0f7a4_24 : decode cJ6_bitCount_0f7a4 24 = .ok (.iload_n 0, 1) := by decide +kernel
theorem dJ6_bitCount_0f7a4_25 : decode cJ6_bitCount_0f7a4 25 = .ok (.iload_n 0, 1) := by decide +kernel
theorem dJ6_bitCount_0f7a4_26 : decode cJ6_bitCount_0f7a4 26 = .ok (.iconst 4, 1) := by decide +kernel
theorem dJ6_bitCount_0f7a4_27 : decode cJ6_bitCount_0f7a4 27 = .ok (.iushr, 1) := by decide +kernel
theorem dJ6_bitCount_0f7a4_28 : decode cJ6_bitCount_0f7a4 28 = .ok (.iadd, 1) := by decide +kernel
theorem dJ6_bitCount_0f7a4_29 : decode cJ6_bitCount_0f7a4 29 = .ok (.ldc_w 267, 3) := by decide +kernel
theorem dJ6_bitCount_0f7a4_32 : decode cJ6_bitCount_0f7a4 32 = .ok (.iand, 1) := by decide +kernel
theorem dJ6_bitCount_0f7a4_33 : decode cJ6_bitCount_0f7a4 33 = .ok (.istore_n 0, 1) := by decide +kernel
theorem dJ6_bitCount_0f7a4_34 : decode cJ6_bitCount_0f7a4 34 = .ok (.iload_n 0, 1) := by decide +kernel
theorem dJ6_bitCount_0f7a4_35 : decode cJ6_bitCount_0f7a4 35 = .ok (.iload_n 0, 1) := by decide +kernel
theorem dJ6_bitCount_0f7a4_36 : decode cJ6_bitCount_0f7a4 36 = .ok (.bipush 8, 2) := by decide +kernel
theorem dJ6_bitCount_0f7a4_38 : decode cJ6_bitCount_0f7a4 38 = .ok (.iushr, 1) := by decide +kernel
theorem dJ6_bitCount_0f7a4_39 : decode cJ6_bitCount_0f7a4 39 = .ok (.iadd, 1) := by decide +kernel
theorem dJ6_bitCount_0f7a4_40 : decode cJ6_bitCount_0f7a4 40 = .ok (.istore_n 0, 1) := by decide +kernel
theorem dJ6_bitCount_0f7a4_41 : decode cJ6_bitCount_0f7a4 41 = .ok (.iload_n 0, 1) := by decide +kernel
theorem dJ6_bitCount_0f7a4_42 : decode cJ6_bitCount_0f7a4 42 = .ok (.iload_n 0, 1) := by decide +kernel
theorem dJ6_bitCount_0f7a4_43 : decode cJ6_bitCount_0f7a4 43 = .ok (.bipush 16, 2) := by decide +kernel
theorem dJ6_bitCount_0f7a4_45 : decode cJ6_bitCount_0f7a4 45 = .ok (.iushr, 1) := by decide +kernel
theorem dJ6_bitCount_0f7a4_46 : decode cJ6_bitCount_0f7a4 46 = .ok (.iadd, 1) := by decide +kernel
theorem dJ6_bitCount_0f7a4_47 : decode cJ6_bitCount_0f7a4 47 = .ok (.istore_n 0, 1) := by decide +kernel
theorem dJ6_bitCount_0f7a4_48 : decode cJ6_bitCount_0f7a4 48 = .ok (.iload_n 0, 1) := by decide +kernel
theorem dJ6_bitCount_0f7a4_49 : decode cJ6_bitCount_0f7a4 49 = .ok (.bipush 63, 2) := by decide +kernel
theorem dJ6_bitCount_0f7a4_51 : decode cJ6_bitCount_0f7a4 51 = .ok (.iand, 1) := by decide +kernel
theorem dJ6_bitCount_0f7a4_52 : decode cJ6_bitCount_0f7a4 52 = .ok (.ireturn, 1) := by decide +kernel
theorem dX2_waysFrom_0 : decode cX2_waysFrom 0 = .ok (.iload_n 1, 1) := by decide +kernel
theorem dX2_waysFrom_1 : decode cX2_waysFrom 1 = .ok (.aload_n 0, 1) := by decide +kernel
theorem dX2_waysFrom_2 : decode cX2_waysFrom 2 = .ok (.getfield 29, 3) := by decide +kernel
theorem dX2_waysFrom_5 : decode cX2_waysFrom 5 = .ok (.if_icmp .lt 34, 3) := by decide +kernel
theorem dX2_waysFrom_39 : decode cX2_waysFrom 39 = .ok (.aload_n 0, 1) := by decide +kernel
theorem dX2_waysFrom_40 : decode cX2_waysFrom 40 = .ok (.iload_n 1, 1) := by decide +kernel
theorem dX2_waysFrom_41 : decode cX2_waysFrom 41 = .ok (.invokevirtual 54, 3) := by decide +kernel
theorem dX2_waysFrom_44 : decode cX2_waysFrom 44 = .ok (.istore_n 3, 1) := by decide +kernel
theorem dX2_waysFrom_45 : decode cX2_waysFrom 45 = .ok (.aload_n 0, 1) := by decide +kernel
theorem dX2_waysFrom_46 : decode cX2_waysFrom 46 = .ok (.getfield 40, 3) := by decide +kernel
theorem dX2_waysFrom_67 : decode cX2_waysFrom 67 = .ok (.iconst 0, 1) := by decide +kernel
theorem dX2_waysFrom_68 : decode cX2_waysFrom 68 = .ok (.istore 4, 2) := by decide +kernel
theorem dX2_waysFrom_70 : decode cX2_waysFrom 70 = .ok (.iconst 0, 1) := by decide +kernel
theorem dX2_waysFrom_71 : decode cX2_waysFrom 71 = .ok (.istore 5, 2) := by decide +kernel
theorem dX2_waysFrom_73 : decode cX2_waysFrom 73 = .ok (.iload 5, 2) := by decide +kernel
theorem dX2_waysFrom_75 : decode cX2_waysFrom 75 = .ok (.aload_n 0, 1) := by decide +kernel
theorem dX2_waysFrom_76 : decode cX2_waysFrom 76 = .ok (.getfield 21, 3) := by decide +kernel
theorem dX2_waysFrom_79 : decode cX2_waysFrom 79 = .ok (.getfield 62, 3) := by decide +kernel
theorem dX2_waysFrom_82 : decode cX2_waysFrom 82 = .ok (.if_icmp .ge 41, 3) := by decide +kernel
theorem dX2_waysFrom_85 : decode cX2_waysFrom 85 = .ok (.iload_n 2, 1) := by decide +kernel
theorem dX2_waysFrom_94 : decode cX2_waysFrom 94 = .ok (.iload_n 3, 1) := by decide +kernel
theorem dX2_waysFrom_95 : decode cX2_waysFrom 95 = .ok (.iload 5, 2) := by decide +kernel
theorem dX2_waysFrom_97 : decode cX2_waysFrom 97 = .ok (.ishr, 1) := by decide +kernel
theorem dX2_waysFrom_98 : decode cX2_waysFrom 98 = .ok (.iconst 1, 1) := by decide +kernel
theorem dX2_waysFrom_99 : decode cX2_waysFrom 99 = .ok (.iand, 1) := by decide +kernel
theorem dX2_waysFrom_100 : decode cX2_waysFrom 100 = .ok (.iconst 1, 1) := by decide +kernel
theorem dX2_waysFrom_117 : decode cX2_waysFrom 117 = .ok (.iinc 5 1, 3) := by decide +kernel
theorem dX2_waysFrom_120 : decode cX2_waysFrom 120 = .ok (.goto (-47), 3) := by decide +kernel
theorem dX2_waysFrom_101 : decode cX2_waysFrom 101 = .ok (.if_icmp .ne 16, 3) := by decide +kernel
theorem dX2_waysFrom_104 : decode cX2_waysFrom 104 = .ok (.iload 4, 2) := by decide +kernel
theorem dX2_waysFrom_106 : decode cX2_waysFrom 106 = .ok (.aload_n 0, 1) := by decide +kernel
theorem dX2_waysFrom_107 : decode cX2_waysFrom 107 = .ok (.iload_n 1, 1) := by decide +kernel
theorem dX2_waysFrom_108 : decode cX2_waysFrom 108 = .ok (.iload 5, 2) := by decide +kernel
theorem dX2_waysFrom_110 : decode cX2_waysFrom 110 = .ok (.iload_n 2, 1) := by decide +kernel
theorem dX2_waysFrom_111 : decode cX2_waysFrom 111 = .ok (.invokevirtual 65, 3) := by decide +kernel
theorem dX2_waysFrom_114 : decode cX2_waysFrom 114 = .ok (.iadd, 1) := by decide +kernel
theorem dX2_waysFrom_115 : decode cX2_waysFrom 115 = .ok (.istore 4, 2) := by decide +kernel
theorem dX2_waysFrom_86 : decode cX2_waysFrom 86 = .ok (.ifCond .eq 8, 3) := by decide +kernel
theorem dX2_waysFrom_89 : decode cX2_waysFrom 89 = .ok (.iload 4, 2) := by decide +kernel
theorem dX2_waysFrom_91 : decode cX2_waysFrom 91 = .ok (.ifCond .gt 32, 3) := by decide +kernel
theorem dX2_waysFrom_123 : decode cX2_waysFrom 123 = .ok (.iload 4, 2) := by decide +kernel
theorem dX2_waysFrom_125 : decode cX2_waysFrom 125 = .ok (.ireturn, 1) := by decide +kernel
theorem dX2_waysFrom_49 : decode cX2_waysFrom 49 = .ok (.ifCond .eq 18, 3) := by decide +kernel
theorem dX2_waysFrom_52 : decode cX2_waysFrom 52 = .ok (.iload_n 1, 1) := by decide +kernel
theorem dX2_waysFrom_53 : decode cX2_waysFrom 53 = .ok (.aload_n 0, 1) := by decide +kernel
theorem dX2_waysFrom_54 : decode cX2_waysFrom 54 = .ok (.getfield 29, 3) := by decide +kernel
theorem dX2_waysFrom_57 : decode cX2_waysFrom 57 = .ok (.iconst 1, 1) := by decide +kernel
theorem dX2_waysFrom_58 : decode cX2_waysFrom 58 = .ok (.isub, 1) := by decide +kernel
theorem dX2_waysFrom_59 : decode cX2_waysFrom 59 = .ok (.if_icmp .ne 8, 3) := by decide +kernel
theorem dX2_waysFrom_62 : decode cX2_waysFrom 62 = .ok (.iload_n 3, 1) := by decide +kernel
theorem dX2_waysFrom_63 : decode cX2_waysFrom 63 = .ok (.invokestatic 57, 3) := by decide +kernel
theorem dX2_waysFrom_66 : decode cX2_waysFrom 66 = .ok (.ireturn, 1) := by decide +kernel
theorem dX2_waysFrom_8 : decode cX2_waysFrom 8 = .ok (.aload_n 0, 1) := by decide +kernel
theorem dX2_waysFrom_9 : decode cX2_waysFrom 9 = .ok (.getfield 40, 3) := by decide +kernel
theorem dX2_waysFrom_12 : decode cX2_waysFrom 12 = .ok (.ifCond .ne 25, 3) := by decide +kernel
theorem dX2_waysFrom_37 : decode cX2_waysFrom 37 = .ok (.iconst 1, 1) := by decide +kernel
theorem dX2_waysFrom_38 : decode cX2_waysFrom 38 = .ok (.ireturn, 1) := by decide +kernel
theorem dX2_waysFrom_15 : decode cX2_waysFrom 15 = .ok (.aload_n 0, 1) := by decide +kernel
theorem dX2_waysFrom_16 : decode cX2_waysFrom 16 = .ok (.getfield 15, 3) := by decide +kernel
theorem dX2_waysFrom_19 : decode cX2_waysFrom 19 = .ok (.iconst 0, 1) := by decide +kernel
theorem dX2_waysFrom_20 : decode cX2_waysFrom 20 = .ok (.aload_n 0, 1) := by decide +kernel
theorem dX2_waysFrom_21 : decode cX2_waysFrom 21 = .ok (.getfield 18, 3) := by decide +kernel
theorem dX2_waysFrom_24 : decode cX2_waysFrom 24 = .ok (.iconst 0, 1) := by decide +kernel
theorem dX2_waysFrom_25 : decode cX2_waysFrom 25 = .ok (.aload_n 0, 1) := by decide +kernel
theorem dX2_waysFrom_26 : decode cX2_waysFrom 26 = .ok (.getfield 29, 3) := by decide +kernel
theorem dX2_waysFrom_29 : decode cX2_waysFrom 29 = .ok (.invokestatic 48, 3) := by decide +kernel
theorem dX2_waysFrom_32 : decode cX2_waysFrom 32 = .ok (.aload_n 0, 1) := by decide +kernel
theorem dX2_waysFrom_33 : decode cX2_waysFrom 33 = .ok (.iconst 1, 1) := by decide +kernel
theorem dX2_waysFrom_34 : decode cX2_waysFrom 34 = .ok (.putfield 40, 3) := by decide +kernel
theorem dX2_waysWith_0 : decode cX2_waysWith 0 = .ok (.aload_n 0, 1) := by decide +kernel
theorem dX2_waysWith_1 : decode cX2_waysWith 1 = .ok (.getfield 15, 3) := by decide +kernel
theorem dX2_waysWith_4 : decode cX2_waysWith 4 = .ok (.iload_n 1, 1) := by decide +kernel
theorem dX2_waysWith_5 : decode cX2_waysWith 5 = .ok (.iload_n 2, 1) := by decide +kernel
theorem dX2_waysWith_6 : decode cX2_waysWith 6 = .ok (.iastore, 1) := by decide +kernel
theorem dX2_waysWith_7 : decode cX2_waysWith 7 = .ok (.aload_n 0, 1) := by decide +kernel
theorem dX2_waysWith_8 : decode cX2_waysWith 8 = .ok (.iload_n 1, 1) := by decide +kernel
theorem dX2_waysWith_9 : decode cX2_waysWith 9 = .ok (.iconst 1, 1) := by decide +kernel
theorem dX2_waysWith_10 : decode cX2_waysWith 10 = .ok (.iadd, 1) := by decide +kernel
theorem dX2_waysWith_11 : decode cX2_waysWith 11 = .ok (.iload_n 3, 1) := by decide +kernel
theorem dX2_waysWith_12 : decode cX2_waysWith 12 = .ok (.invokevirtual 44, 3) := by decide +kernel
theorem dX2_waysWith_15 : decode cX2_waysWith 15 = .ok (.ireturn, 1) := by decide +kernel
theorem dX2_waysAll_0 : decode cX2_waysAll 0 = .ok (.aload_n 0, 1) := by decide +kernel
theorem dX2_waysAll_1 : decode cX2_waysAll 1 = .ok (.iconst 0, 1) := by decide +kernel
theorem dX2_waysAll_2 : decode cX2_waysAll 2 = .ok (.putfield 40, 3) := by decide +kernel
theorem dX2_waysAll_5 : decode cX2_waysAll 5 = .ok (.aload_n 0, 1) := by decide +kernel
theorem dX2_waysAll_6 : decode cX2_waysAll 6 = .ok (.iconst 0, 1) := by decide +kernel
theorem dX2_waysAll_7 : decode cX2_waysAll 7 = .ok (.iconst 0, 1) := by decide +kernel
theorem dX2_waysAll_8 : decode cX2_waysAll 8 = .ok (.invokevirtual 44, 3) := by decide +kernel
theorem dX2_waysAll_11 : decode cX2_waysAll 11 = .ok (.ireturn, 1) := by decide +kernel
theorem dX2_canAll_0 : decode cX2_canAll 0 = .ok (.aload_n 0, 1) := by decide +kernel
theorem dX2_canAll_1 : decode cX2_canAll 1 = .ok (.iconst 0, 1) := by decide +kernel
theorem dX2_canAll_2 : decode cX2_canAll 2 = .ok (.putfield 40, 3) := by decide +kernel
theorem dX2_canAll_5 : decode cX2_canAll 5 = .ok (.aload_n 0, 1) := by decide +kernel
theorem dX2_canAll_6 : decode cX2_canAll 6 = .ok (.iconst 0, 1) := by decide +kernel
theorem dX2_canAll_7 : decode cX2_canAll 7 = .ok (.iconst 1, 1) := by decide +kernel
theorem dX2_canAll_8 : decode cX2_canAll 8 = .ok (.invokevirtual 44, 3) := by decide +kernel
theorem dX2_canAll_11 : decode cX2_canAll 11 = .ok (.ifCond .le 7, 3) := by decide +kernel
theorem dX2_canAll_18 : decode cX2_canAll 18 = .ok (.iconst 0, 1) := by decide +kernel
theorem dX2_canAll_19 : decode cX2_canAll 19 = .ok (.ireturn, 1) := by decide +kernel
theorem dX2_canAll_14 : decode cX2_canAll 14 = .ok (.iconst 1, 1) := by decide +kernel
theorem dX2_canAll_15 : decode cX2_canAll 15 = .ok (.goto 4, 3) := by decide +kernel
theorem dX3_leave_0 : decode cX3_leave 0 = .ok (.aload_n 0, 1) := by decide +kernel
theorem dX3_leave_1 : decode cX3_leave 1 = .ok (.iconst 0, 1) := by decide +kernel
theorem dX3_leave_2 : decode cX3_leave 2 = .ok (.putfield 59, 3) := by decide +kernel
theorem dX3_leave_5 : decode cX3_leave 5 = .ok (.aload_n 0, 1) := by decide +kernel
theorem dX3_leave_6 : decode cX3_leave 6 = .ok (.iconst 0, 1) := by decide +kernel
theorem dX3_leave_7 : decode cX3_leave 7 = .ok (.putfield 63, 3) := by decide +kernel
theorem dX3_leave_10 : decode cX3_leave 10 = .ok (.return_, 1) := by decide +kernel
theorem dX3_areAll_0 : decode cX3_areAll 0 = .ok (.iload_n 1, 1) := by decide +kernel
theorem dX3_areAll_1 : decode cX3_areAll 1 = .ok (.iconst 1, 1) := by decide +kernel
theorem dX3_areAll_2 : decode cX3_areAll 2 = .ok (.aload_n 0, 1) := by decide +kernel
theorem dX3_areAll_3 : decode cX3_areAll 3 = .ok (.getfield 59, 3) := by decide +kernel
theorem dX3_areAll_6 : decode cX3_areAll 6 = .ok (.ishl, 1) := by decide +kernel
theorem dX3_areAll_7 : decode cX3_areAll 7 = .ok (.iconst 1, 1) := by decide +kernel
theorem dX3_areAll_8 : decode cX3_areAll 8 = .ok (.isub, 1) := by decide +kernel
theorem dX3_areAll_9 : decode cX3_areAll 9 = .ok (.iconst (-1), 1) := by decide +kernel
theorem dX3_areAll_10 : decode cX3_areAll 10 = .ok (.ixor, 1) := by decide +kernel
theorem dX3_areAll_11 : decode cX3_areAll 11 = .ok (.iand, 1) := by decide +kernel
theorem dX3_areAll_12 : decode cX3_areAll 12 = .ok (.ifCond .ne 7, 3) := by decide +kernel
theorem dX3_areAll_19 : decode cX3_areAll 19 = .ok (.iconst 0, 1) := by decide +kernel
theorem dX3_areAll_20 : decode cX3_areAll 20 = .ok (.ireturn, 1) := by decide +kernel
theorem dX3_areAll_15 : decode cX3_areAll 15 = .ok (.iconst 1, 1) := by decide +kernel
theorem dX3_areAll_16 : decode cX3_areAll 16 = .ok (.goto 4, 3) := by decide +kernel
theorem dX3_readLine_0 : decode cX3_readLine 0 = .ok (.aload_n 0, 1) := by decide +kernel
theorem dX3_readLine_1 : decode cX3_readLine 1 = .ok (.getfield 20, 3) := by decide +kernel
theorem dX3_readLine_4 : decode cX3_readLine 4 = .ok (.iload_n 2, 1) := by decide +kernel
theorem dX3_readLine_5 : decode cX3_readLine 5 = .ok (.aload_n 1, 1) := by decide +kernel
theorem dX3_readLine_6 : decode cX3_readLine 6 = .ok (.invokevirtual 84, 3) := by decide +kernel
theorem dX3_readLine_9 : decode cX3_readLine 9 = .ok (.iastore, 1) := by decide +kernel
theorem dX3_readLine_10 : decode cX3_readLine 10 = .ok (.aload_n 0, 1) := by decide +kernel
theorem dX3_readLine_11 : decode cX3_readLine 11 = .ok (.getfield 20, 3) := by decide +kernel
theorem dX3_readLine_14 : decode cX3_readLine 14 = .ok (.iload_n 2, 1) := by decide +kernel
theorem dX3_readLine_15 : decode cX3_readLine 15 = .ok (.iaload, 1) := by decide +kernel
theorem dX3_readLine_16 : decode cX3_readLine 16 = .ok (.ifCond .lt 12, 3) := by decide +kernel
theorem dX3_readLine_28 : decode cX3_readLine 28 = .ok (.iconst 0, 1) := by decide +kernel
theorem dX3_readLine_29 : decode cX3_readLine 29 = .ok (.ireturn, 1) := by decide +kernel
theorem dX3_readLine_19 : decode cX3_readLine 19 = .ok (.aload_n 1, 1) := by decide +kernel
theorem dX3_readLine_20 : decode cX3_readLine 20 = .ok (.bipush 44, 2) := by decide +kernel
theorem dX3_readLine_22 : decode cX3_readLine 22 = .ok (.invokevirtual 80, 3) := by decide +kernel
theorem dX3_readLine_25 : decode cX3_readLine 25 = .ok (.ifCond .ne 5, 3) := by decide +kernel
theorem dX3_readLine_30 : decode cX3_readLine 30 = .ok (.aload_n 0, 1) := by decide +kernel
theorem dX3_readLine_31 : decode cX3_readLine 31 = .ok (.getfield 23, 3) := by decide +kernel
theorem dX3_readLine_34 : decode cX3_readLine 34 = .ok (.iload_n 2, 1) := by decide +kernel
theorem dX3_readLine_35 : decode cX3_readLine 35 = .ok (.aload_n 1, 1) := by decide +kernel
theorem dX3_readLine_36 : decode cX3_readLine 36 = .ok (.iconst 0, 1) := by decide +kernel
theorem dX3_readLine_37 : decode cX3_readLine 37 = .ok (.bipush 9, 2) := by decide +kernel
theorem dX3_readLine_39 : decode cX3_readLine 39 = .ok (.invokevirtual 88, 3) := by decide +kernel
theorem dX3_readLine_42 : decode cX3_readLine 42 = .ok (.iastore, 1) := by decide +kernel
theorem dX3_readLine_43 : decode cX3_readLine 43 = .ok (.aload_n 0, 1) := by decide +kernel
theorem dX3_readLine_44 : decode cX3_readLine 44 = .ok (.getfield 23, 3) := by decide +kernel
theorem dX3_readLine_47 : decode cX3_readLine 47 = .ok (.iload_n 2, 1) := by decide +kernel
theorem dX3_readLine_48 : decode cX3_readLine 48 = .ok (.iaload, 1) := by decide +kernel
theorem dX3_readLine_49 : decode cX3_readLine 49 = .ok (.ifCond .ge 5, 3) := by decide +kernel
theorem dX3_readLine_54 : decode cX3_readLine 54 = .ok (.aload_n 0, 1) := by decide +kernel
theorem dX3_readLine_55 : decode cX3_readLine 55 = .ok (.getfield 26, 3) := by decide +kernel
theorem dX3_readLine_58 : decode cX3_readLine 58 = .ok (.iload_n 2, 1) := by decide +kernel
theorem dX3_readLine_59 : decode cX3_readLine 59 = .ok (.aload_n 1, 1) := by decide +kernel
theorem dX3_readLine_60 : decode cX3_readLine 60 = .ok (.iconst 0, 1) := by decide +kernel
theorem dX3_readLine_61 : decode cX3_readLine 61 = .ok (.bipush 9, 2) := by decide +kernel
theorem dX3_readLine_63 : decode cX3_readLine 63 = .ok (.invokevirtual 88, 3) := by decide +kernel
theorem dX3_readLine_66 : decode cX3_readLine 66 = .ok (.iastore, 1) := by decide +kernel
theorem dX3_readLine_67 : decode cX3_readLine 67 = .ok (.aload_n 0, 1) := by decide +kernel
theorem dX3_readLine_68 : decode cX3_readLine 68 = .ok (.getfield 26, 3) := by decide +kernel
theorem dX3_readLine_71 : decode cX3_readLine 71 = .ok (.iload_n 2, 1) := by decide +kernel
theorem dX3_readLine_72 : decode cX3_readLine 72 = .ok (.iaload, 1) := by decide +kernel
theorem dX3_readLine_73 : decode cX3_readLine 73 = .ok (.ifCond .ge 5, 3) := by decide +kernel
theorem dX3_readLine_78 : decode cX3_readLine 78 = .ok (.aload_n 0, 1) := by decide +kernel
theorem dX3_readLine_79 : decode cX3_readLine 79 = .ok (.getfield 29, 3) := by decide +kernel
theorem dX3_readLine_82 : decode cX3_readLine 82 = .ok (.iload_n 2, 1) := by decide +kernel
theorem dX3_readLine_83 : decode cX3_readLine 83 = .ok (.aload_n 1, 1) := by decide +kernel
theorem dX3_readLine_84 : decode cX3_readLine 84 = .ok (.iconst 1, 1) := by decide +kernel
theorem dX3_readLine_85 : decode cX3_readLine 85 = .ok (.bipush 9, 2) := by decide +kernel
theorem dX3_readLine_87 : decode cX3_readLine 87 = .ok (.invokevirtual 88, 3) := by decide +kernel
theorem dX3_readLine_90 : decode cX3_readLine 90 = .ok (.iastore, 1) := by decide +kernel
theorem dX3_readLine_91 : decode cX3_readLine 91 = .ok (.aload_n 0, 1) := by decide +kernel
theorem dX3_readLine_92 : decode cX3_readLine 92 = .ok (.getfield 29, 3) := by decide +kernel
theorem dX3_readLine_95 : decode cX3_readLine 95 = .ok (.iload_n 2, 1) := by decide +kernel
theorem dX3_readLine_96 : decode cX3_readLine 96 = .ok (.iaload, 1) := by decide +kernel
theorem dX3_readLine_97 : decode cX3_readLine 97 = .ok (.ifCond .ge 5, 3) := by decide +kernel
theorem dX3_readLine_102 : decode cX3_readLine 102 = .ok (.aload_n 0, 1) := by decide +kernel
theorem dX3_readLine_103 : decode cX3_readLine 103 = .ok (.getfield 32, 3) := by decide +kernel
theorem dX3_readLine_106 : decode cX3_readLine 106 = .ok (.iload_n 2, 1) := by decide +kernel
theorem dX3_readLine_107 : decode cX3_readLine 107 = .ok (.aload_n 1, 1) := by decide +kernel
theorem dX3_readLine_108 : decode cX3_readLine 108 = .ok (.iconst 0, 1) := by decide +kernel
theorem dX3_readLine_109 : decode cX3_readLine 109 = .ok (.bipush 9, 2) := by decide +kernel
theorem dX3_readLine_111 : decode cX3_readLine 111 = .ok (.invokevirtual 88, 3) := by decide +kernel
theorem dX3_readLine_114 : decode cX3_readLine 114 = .ok (.iastore, 1) := by decide +kernel
theorem dX3_readLine_115 : decode cX3_readLine 115 = .ok (.aload_n 0, 1) := by decide +kernel
theorem dX3_readLine_116 : decode cX3_readLine 116 = .ok (.getfield 35, 3) := by decide +kernel
theorem dX3_readLine_119 : decode cX3_readLine 119 = .ok (.iload_n 2, 1) := by decide +kernel
theorem dX3_readLine_120 : decode cX3_readLine 120 = .ok (.iconst 0, 1) := by decide +kernel
theorem dX3_readLine_121 : decode cX3_readLine 121 = .ok (.iastore, 1) := by decide +kernel
theorem dX3_readLine_122 : decode cX3_readLine 122 = .ok (.aload_n 0, 1) := by decide +kernel
theorem dX3_readLine_123 : decode cX3_readLine 123 = .ok (.getfield 32, 3) := by decide +kernel
theorem dX3_readLine_126 : decode cX3_readLine 126 = .ok (.iload_n 2, 1) := by decide +kernel
theorem dX3_readLine_127 : decode cX3_readLine 127 = .ok (.iaload, 1) := by decide +kernel
theorem dX3_readLine_128 : decode cX3_readLine 128 = .ok (.ifCond .lt 7, 3) := by decide +kernel
theorem dX3_readLine_135 : decode cX3_readLine 135 = .ok (.iconst 0, 1) := by decide +kernel
theorem dX3_readLine_136 : decode cX3_readLine 136 = .ok (.ireturn, 1) := by decide +kernel
theorem dX3_readLine_131 : decode cX3_readLine 131 = .ok (.iconst 1, 1) := by decide +kernel
theorem dX3_readLine_132 : decode cX3_readLine 132 = .ok (.goto 4, 3) := by decide +kernel
theorem dX3_readLine_100 : decode cX3_readLine 100 = .ok (.iconst 0, 1) := by decide +kernel
theorem dX3_readLine_101 : decode cX3_readLine 101 = .ok (.ireturn, 1) := by decide +kernel
theorem dX3_readLine_76 : decode cX3_readLine 76 = .ok (.iconst 0, 1) := by decide +kernel
theorem dX3_readLine_77 : decode cX3_readLine 77 = .ok (.ireturn, 1) := by decide +kernel
theorem dX3_readLine_52 : decode cX3_readLine 52 = .ok (.iconst 0, 1) := by decide +kernel
theorem dX3_readLine_53 : decode cX3_readLine 53 = .ok (.ireturn, 1) := by decide +kernel
theorem dX3_readLines_0 : decode cX3_readLines 0 = .ok (.aload_n 0, 1) := by decide +kernel
theorem dX3_readLines_1 : decode cX3_readLines 1 = .ok (.getfield 59, 3) := by decide +kernel
theorem dX3_readLines_4 : decode cX3_readLines 4 = .ok (.istore_n 2, 1) := by decide +kernel
theorem dX3_readLines_5 : decode cX3_readLines 5 = .ok (.iload_n 2, 1) := by decide +kernel
theorem dX3_readLines_6 : decode cX3_readLines 6 = .ok (.bipush 6, 2) := by decide +kernel
theorem dX3_readLines_8 : decode cX3_readLines 8 = .ok (.if_icmp .ge 47, 3) := by decide +kernel
theorem dX3_readLines_55 : decode cX3_readLines 55 = .ok (.iconst (-1), 1) := by decide +kernel
theorem dX3_readLines_56 : decode cX3_readLines 56 = .ok (.ireturn, 1) := by decide +kernel
theorem dX3_readLines_11 : decode cX3_readLines 11 = .ok (.aload_n 0, 1) := by decide +kernel
theorem dX3_readLines_12 : decode cX3_readLines 12 = .ok (.aload_n 1, 1) := by decide +kernel
theorem dX3_readLines_13 : decode cX3_readLines 13 = .ok (.iload_n 2, 1) := by decide +kernel
theorem dX3_readLines_14 : decode cX3_readLines 14 = .ok (.invokevirtual 76, 3) := by decide +kernel
theorem dX3_readLines_17 : decode cX3_readLines 17 = .ok (.ifCond .ne 5, 3) := by decide +kernel
theorem dX3_readLines_22 : decode cX3_readLines 22 = .ok (.aload_n 1, 1) := by decide +kernel
theorem dX3_readLines_23 : decode cX3_readLines 23 = .ok (.invokevirtual 66, 3) := by decide +kernel
theorem dX3_readLines_26 : decode cX3_readLines 26 = .ok (.ifCond .eq 12, 3) := by decide +kernel
theorem dX3_readLines_38 : decode cX3_readLines 38 = .ok (.aload_n 1, 1) := by decide +kernel
theorem dX3_readLines_39 : decode cX3_readLines 39 = .ok (.bipush 59, 2) := by decide +kernel
theorem dX3_readLines_41 : decode cX3_readLines 41 = .ok (.invokevirtual 80, 3) := by decide +kernel
theorem dX3_readLines_44 : decode cX3_readLines 44 = .ok (.ifCond .ne 5, 3) := by decide +kernel
theorem dX3_readLines_49 : decode cX3_readLines 49 = .ok (.iinc 2 1, 3) := by decide +kernel
theorem dX3_readLines_52 : decode cX3_readLines 52 = .ok (.goto (-47), 3) := by decide +kernel
theorem dX3_readLines_47 : decode cX3_readLines 47 = .ok (.iconst (-1), 1) := by decide +kernel
theorem dX3_readLines_48 : decode cX3_readLines 48 = .ok (.ireturn, 1) := by decide +kernel
theorem dX3_readLines_20 : decode cX3_readLines 20 = .ok (.iconst (-1), 1) := by decide +kernel
theorem dX3_readLines_21 : decode cX3_readLines 21 = .ok (.ireturn, 1) := by decide +kernel
theorem dX3_readLines_29 : decode cX3_readLines 29 = .ok (.iload_n 2, 1) := by decide +kernel
theorem dX3_readLines_30 : decode cX3_readLines 30 = .ok (.iconst 1, 1) := by decide +kernel
theorem dX3_readLines_31 : decode cX3_readLines 31 = .ok (.iadd, 1) := by decide +kernel
theorem dX3_readLines_32 : decode cX3_readLines 32 = .ok (.aload_n 0, 1) := by decide +kernel
theorem dX3_readLines_33 : decode cX3_readLines 33 = .ok (.getfield 59, 3) := by decide +kernel
theorem dX3_readLines_36 : decode cX3_readLines 36 = .ok (.isub, 1) := by decide +kernel
theorem dX3_readLines_37 : decode cX3_readLines 37 = .ok (.ireturn, 1) := by decide +kernel
theorem dX3_read_0 : decode cX3_read 0 = .ok (.aload_n 1, 1) := by decide +kernel
theorem dX3_read_1 : decode cX3_read 1 = .ok (.invokevirtual 66, 3) := by decide +kernel
theorem dX3_read_16 : decode cX3_read 16 = .ok (.istore_n 2, 1) := by decide +kernel
theorem dX3_read_17 : decode cX3_read 17 = .ok (.iload_n 2, 1) := by decide +kernel
theorem dX3_read_18 : decode cX3_read 18 = .ok (.ifCond .le 13, 3) := by decide +kernel
theorem dX3_read_31 : decode cX3_read 31 = .ok (.iload_n 2, 1) := by decide +kernel
theorem dX3_read_32 : decode cX3_read 32 = .ok (.ireturn, 1) := by decide +kernel
theorem dX3_read_21 : decode cX3_read 21 = .ok (.aload_n 0, 1) := by decide +kernel
theorem dX3_read_22 : decode cX3_read 22 = .ok (.dup, 1) := by decide +kernel
theorem dX3_read_23 : decode cX3_read 23 = .ok (.getfield 59, 3) := by decide +kernel
theorem dX3_read_26 : decode cX3_read 26 = .ok (.iload_n 2, 1) := by decide +kernel
theorem dX3_read_27 : decode cX3_read 27 = .ok (.iadd, 1) := by decide +kernel
theorem dX3_read_28 : decode cX3_read 28 = .ok (.putfield 59, 3) := by decide +kernel
theorem dX3_read_4 : decode cX3_read 4 = .ok (.ifCond .eq 7, 3) := by decide +kernel
theorem dX3_read_11 : decode cX3_read 11 = .ok (.aload_n 0, 1) := by decide +kernel
theorem dX3_read_12 : decode cX3_read 12 = .ok (.aload_n 1, 1) := by decide +kernel
theorem dX3_read_13 : decode cX3_read 13 = .ok (.invokevirtual 72, 3) := by decide +kernel
theorem dX3_read_7 : decode cX3_read 7 = .ok (.iconst 0, 1) := by decide +kernel
theorem dX3_read_8 : decode cX3_read 8 = .ok (.goto 8, 3) := by decide +kernel
theorem dX7_joined_0 : decode cX7_joined 0 = .ok (.iload_n 0, 1) := by decide +kernel
theorem dX7_joined_1 : decode cX7_joined 1 = .ok (.lookupswitch 104 #[(42, 100), (43, 92), (45, 96), (60, 59), (61, 81), (62, 70)], 59) := by decide +kernel
theorem dX7_joined_101 : decode cX7_joined 101 = .ok (.iload_n 1, 1) := by decide +kernel
theorem dX7_joined_102 : decode cX7_joined 102 = .ok (.iload_n 2, 1) := by decide +kernel
theorem dX7_joined_103 : decode cX7_joined 103 = .ok (.imul, 1) := by decide +kernel
theorem dX7_joined_104 : decode cX7_joined 104 = .ok (.ireturn, 1) := by decide +kernel
theorem dX7_joined_93 : decode cX7_joined 93 = .ok (.iload_n 1, 1) := by decide +kernel
theorem dX7_joined_94 : decode cX7_joined 94 = .ok (.iload_n 2, 1) := by decide +kernel
theorem dX7_joined_95 : decode cX7_joined 95 = .ok (.iadd, 1) := by decide +kernel
theorem dX7_joined_96 : decode cX7_joined 96 = .ok (.ireturn, 1) := by decide +kernel
theorem dX7_joined_97 : decode cX7_joined 97 = .ok (.iload_n 1, 1) := by decide +kernel
theorem dX7_joined_98 : decode cX7_joined 98 = .ok (.iload_n 2, 1) := by decide +kernel
theorem dX7_joined_99 : decode cX7_joined 99 = .ok (.isub, 1) := by decide +kernel
theorem dX7_joined_100 : decode cX7_joined 100 = .ok (.ireturn, 1) := by decide +kernel
theorem dX7_joined_60 : decode cX7_joined 60 = .ok (.iload_n 1, 1) := by decide +kernel
theorem dX7_joined_61 : decode cX7_joined 61 = .ok (.iload_n 2, 1) := by decide +kernel
theorem dX7_joined_62 : decode cX7_joined 62 = .ok (.if_icmp .ge 7, 3) := by decide +kernel
theorem dX7_joined_69 : decode cX7_joined 69 = .ok (.iconst 0, 1) := by decide +kernel
theorem dX7_joined_70 : decode cX7_joined 70 = .ok (.ireturn, 1) := by decide +kernel
theorem dX7_joined_65 : decode cX7_joined 65 = .ok (.iconst 1, 1) := by decide +kernel
theorem dX7_joined_66 : decode cX7_joined 66 = .ok (.goto 4, 3) := by decide +kernel
theorem dX7_joined_82 : decode cX7_joined 82 = .ok (.iload_n 1, 1) := by decide +kernel
theorem dX7_joined_83 : decode cX7_joined 83 = .ok (.iload_n 2, 1) := by decide +kernel
theorem dX7_joined_84 : decode cX7_joined 84 = .ok (.if_icmp .ne 7, 3) := by decide +kernel
theorem dX7_joined_91 : decode cX7_joined 91 = .ok (.iconst 0, 1) := by decide +kernel
theorem dX7_joined_92 : decode cX7_joined 92 = .ok (.ireturn, 1) := by decide +kernel
theorem dX7_joined_87 : decode cX7_joined 87 = .ok (.iconst 1, 1) := by decide +kernel
theorem dX7_joined_88 : decode cX7_joined 88 = .ok (.goto 4, 3) := by decide +kernel
theorem dX7_joined_71 : decode cX7_joined 71 = .ok (.iload_n 1, 1) := by decide +kernel
theorem dX7_joined_72 : decode cX7_joined 72 = .ok (.iload_n 2, 1) := by decide +kernel
theorem dX7_joined_73 : decode cX7_joined 73 = .ok (.if_icmp .le 7, 3) := by decide +kernel
theorem dX7_joined_80 : decode cX7_joined 80 = .ok (.iconst 0, 1) := by decide +kernel
theorem dX7_joined_81 : decode cX7_joined 81 = .ok (.ireturn, 1) := by decide +kernel
theorem dX7_joined_76 : decode cX7_joined 76 = .ok (.iconst 1, 1) := by decide +kernel
theorem dX7_joined_77 : decode cX7_joined 77 = .ok (.goto 4, 3) := by decide +kernel
theorem dX7_joined_105 : decode cX7_joined 105 = .ok (.iload_n 2, 1) := by decide +kernel
theorem dX7_joined_106 : decode cX7_joined 106 = .ok (.ifCond .ne 7, 3) := by decide +kernel
theorem dX7_joined_113 : decode cX7_joined 113 = .ok (.iload_n 1, 1) := by decide +kernel
theorem dX7_joined_114 : decode cX7_joined 114 = .ok (.iload_n 2, 1) := by decide +kernel
theorem dX7_joined_115 : decode cX7_joined 115 = .ok (.idiv, 1) := by decide +kernel
theorem dX7_joined_116 : decode cX7_joined 116 = .ok (.ireturn, 1) := by decide +kernel
theorem dX7_joined_109 : decode cX7_joined 109 = .ok (.iconst 0, 1) := by decide +kernel
theorem dX7_joined_110 : decode cX7_joined 110 = .ok (.goto 6, 3) := by decide +kernel
theorem dX7_valueBy_0 : decode cX7_valueBy 0 = .ok (.aload_n 1, 1) := by decide +kernel
theorem dX7_valueBy_1 : decode cX7_valueBy 1 = .ok (.arraylength, 1) := by decide +kernel
theorem dX7_valueBy_2 : decode cX7_valueBy 2 = .ok (.bipush 8, 2) := by decide +kernel
theorem dX7_valueBy_4 : decode cX7_valueBy 4 = .ok (.if_icmp .ge 5, 3) := by decide +kernel
theorem dX7_valueBy_9 : decode cX7_valueBy 9 = .ok (.aload_n 0, 1) := by decide +kernel
theorem dX7_valueBy_10 : decode cX7_valueBy 10 = .ok (.getfield 35, 3) := by decide +kernel
theorem dX7_valueBy_13 : decode cX7_valueBy 13 = .ok (.ifCond .ne 23, 3) := by decide +kernel
theorem dX7_valueBy_36 : decode cX7_valueBy 36 = .ok (.iconst 0, 1) := by decide +kernel
theorem dX7_valueBy_37 : decode cX7_valueBy 37 = .ok (.istore_n 2, 1) := by decide +kernel
theorem dX7_valueBy_38 : decode cX7_valueBy 38 = .ok (.iconst 0, 1) := by decide +kernel
theorem dX7_valueBy_39 : decode cX7_valueBy 39 = .ok (.istore_n 3, 1) := by decide +kernel
theorem dX7_valueBy_40 : decode cX7_valueBy 40 = .ok (.iload_n 3, 1) := by decide +kernel
theorem dX7_valueBy_41 : decode cX7_valueBy 41 = .ok (.aload_n 0, 1) := by decide +kernel
theorem dX7_valueBy_42 : decode cX7_valueBy 42 = .ok (.getfield 35, 3) := by decide +kernel
theorem dX7_valueBy_45 : decode cX7_valueBy 45 = .ok (.if_icmp .ge 142, 3) := by decide +kernel
theorem dX7_valueBy_48 : decode cX7_valueBy 48 = .ok (.aload_n 0, 1) := by decide +kernel
theorem dX7_valueBy_49 : decode cX7_valueBy 49 = .ok (.getfield 9, 3) := by decide +kernel
theorem dX7_valueBy_52 : decode cX7_valueBy 52 = .ok (.iload_n 3, 1) := by decide +kernel
theorem dX7_valueBy_53 : decode cX7_valueBy 53 = .ok (.iaload, 1) := by decide +kernel
theorem dX7_valueBy_54 : decode cX7_valueBy 54 = .ok (.istore 4, 2) := by decide +kernel
theorem dX7_valueBy_56 : decode cX7_valueBy 56 = .ok (.iload 4, 2) := by decide +kernel
theorem dX7_valueBy_58 : decode cX7_valueBy 58 = .ok (.sipush 2000, 3) := by decide +kernel
theorem dX7_valueBy_181 : decode cX7_valueBy 181 = .ok (.iinc 3 1, 3) := by decide +kernel
theorem dX7_valueBy_184 : decode cX7_valueBy 184 = .ok (.goto (-144), 3) := by decide +kernel
theorem dX7_valueBy_109 : decode cX7_valueBy 109 = .ok (.iload 4, 2) := by decide +kernel
theorem dX7_valueBy_111 : decode cX7_valueBy 111 = .ok (.sipush 3000, 3) := by decide +kernel
theorem dX7_valueBy_142 : decode cX7_valueBy 142 = .ok (.iload_n 2, 1) := by decide +kernel
theorem dX7_valueBy_143 : decode cX7_valueBy 143 = .ok (.iconst 2, 1) := by decide +kernel
theorem dX7_valueBy_144 : decode cX7_valueBy 144 = .ok (.if_icmp .lt 37, 3) := by decide +kernel
theorem dX7_valueBy_147 : decode cX7_valueBy 147 = .ok (.iinc 2 (-1), 3) := by decide +kernel
theorem dX7_valueBy_150 : decode cX7_valueBy 150 = .ok (.aload_n 0, 1) := by decide +kernel
theorem dX7_valueBy_151 : decode cX7_valueBy 151 = .ok (.getfield 18, 3) := by decide +kernel
theorem dX7_valueBy_154 : decode cX7_valueBy 154 = .ok (.iload_n 2, 1) := by decide +kernel
theorem dX7_valueBy_155 : decode cX7_valueBy 155 = .ok (.iconst 1, 1) := by decide +kernel
theorem dX7_valueBy_156 : decode cX7_valueBy 156 = .ok (.isub, 1) := by decide +kernel
theorem dX7_valueBy_157 : decode cX7_valueBy 157 = .ok (.iload 4, 2) := by decide +kernel
theorem dX7_valueBy_159 : decode cX7_valueBy 159 = .ok (.sipush 2000, 3) := by decide +kernel
theorem dX7_valueBy_162 : decode cX7_valueBy 162 = .ok (.isub, 1) := by decide +kernel
theorem dX7_valueBy_163 : decode cX7_valueBy 163 = .ok (.aload_n 0, 1) := by decide +kernel
theorem dX7_valueBy_164 : decode cX7_valueBy 164 = .ok (.getfield 18, 3) := by decide +kernel
theorem dX7_valueBy_167 : decode cX7_valueBy 167 = .ok (.iload_n 2, 1) := by decide +kernel
theorem dX7_valueBy_168 : decode cX7_valueBy 168 = .ok (.iconst 1, 1) := by decide +kernel
theorem dX7_valueBy_169 : decode cX7_valueBy 169 = .ok (.isub, 1) := by decide +kernel
theorem dX7_valueBy_170 : decode cX7_valueBy 170 = .ok (.iaload, 1) := by decide +kernel
theorem dX7_valueBy_171 : decode cX7_valueBy 171 = .ok (.aload_n 0, 1) := by decide +kernel
theorem dX7_valueBy_172 : decode cX7_valueBy 172 = .ok (.getfield 18, 3) := by decide +kernel
theorem dX7_valueBy_175 : decode cX7_valueBy 175 = .ok (.iload_n 2, 1) := by decide +kernel
theorem dX7_valueBy_176 : decode cX7_valueBy 176 = .ok (.iaload, 1) := by decide +kernel
theorem dX7_valueBy_177 : decode cX7_valueBy 177 = .ok (.invokestatic 82, 3) := by decide +kernel
theorem dX7_valueBy_180 : decode cX7_valueBy 180 = .ok (.iastore, 1) := by decide +kernel
theorem dX7_valueBy_114 : decode cX7_valueBy 114 = .ok (.if_icmp .ne 28, 3) := by decide +kernel
theorem dX7_valueBy_117 : decode cX7_valueBy 117 = .ok (.iload_n 2, 1) := by decide +kernel
theorem dX7_valueBy_118 : decode cX7_valueBy 118 = .ok (.iconst 1, 1) := by decide +kernel
theorem dX7_valueBy_119 : decode cX7_valueBy 119 = .ok (.if_icmp .lt 23, 3) := by decide +kernel
theorem dX7_valueBy_122 : decode cX7_valueBy 122 = .ok (.aload_n 0, 1) := by decide +kernel
theorem dX7_valueBy_123 : decode cX7_valueBy 123 = .ok (.getfield 18, 3) := by decide +kernel
theorem dX7_valueBy_126 : decode cX7_valueBy 126 = .ok (.iload_n 2, 1) := by decide +kernel
theorem dX7_valueBy_127 : decode cX7_valueBy 127 = .ok (.iconst 1, 1) := by decide +kernel
theorem dX7_valueBy_128 : decode cX7_valueBy 128 = .ok (.isub, 1) := by decide +kernel
theorem dX7_valueBy_129 : decode cX7_valueBy 129 = .ok (.aload_n 0, 1) := by decide +kernel
theorem dX7_valueBy_130 : decode cX7_valueBy 130 = .ok (.getfield 18, 3) := by decide +kernel
theorem dX7_valueBy_133 : decode cX7_valueBy 133 = .ok (.iload_n 2, 1) := by decide +kernel
theorem dX7_valueBy_134 : decode cX7_valueBy 134 = .ok (.iconst 1, 1) := by decide +kernel
theorem dX7_valueBy_135 : decode cX7_valueBy 135 = .ok (.isub, 1) := by decide +kernel
theorem dX7_valueBy_136 : decode cX7_valueBy 136 = .ok (.iaload, 1) := by decide +kernel
theorem dX7_valueBy_137 : decode cX7_valueBy 137 = .ok (.ineg, 1) := by decide +kernel
theorem dX7_valueBy_138 : decode cX7_valueBy 138 = .ok (.iastore, 1) := by decide +kernel
theorem dX7_valueBy_139 : decode cX7_valueBy 139 = .ok (.goto 42, 3) := by decide +kernel
theorem dX7_valueBy_61 : decode cX7_valueBy 61 = .ok (.if_icmp .ge 48, 3) := by decide +kernel
theorem dX7_valueBy_64 : decode cX7_valueBy 64 = .ok (.iload_n 2, 1) := by decide +kernel
theorem dX7_valueBy_65 : decode cX7_valueBy 65 = .ok (.aload_n 0, 1) := by decide +kernel
theorem dX7_valueBy_66 : decode cX7_valueBy 66 = .ok (.getfield 18, 3) := by decide +kernel
theorem dX7_valueBy_69 : decode cX7_valueBy 69 = .ok (.arraylength, 1) := by decide +kernel
theorem dX7_valueBy_70 : decode cX7_valueBy 70 = .ok (.if_icmp .ge 39, 3) := by decide +kernel
theorem dX7_valueBy_73 : decode cX7_valueBy 73 = .ok (.aload_n 0, 1) := by decide +kernel
theorem dX7_valueBy_74 : decode cX7_valueBy 74 = .ok (.getfield 18, 3) := by decide +kernel
theorem dX7_valueBy_77 : decode cX7_valueBy 77 = .ok (.iload_n 2, 1) := by decide +kernel
theorem dX7_valueBy_78 : decode cX7_valueBy 78 = .ok (.iload 4, 2) := by decide +kernel
theorem dX7_valueBy_80 : decode cX7_valueBy 80 = .ok (.sipush 1000, 3) := by decide +kernel
theorem dX7_valueBy_102 : decode cX7_valueBy 102 = .ok (.iastore, 1) := by decide +kernel
theorem dX7_valueBy_103 : decode cX7_valueBy 103 = .ok (.iinc 2 1, 3) := by decide +kernel
theorem dX7_valueBy_106 : decode cX7_valueBy 106 = .ok (.goto 75, 3) := by decide +kernel
theorem dX7_valueBy_83 : decode cX7_valueBy 83 = .ok (.if_icmp .ge 8, 3) := by decide +kernel
theorem dX7_valueBy_91 : decode cX7_valueBy 91 = .ok (.aload_n 1, 1) := by decide +kernel
theorem dX7_valueBy_92 : decode cX7_valueBy 92 = .ok (.iload 4, 2) := by decide +kernel
theorem dX7_valueBy_94 : decode cX7_valueBy 94 = .ok (.sipush 1000, 3) := by decide +kernel
theorem dX7_valueBy_97 : decode cX7_valueBy 97 = .ok (.isub, 1) := by decide +kernel
theorem dX7_valueBy_98 : decode cX7_valueBy 98 = .ok (.bipush 8, 2) := by decide +kernel
theorem dX7_valueBy_100 : decode cX7_valueBy 100 = .ok (.irem, 1) := by decide +kernel
theorem dX7_valueBy_101 : decode cX7_valueBy 101 = .ok (.iaload, 1) := by decide +kernel
theorem dX7_valueBy_86 : decode cX7_valueBy 86 = .ok (.iload 4, 2) := by decide +kernel
theorem dX7_valueBy_88 : decode cX7_valueBy 88 = .ok (.goto 14, 3) := by decide +kernel
theorem dX7_valueBy_187 : decode cX7_valueBy 187 = .ok (.aload_n 0, 1) := by decide +kernel
theorem dX7_valueBy_188 : decode cX7_valueBy 188 = .ok (.getfield 18, 3) := by decide +kernel
theorem dX7_valueBy_191 : decode cX7_valueBy 191 = .ok (.iconst 0, 1) := by decide +kernel
theorem dX7_valueBy_192 : decode cX7_valueBy 192 = .ok (.iaload, 1) := by decide +kernel
theorem dX7_valueBy_193 : decode cX7_valueBy 193 = .ok (.ireturn, 1) := by decide +kernel
theorem dX7_valueBy_16 : decode cX7_valueBy 16 = .ok (.aload_n 1, 1) := by decide +kernel
theorem dX7_valueBy_17 : decode cX7_valueBy 17 = .ok (.iconst 0, 1) := by decide +kernel
theorem dX7_valueBy_18 : decode cX7_valueBy 18 = .ok (.iaload, 1) := by decide +kernel
theorem dX7_valueBy_19 : decode cX7_valueBy 19 = .ok (.aload_n 1, 1) := by decide +kernel
theorem dX7_valueBy_20 : decode cX7_valueBy 20 = .ok (.iconst 1, 1) := by decide +kernel
theorem dX7_valueBy_21 : decode cX7_valueBy 21 = .ok (.iaload, 1) := by decide +kernel
theorem dX7_valueBy_22 : decode cX7_valueBy 22 = .ok (.iconst 5, 1) := by decide +kernel
theorem dX7_valueBy_23 : decode cX7_valueBy 23 = .ok (.imul, 1) := by decide +kernel
theorem dX7_valueBy_24 : decode cX7_valueBy 24 = .ok (.isub, 1) := by decide +kernel
theorem dX7_valueBy_25 : decode cX7_valueBy 25 = .ok (.aload_n 1, 1) := by decide +kernel
theorem dX7_valueBy_26 : decode cX7_valueBy 26 = .ok (.iconst 2, 1) := by decide +kernel
theorem dX7_valueBy_27 : decode cX7_valueBy 27 = .ok (.iaload, 1) := by decide +kernel
theorem dX7_valueBy_28 : decode cX7_valueBy 28 = .ok (.iconst 4, 1) := by decide +kernel
theorem dX7_valueBy_29 : decode cX7_valueBy 29 = .ok (.imul, 1) := by decide +kernel
theorem dX7_valueBy_30 : decode cX7_valueBy 30 = .ok (.isub, 1) := by decide +kernel
theorem dX7_valueBy_31 : decode cX7_valueBy 31 = .ok (.aload_n 1, 1) := by decide +kernel
theorem dX7_valueBy_32 : decode cX7_valueBy 32 = .ok (.iconst 5, 1) := by decide +kernel
theorem dX7_valueBy_33 : decode cX7_valueBy 33 = .ok (.iaload, 1) := by decide +kernel
theorem dX7_valueBy_34 : decode cX7_valueBy 34 = .ok (.isub, 1) := by decide +kernel
theorem dX7_valueBy_35 : decode cX7_valueBy 35 = .ok (.ireturn, 1) := by decide +kernel
theorem dX7_valueBy_7 : decode cX7_valueBy 7 = .ok (.iconst 0, 1) := by decide +kernel
theorem dX7_valueBy_8 : decode cX7_valueBy 8 = .ok (.ireturn, 1) := by decide +kernel
theorem dX3_liftAs_0 : decode cX3_liftAs 0 = .ok (.aload_n 0, 1) := by decide +kernel
theorem dX3_liftAs_1 : decode cX3_liftAs 1 = .ok (.iload_n 1, 1) := by decide +kernel
theorem dX3_liftAs_2 : decode cX3_liftAs 2 = .ok (.invokevirtual 92, 3) := by decide +kernel
theorem dX3_liftAs_5 : decode cX3_liftAs 5 = .ok (.ifCond .ne 5, 3) := by decide +kernel
theorem dX3_liftAs_10 : decode cX3_liftAs 10 = .ok (.aload_n 0, 1) := by decide +kernel
theorem dX3_liftAs_11 : decode cX3_liftAs 11 = .ok (.getfield 13, 3) := by decide +kernel
theorem dX3_liftAs_14 : decode cX3_liftAs 14 = .ok (.iconst 0, 1) := by decide +kernel
theorem dX3_liftAs_15 : decode cX3_liftAs 15 = .ok (.iload_n 2, 1) := by decide +kernel
theorem dX3_liftAs_16 : decode cX3_liftAs 16 = .ok (.iastore, 1) := by decide +kernel
theorem dX3_liftAs_17 : decode cX3_liftAs 17 = .ok (.aload_n 0, 1) := by decide +kernel
theorem dX3_liftAs_18 : decode cX3_liftAs 18 = .ok (.getfield 13, 3) := by decide +kernel
theorem dX3_liftAs_21 : decode cX3_liftAs 21 = .ok (.iconst 1, 1) := by decide +kernel
theorem dX3_liftAs_22 : decode cX3_liftAs 22 = .ok (.iload_n 3, 1) := by decide +kernel
theorem dX3_liftAs_23 : decode cX3_liftAs 23 = .ok (.iastore, 1) := by decide +kernel
theorem dX3_liftAs_24 : decode cX3_liftAs 24 = .ok (.aload_n 0, 1) := by decide +kernel
theorem dX3_liftAs_25 : decode cX3_liftAs 25 = .ok (.getfield 13, 3) := by decide +kernel
theorem dX3_liftAs_28 : decode cX3_liftAs 28 = .ok (.iconst 2, 1) := by decide +kernel
theorem dX3_liftAs_29 : decode cX3_liftAs 29 = .ok (.aload_n 0, 1) := by decide +kernel
theorem dX3_liftAs_30 : decode cX3_liftAs 30 = .ok (.getfield 26, 3) := by decide +kernel
theorem dX3_liftAs_33 : decode cX3_liftAs 33 = .ok (.iload_n 1, 1) := by decide +kernel
theorem dX3_liftAs_34 : decode cX3_liftAs 34 = .ok (.iaload, 1) := by decide +kernel
theorem dX3_liftAs_35 : decode cX3_liftAs 35 = .ok (.iastore, 1) := by decide +kernel
theorem dX3_liftAs_36 : decode cX3_liftAs 36 = .ok (.aload_n 0, 1) := by decide +kernel
theorem dX3_liftAs_37 : decode cX3_liftAs 37 = .ok (.getfield 13, 3) := by decide +kernel
theorem dX3_liftAs_40 : decode cX3_liftAs 40 = .ok (.iconst 3, 1) := by decide +kernel
theorem dX3_liftAs_41 : decode cX3_liftAs 41 = .ok (.aload_n 0, 1) := by decide +kernel
theorem dX3_liftAs_42 : decode cX3_liftAs 42 = .ok (.getfield 32, 3) := by decide +kernel
theorem dX3_liftAs_45 : decode cX3_liftAs 45 = .ok (.iload_n 1, 1) := by decide +kernel
theorem dX3_liftAs_46 : decode cX3_liftAs 46 = .ok (.iaload, 1) := by decide +kernel
theorem dX3_liftAs_47 : decode cX3_liftAs 47 = .ok (.iastore, 1) := by decide +kernel
theorem dX3_liftAs_48 : decode cX3_liftAs 48 = .ok (.aload_n 0, 1) := by decide +kernel
theorem dX3_liftAs_49 : decode cX3_liftAs 49 = .ok (.getfield 13, 3) := by decide +kernel
theorem dX3_liftAs_52 : decode cX3_liftAs 52 = .ok (.iconst 4, 1) := by decide +kernel
theorem dX3_liftAs_53 : decode cX3_liftAs 53 = .ok (.aload_n 0, 1) := by decide +kernel
theorem dX3_liftAs_54 : decode cX3_liftAs 54 = .ok (.getfield 29, 3) := by decide +kernel
theorem dX3_liftAs_57 : decode cX3_liftAs 57 = .ok (.iload_n 1, 1) := by decide +kernel
theorem dX3_liftAs_58 : decode cX3_liftAs 58 = .ok (.iaload, 1) := by decide +kernel
theorem dX3_liftAs_59 : decode cX3_liftAs 59 = .ok (.iastore, 1) := by decide +kernel
theorem dX3_liftAs_60 : decode cX3_liftAs 60 = .ok (.aload_n 0, 1) := by decide +kernel
theorem dX3_liftAs_61 : decode cX3_liftAs 61 = .ok (.getfield 13, 3) := by decide +kernel
theorem dX3_liftAs_64 : decode cX3_liftAs 64 = .ok (.iconst 5, 1) := by decide +kernel
theorem dX3_liftAs_65 : decode cX3_liftAs 65 = .ok (.aload_n 0, 1) := by decide +kernel
theorem dX3_liftAs_66 : decode cX3_liftAs 66 = .ok (.getfield 99, 3) := by decide +kernel
theorem dX3_liftAs_69 : decode cX3_liftAs 69 = .ok (.iastore, 1) := by decide +kernel
theorem dX3_liftAs_70 : decode cX3_liftAs 70 = .ok (.aload_n 0, 1) := by decide +kernel
theorem dX3_liftAs_71 : decode cX3_liftAs 71 = .ok (.getfield 13, 3) := by decide +kernel
theorem dX3_liftAs_74 : decode cX3_liftAs 74 = .ok (.bipush 6, 2) := by decide +kernel
theorem dX3_liftAs_76 : decode cX3_liftAs 76 = .ok (.aload_n 0, 1) := by decide +kernel
theorem dX3_liftAs_77 : decode cX3_liftAs 77 = .ok (.getfield 63, 3) := by decide +kernel
theorem dX3_liftAs_80 : decode cX3_liftAs 80 = .ok (.iload 4, 2) := by decide +kernel
theorem dX3_liftAs_82 : decode cX3_liftAs 82 = .ok (.iadd, 1) := by decide +kernel
theorem dX3_liftAs_83 : decode cX3_liftAs 83 = .ok (.bipush 24, 2) := by decide +kernel
theorem dX3_liftAs_85 : decode cX3_liftAs 85 = .ok (.irem, 1) := by decide +kernel
theorem dX3_liftAs_86 : decode cX3_liftAs 86 = .ok (.iastore, 1) := by decide +kernel
theorem dX3_liftAs_87 : decode cX3_liftAs 87 = .ok (.aload_n 0, 1) := by decide +kernel
theorem dX3_liftAs_88 : decode cX3_liftAs 88 = .ok (.getfield 13, 3) := by decide +kernel
theorem dX3_liftAs_91 : decode cX3_liftAs 91 = .ok (.bipush 7, 2) := by decide +kernel
theorem dX3_liftAs_93 : decode cX3_liftAs 93 = .ok (.iload_n 1, 1) := by decide +kernel
theorem dX3_liftAs_94 : decode cX3_liftAs 94 = .ok (.iastore, 1) := by decide +kernel
theorem dX3_liftAs_95 : decode cX3_liftAs 95 = .ok (.aload_n 0, 1) := by decide +kernel
theorem dX3_liftAs_96 : decode cX3_liftAs 96 = .ok (.getfield 55, 3) := by decide +kernel
theorem dX3_liftAs_99 : decode cX3_liftAs 99 = .ok (.aload_n 0, 1) := by decide +kernel
theorem dX3_liftAs_100 : decode cX3_liftAs 100 = .ok (.getfield 13, 3) := by decide +kernel
theorem dX3_liftAs_103 : decode cX3_liftAs 103 = .ok (.invokevirtual 102, 3) := by decide +kernel
theorem dX3_liftAs_106 : decode cX3_liftAs 106 = .ok (.ireturn, 1) := by decide +kernel
theorem dX3_liftAs_8 : decode cX3_liftAs 8 = .ok (.iconst 0, 1) := by decide +kernel
theorem dX3_liftAs_9 : decode cX3_liftAs 9 = .ok (.ireturn, 1) := by decide +kernel
theorem dX3_liftOf_0 : decode cX3_liftOf 0 = .ok (.aload_n 0, 1) := by decide +kernel
theorem dX3_liftOf_1 : decode cX3_liftOf 1 = .ok (.iload_n 1, 1) := by decide +kernel
theorem dX3_liftOf_2 : decode cX3_liftOf 2 = .ok (.invokevirtual 92, 3) := by decide +kernel
theorem dX3_liftOf_5 : decode cX3_liftOf 5 = .ok (.ifCond .eq 24, 3) := by decide +kernel
theorem dX3_liftOf_29 : decode cX3_liftOf 29 = .ok (.iconst 0, 1) := by decide +kernel
theorem dX3_liftOf_30 : decode cX3_liftOf 30 = .ok (.ireturn, 1) := by decide +kernel
theorem dX3_liftOf_8 : decode cX3_liftOf 8 = .ok (.aload_n 0, 1) := by decide +kernel
theorem dX3_liftOf_9 : decode cX3_liftOf 9 = .ok (.iload_n 1, 1) := by decide +kernel
theorem dX3_liftOf_10 : decode cX3_liftOf 10 = .ok (.aload_n 0, 1) := by decide +kernel
theorem dX3_liftOf_11 : decode cX3_liftOf 11 = .ok (.getfield 20, 3) := by decide +kernel
theorem dX3_liftOf_14 : decode cX3_liftOf 14 = .ok (.iload_n 1, 1) := by decide +kernel
theorem dX3_liftOf_15 : decode cX3_liftOf 15 = .ok (.iaload, 1) := by decide +kernel
theorem dX3_liftOf_16 : decode cX3_liftOf 16 = .ok (.aload_n 0, 1) := by decide +kernel
theorem dX3_liftOf_17 : decode cX3_liftOf 17 = .ok (.getfield 23, 3) := by decide +kernel
theorem dX3_liftOf_20 : decode cX3_liftOf 20 = .ok (.iload_n 1, 1) := by decide +kernel
theorem dX3_liftOf_21 : decode cX3_liftOf 21 = .ok (.iaload, 1) := by decide +kernel
theorem dX3_liftOf_22 : decode cX3_liftOf 22 = .ok (.iconst 0, 1) := by decide +kernel
theorem dX3_liftOf_23 : decode cX3_liftOf 23 = .ok (.invokevirtual 95, 3) := by decide +kernel
theorem dX3_liftOf_26 : decode cX3_liftOf 26 = .ok (.goto 4, 3) := by decide +kernel
theorem dX3_ringOf_0 : decode cX3_ringOf 0 = .ok (.aload_n 0, 1) := by decide +kernel
theorem dX3_ringOf_1 : decode cX3_ringOf 1 = .ok (.iload_n 1, 1) := by decide +kernel
theorem dX3_ringOf_2 : decode cX3_ringOf 2 = .ok (.invokevirtual 92, 3) := by decide +kernel
theorem dX3_ringOf_5 : decode cX3_ringOf 5 = .ok (.ifCond .eq 22, 3) := by decide +kernel
theorem dX3_ringOf_27 : decode cX3_ringOf 27 = .ok (.iconst (-1), 1) := by decide +kernel
theorem dX3_ringOf_28 : decode cX3_ringOf 28 = .ok (.ireturn, 1) := by decide +kernel
theorem dX3_ringOf_8 : decode cX3_ringOf 8 = .ok (.aload_n 0, 1) := by decide +kernel
theorem dX3_ringOf_9 : decode cX3_ringOf 9 = .ok (.getfield 35, 3) := by decide +kernel
theorem dX3_ringOf_12 : decode cX3_ringOf 12 = .ok (.iload_n 1, 1) := by decide +kernel
theorem dX3_ringOf_13 : decode cX3_ringOf 13 = .ok (.iaload, 1) := by decide +kernel
theorem dX3_ringOf_14 : decode cX3_ringOf 14 = .ok (.iconst 2, 1) := by decide +kernel
theorem dX3_ringOf_15 : decode cX3_ringOf 15 = .ok (.if_icmp .ne 12, 3) := by decide +kernel
theorem dX3_ringOf_18 : decode cX3_ringOf 18 = .ok (.aload_n 0, 1) := by decide +kernel
theorem dX3_ringOf_19 : decode cX3_ringOf 19 = .ok (.getfield 38, 3) := by decide +kernel
theorem dX3_ringOf_22 : decode cX3_ringOf 22 = .ok (.iload_n 1, 1) := by decide +kernel
theorem dX3_ringOf_23 : decode cX3_ringOf 23 = .ok (.iaload, 1) := by decide +kernel
theorem dX3_ringOf_24 : decode cX3_ringOf 24 = .ok (.goto 4, 3) := by decide +kernel
theorem dX3_cellOf_0 : decode cX3_cellOf 0 = .ok (.aload_n 0, 1) := by decide +kernel
theorem dX3_cellOf_1 : decode cX3_cellOf 1 = .ok (.iload_n 1, 1) := by decide +kernel
theorem dX3_cellOf_2 : decode cX3_cellOf 2 = .ok (.invokevirtual 92, 3) := by decide +kernel
theorem dX3_cellOf_5 : decode cX3_cellOf 5 = .ok (.ifCond .eq 38, 3) := by decide +kernel
theorem dX3_cellOf_43 : decode cX3_cellOf 43 = .ok (.iconst (-1), 1) := by decide +kernel
theorem dX3_cellOf_44 : decode cX3_cellOf 44 = .ok (.ireturn, 1) := by decide +kernel
theorem dX3_cellOf_8 : decode cX3_cellOf 8 = .ok (.aload_n 0, 1) := by decide +kernel
theorem dX3_cellOf_9 : decode cX3_cellOf 9 = .ok (.getfield 35, 3) := by decide +kernel
theorem dX3_cellOf_12 : decode cX3_cellOf 12 = .ok (.iload_n 1, 1) := by decide +kernel
theorem dX3_cellOf_13 : decode cX3_cellOf 13 = .ok (.iaload, 1) := by decide +kernel
theorem dX3_cellOf_14 : decode cX3_cellOf 14 = .ok (.iconst 1, 1) := by decide +kernel
theorem dX3_cellOf_15 : decode cX3_cellOf 15 = .ok (.if_icmp .ne 28, 3) := by decide +kernel
theorem dX3_cellOf_18 : decode cX3_cellOf 18 = .ok (.bipush 19, 2) := by decide +kernel
theorem dX3_cellOf_20 : decode cX3_cellOf 20 = .ok (.aload_n 0, 1) := by decide +kernel
theorem dX3_cellOf_21 : decode cX3_cellOf 21 = .ok (.getfield 44, 3) := by decide +kernel
theorem dX3_cellOf_24 : decode cX3_cellOf 24 = .ok (.iload_n 1, 1) := by decide +kernel
theorem dX3_cellOf_25 : decode cX3_cellOf 25 = .ok (.iaload, 1) := by decide +kernel
theorem dX3_cellOf_26 : decode cX3_cellOf 26 = .ok (.bipush 9, 2) := by decide +kernel
theorem dX3_cellOf_28 : decode cX3_cellOf 28 = .ok (.iadd, 1) := by decide +kernel
theorem dX3_cellOf_29 : decode cX3_cellOf 29 = .ok (.imul, 1) := by decide +kernel
theorem dX3_cellOf_30 : decode cX3_cellOf 30 = .ok (.aload_n 0, 1) := by decide +kernel
theorem dX3_cellOf_31 : decode cX3_cellOf 31 = .ok (.getfield 41, 3) := by decide +kernel
theorem dX3_cellOf_34 : decode cX3_cellOf 34 = .ok (.iload_n 1, 1) := by decide +kernel
theorem dX3_cellOf_35 : decode cX3_cellOf 35 = .ok (.iaload, 1) := by decide +kernel
theorem dX3_cellOf_36 : decode cX3_cellOf 36 = .ok (.iadd, 1) := by decide +kernel
theorem dX3_cellOf_37 : decode cX3_cellOf 37 = .ok (.bipush 9, 2) := by decide +kernel
theorem dX3_cellOf_39 : decode cX3_cellOf 39 = .ok (.iadd, 1) := by decide +kernel
theorem dX3_cellOf_40 : decode cX3_cellOf 40 = .ok (.goto 4, 3) := by decide +kernel
theorem dX3_farness_0 : decode cX3_farness 0 = .ok (.aload_n 0, 1) := by decide +kernel
theorem dX3_farness_1 : decode cX3_farness 1 = .ok (.iload_n 1, 1) := by decide +kernel
theorem dX3_farness_2 : decode cX3_farness 2 = .ok (.invokevirtual 92, 3) := by decide +kernel
theorem dX3_farness_5 : decode cX3_farness 5 = .ok (.ifCond .eq 25, 3) := by decide +kernel
theorem dX3_farness_30 : decode cX3_farness 30 = .ok (.iconst 0, 1) := by decide +kernel
theorem dX3_farness_31 : decode cX3_farness 31 = .ok (.ireturn, 1) := by decide +kernel
theorem dX3_farness_8 : decode cX3_farness 8 = .ok (.aload_n 0, 1) := by decide +kernel
theorem dX3_farness_9 : decode cX3_farness 9 = .ok (.getfield 41, 3) := by decide +kernel
theorem dX3_farness_12 : decode cX3_farness 12 = .ok (.iload_n 1, 1) := by decide +kernel
theorem dX3_farness_13 : decode cX3_farness 13 = .ok (.iaload, 1) := by decide +kernel
theorem dX3_farness_14 : decode cX3_farness 14 = .ok (.invokestatic 106, 3) := by decide +kernel
theorem dX3_farness_17 : decode cX3_farness 17 = .ok (.aload_n 0, 1) := by decide +kernel
theorem dX3_farness_18 : decode cX3_farness 18 = .ok (.getfield 44, 3) := by decide +kernel
theorem dX3_farness_21 : decode cX3_farness 21 = .ok (.iload_n 1, 1) := by decide +kernel
theorem dX3_farness_22 : decode cX3_farness 22 = .ok (.iaload, 1) := by decide +kernel
theorem dX3_farness_23 : decode cX3_farness 23 = .ok (.invokestatic 106, 3) := by decide +kernel
theorem dX3_farness_26 : decode cX3_farness 26 = .ok (.iadd, 1) := by decide +kernel
theorem dX3_farness_27 : decode cX3_farness 27 = .ok (.goto 4, 3) := by decide +kernel
theorem dX3_isUp_0 : decode cX3_isUp 0 = .ok (.aload_n 0, 1) := by decide +kernel
theorem dX3_isUp_1 : decode cX3_isUp 1 = .ok (.iload_n 1, 1) := by decide +kernel
theorem dX3_isUp_2 : decode cX3_isUp 2 = .ok (.invokevirtual 92, 3) := by decide +kernel
theorem dX3_isUp_5 : decode cX3_isUp 5 = .ok (.ifCond .eq 27, 3) := by decide +kernel
theorem dX3_isUp_32 : decode cX3_isUp 32 = .ok (.iconst 0, 1) := by decide +kernel
theorem dX3_isUp_33 : decode cX3_isUp 33 = .ok (.ireturn, 1) := by decide +kernel
theorem dX3_isUp_8 : decode cX3_isUp 8 = .ok (.aload_n 0, 1) := by decide +kernel
theorem dX3_isUp_9 : decode cX3_isUp 9 = .ok (.getfield 35, 3) := by decide +kernel
theorem dX3_isUp_12 : decode cX3_isUp 12 = .ok (.iload_n 1, 1) := by decide +kernel
theorem dX3_isUp_13 : decode cX3_isUp 13 = .ok (.iaload, 1) := by decide +kernel
theorem dX3_isUp_14 : decode cX3_isUp 14 = .ok (.iconst 1, 1) := by decide +kernel
theorem dX3_isUp_28 : decode cX3_isUp 28 = .ok (.iconst 1, 1) := by decide +kernel
theorem dX3_isUp_29 : decode cX3_isUp 29 = .ok (.goto 4, 3) := by decide +kernel
theorem dX3_isUp_15 : decode cX3_isUp 15 = .ok (.if_icmp .eq 13, 3) := by decide +kernel
theorem dX3_isUp_18 : decode cX3_isUp 18 = .ok (.aload_n 0, 1) := by decide +kernel
theorem dX3_isUp_19 : decode cX3_isUp 19 = .ok (.getfield 35, 3) := by decide +kernel
theorem dX3_isUp_22 : decode cX3_isUp 22 = .ok (.iload_n 1, 1) := by decide +kernel
theorem dX3_isUp_23 : decode cX3_isUp 23 = .ok (.iaload, 1) := by decide +kernel
theorem dX3_isUp_24 : decode cX3_isUp 24 = .ok (.iconst 2, 1) := by decide +kernel
theorem dX3_isUp_25 : decode cX3_isUp 25 = .ok (.if_icmp .ne 7, 3) := by decide +kernel
theorem dX3_isAtHand_0 : decode cX3_isAtHand 0 = .ok (.aload_n 0, 1) := by decide +kernel
theorem dX3_isAtHand_1 : decode cX3_isAtHand 1 = .ok (.iload_n 1, 1) := by decide +kernel
theorem dX3_isAtHand_2 : decode cX3_isAtHand 2 = .ok (.invokevirtual 92, 3) := by decide +kernel
theorem dX3_isAtHand_5 : decode cX3_isAtHand 5 = .ok (.ifCond .eq 26, 3) := by decide +kernel
theorem dX3_isAtHand_31 : decode cX3_isAtHand 31 = .ok (.iconst 0, 1) := by decide +kernel
theorem dX3_isAtHand_32 : decode cX3_isAtHand 32 = .ok (.ireturn, 1) := by decide +kernel
theorem dX3_isAtHand_8 : decode cX3_isAtHand 8 = .ok (.aload_n 0, 1) := by decide +kernel
theorem dX3_isAtHand_9 : decode cX3_isAtHand 9 = .ok (.getfield 35, 3) := by decide +kernel
theorem dX3_isAtHand_12 : decode cX3_isAtHand 12 = .ok (.iload_n 1, 1) := by decide +kernel
theorem dX3_isAtHand_13 : decode cX3_isAtHand 13 = .ok (.iaload, 1) := by decide +kernel
theorem dX3_isAtHand_27 : decode cX3_isAtHand 27 = .ok (.iconst 1, 1) := by decide +kernel
theorem dX3_isAtHand_28 : decode cX3_isAtHand 28 = .ok (.goto 4, 3) := by decide +kernel
theorem dX3_isAtHand_14 : decode cX3_isAtHand 14 = .ok (.ifCond .eq 13, 3) := by decide +kernel
theorem dX3_isAtHand_17 : decode cX3_isAtHand 17 = .ok (.aload_n 0, 1) := by decide +kernel
theorem dX3_isAtHand_18 : decode cX3_isAtHand 18 = .ok (.getfield 35, 3) := by decide +kernel
theorem dX3_isAtHand_21 : decode cX3_isAtHand 21 = .ok (.iload_n 1, 1) := by decide +kernel
theorem dX3_isAtHand_22 : decode cX3_isAtHand 22 = .ok (.iaload, 1) := by decide +kernel
theorem dX3_isAtHand_23 : decode cX3_isAtHand 23 = .ok (.iconst 2, 1) := by decide +kernel
theorem dX3_isAtHand_24 : decode cX3_isAtHand 24 = .ok (.if_icmp .ne 7, 3) := by decide +kernel
theorem dX3_guestAt_0 : decode cX3_guestAt 0 = .ok (.iconst 0, 1) := by decide +kernel
theorem dX3_guestAt_1 : decode cX3_guestAt 1 = .ok (.istore_n 2, 1) := by decide +kernel
theorem dX3_guestAt_2 : decode cX3_guestAt 2 = .ok (.iload_n 2, 1) := by decide +kernel
theorem dX3_guestAt_3 : decode cX3_guestAt 3 = .ok (.aload_n 0, 1) := by decide +kernel
theorem dX3_guestAt_4 : decode cX3_guestAt 4 = .ok (.getfield 59, 3) := by decide +kernel
theorem dX3_guestAt_7 : decode cX3_guestAt 7 = .ok (.if_icmp .ge 31, 3) := by decide +kernel
theorem dX3_guestAt_10 : decode cX3_guestAt 10 = .ok (.aload_n 0, 1) := by decide +kernel
theorem dX3_guestAt_11 : decode cX3_guestAt 11 = .ok (.getfield 35, 3) := by decide +kernel
theorem dX3_guestAt_14 : decode cX3_guestAt 14 = .ok (.iload_n 2, 1) := by decide +kernel
theorem dX3_guestAt_15 : decode cX3_guestAt 15 = .ok (.iaload, 1) := by decide +kernel
theorem dX3_guestAt_16 : decode cX3_guestAt 16 = .ok (.iconst 2, 1) := by decide +kernel
theorem dX3_guestAt_32 : decode cX3_guestAt 32 = .ok (.iinc 2 1, 3) := by decide +kernel
theorem dX3_guestAt_35 : decode cX3_guestAt 35 = .ok (.goto (-33), 3) := by decide +kernel
theorem dX3_guestAt_17 : decode cX3_guestAt 17 = .ok (.if_icmp .ne 15, 3) := by decide +kernel
theorem dX3_guestAt_20 : decode cX3_guestAt 20 = .ok (.aload_n 0, 1) := by decide +kernel
theorem dX3_guestAt_21 : decode cX3_guestAt 21 = .ok (.getfield 38, 3) := by decide +kernel
theorem dX3_guestAt_24 : decode cX3_guestAt 24 = .ok (.iload_n 2, 1) := by decide +kernel
theorem dX3_guestAt_25 : decode cX3_guestAt 25 = .ok (.iaload, 1) := by decide +kernel
theorem dX3_guestAt_26 : decode cX3_guestAt 26 = .ok (.iload_n 1, 1) := by decide +kernel
theorem dX3_guestAt_27 : decode cX3_guestAt 27 = .ok (.if_icmp .ne 5, 3) := by decide +kernel
theorem dX3_guestAt_30 : decode cX3_guestAt 30 = .ok (.iload_n 2, 1) := by decide +kernel
theorem dX3_guestAt_31 : decode cX3_guestAt 31 = .ok (.ireturn, 1) := by decide +kernel
theorem dX3_guestAt_38 : decode cX3_guestAt 38 = .ok (.iconst (-1), 1) := by decide +kernel
theorem dX3_guestAt_39 : decode cX3_guestAt 39 = .ok (.ireturn, 1) := by decide +kernel
theorem dX3_those_0 : decode cX3_those 0 = .ok (.iconst 0, 1) := by decide +kernel
theorem dX3_those_1 : decode cX3_those 1 = .ok (.istore_n 2, 1) := by decide +kernel
theorem dX3_those_2 : decode cX3_those 2 = .ok (.iconst 0, 1) := by decide +kernel
theorem dX3_those_3 : decode cX3_those 3 = .ok (.istore_n 3, 1) := by decide +kernel
theorem dX3_those_4 : decode cX3_those 4 = .ok (.iload_n 3, 1) := by decide +kernel
theorem dX3_those_5 : decode cX3_those 5 = .ok (.aload_n 0, 1) := by decide +kernel
theorem dX3_those_6 : decode cX3_those 6 = .ok (.getfield 59, 3) := by decide +kernel
theorem dX3_those_9 : decode cX3_those 9 = .ok (.if_icmp .ge 29, 3) := by decide +kernel
theorem dX3_those_12 : decode cX3_those 12 = .ok (.iload_n 2, 1) := by decide +kernel
theorem dX3_those_13 : decode cX3_those 13 = .ok (.aload_n 0, 1) := by decide +kernel
theorem dX3_those_14 : decode cX3_those 14 = .ok (.getfield 35, 3) := by decide +kernel
theorem dX3_those_17 : decode cX3_those 17 = .ok (.iload_n 3, 1) := by decide +kernel
theorem dX3_those_18 : decode cX3_those 18 = .ok (.iaload, 1) := by decide +kernel
theorem dX3_those_19 : decode cX3_those 19 = .ok (.iload_n 1, 1) := by decide +kernel
theorem dX3_those_30 : decode cX3_those 30 = .ok (.ior, 1) := by decide +kernel
theorem dX3_those_31 : decode cX3_those 31 = .ok (.istore_n 2, 1) := by decide +kernel
theorem dX3_those_32 : decode cX3_those 32 = .ok (.iinc 3 1, 3) := by decide +kernel
theorem dX3_those_35 : decode cX3_those 35 = .ok (.goto (-31), 3) := by decide +kernel
theorem dX3_those_20 : decode cX3_those 20 = .ok (.if_icmp .ne 9, 3) := by decide +kernel
theorem dX3_those_29 : decode cX3_those 29 = .ok (.iconst 0, 1) := by decide +kernel
theorem dX3_those_23 : decode cX3_those 23 = .ok (.iconst 1, 1) := by decide +kernel
theorem dX3_those_24 : decode cX3_those 24 = .ok (.iload_n 3, 1) := by decide +kernel
theorem dX3_those_25 : decode cX3_those 25 = .ok (.ishl, 1) := by decide +kernel
theorem dX3_those_26 : decode cX3_those 26 = .ok (.goto 4, 3) := by decide +kernel
theorem dX3_those_38 : decode cX3_those 38 = .ok (.iload_n 2, 1) := by decide +kernel
theorem dX3_those_39 : decode cX3_those 39 = .ok (.ireturn, 1) := by decide +kernel
theorem dX3_areMoored_0 : decode cX3_areMoored 0 = .ok (.aload_n 0, 1) := by decide +kernel
theorem dX3_areMoored_1 : decode cX3_areMoored 1 = .ok (.iload_n 1, 1) := by decide +kernel
theorem dX3_areMoored_2 : decode cX3_areMoored 2 = .ok (.invokevirtual 92, 3) := by decide +kernel
theorem dX3_areMoored_5 : decode cX3_areMoored 5 = .ok (.ifCond .eq 35, 3) := by decide +kernel
theorem dX3_areMoored_40 : decode cX3_areMoored 40 = .ok (.iconst 0, 1) := by decide +kernel
theorem dX3_areMoored_41 : decode cX3_areMoored 41 = .ok (.ireturn, 1) := by decide +kernel
theorem dX3_areMoored_8 : decode cX3_areMoored 8 = .ok (.aload_n 0, 1) := by decide +kernel
theorem dX3_areMoored_9 : decode cX3_areMoored 9 = .ok (.iload_n 2, 1) := by decide +kernel
theorem dX3_areMoored_10 : decode cX3_areMoored 10 = .ok (.invokevirtual 92, 3) := by decide +kernel
theorem dX3_areMoored_13 : decode cX3_areMoored 13 = .ok (.ifCond .eq 27, 3) := by decide +kernel
theorem dX3_areMoored_16 : decode cX3_areMoored 16 = .ok (.aload_n 0, 1) := by decide +kernel
theorem dX3_areMoored_17 : decode cX3_areMoored 17 = .ok (.getfield 35, 3) := by decide +kernel
theorem dX3_areMoored_20 : decode cX3_areMoored 20 = .ok (.iload_n 1, 1) := by decide +kernel
theorem dX3_areMoored_21 : decode cX3_areMoored 21 = .ok (.iaload, 1) := by decide +kernel
theorem dX3_areMoored_22 : decode cX3_areMoored 22 = .ok (.iconst 2, 1) := by decide +kernel
theorem dX3_areMoored_23 : decode cX3_areMoored 23 = .ok (.if_icmp .ne 17, 3) := by decide +kernel
theorem dX3_areMoored_26 : decode cX3_areMoored 26 = .ok (.aload_n 0, 1) := by decide +kernel
theorem dX3_areMoored_27 : decode cX3_areMoored 27 = .ok (.getfield 35, 3) := by decide +kernel
theorem dX3_areMoored_30 : decode cX3_areMoored 30 = .ok (.iload_n 2, 1) := by decide +kernel
theorem dX3_areMoored_31 : decode cX3_areMoored 31 = .ok (.iaload, 1) := by decide +kernel
theorem dX3_areMoored_32 : decode cX3_areMoored 32 = .ok (.iconst 2, 1) := by decide +kernel
theorem dX3_areMoored_33 : decode cX3_areMoored 33 = .ok (.if_icmp .ne 7, 3) := by decide +kernel
theorem dX3_areMoored_36 : decode cX3_areMoored 36 = .ok (.iconst 1, 1) := by decide +kernel
theorem dX3_areMoored_37 : decode cX3_areMoored 37 = .ok (.goto 4, 3) := by decide +kernel
theorem dX9_areNear_0 : decode cX9_areNear 0 = .ok (.aload_n 0, 1) := by decide +kernel
theorem dX9_areNear_1 : decode cX9_areNear 1 = .ok (.iload_n 1, 1) := by decide +kernel
theorem dX9_areNear_2 : decode cX9_areNear 2 = .ok (.invokevirtual 55, 3) := by decide +kernel
theorem dX9_areNear_5 : decode cX9_areNear 5 = .ok (.ifCond .eq 29, 3) := by decide +kernel
theorem dX9_areNear_34 : decode cX9_areNear 34 = .ok (.iconst 0, 1) := by decide +kernel
theorem dX9_areNear_35 : decode cX9_areNear 35 = .ok (.ireturn, 1) := by decide +kernel
theorem dX9_areNear_8 : decode cX9_areNear 8 = .ok (.aload_n 0, 1) := by decide +kernel
theorem dX9_areNear_9 : decode cX9_areNear 9 = .ok (.iload_n 2, 1) := by decide +kernel
theorem dX9_areNear_10 : decode cX9_areNear 10 = .ok (.invokevirtual 55, 3) := by decide +kernel
theorem dX9_areNear_13 : decode cX9_areNear 13 = .ok (.ifCond .eq 21, 3) := by decide +kernel
theorem dX9_areNear_16 : decode cX9_areNear 16 = .ok (.aload_n 0, 1) := by decide +kernel
theorem dX9_areNear_17 : decode cX9_areNear 17 = .ok (.getfield 21, 3) := by decide +kernel
theorem dX9_areNear_20 : decode cX9_areNear 20 = .ok (.iload_n 1, 1) := by decide +kernel
theorem dX9_areNear_21 : decode cX9_areNear 21 = .ok (.iaload, 1) := by decide +kernel
theorem dX9_areNear_22 : decode cX9_areNear 22 = .ok (.iload_n 2, 1) := by decide +kernel
theorem dX9_areNear_23 : decode cX9_areNear 23 = .ok (.ishr, 1) := by decide +kernel
theorem dX9_areNear_24 : decode cX9_areNear 24 = .ok (.iconst 1, 1) := by decide +kernel
theorem dX9_areNear_25 : decode cX9_areNear 25 = .ok (.iand, 1) := by decide +kernel
theorem dX9_areNear_26 : decode cX9_areNear 26 = .ok (.iconst 1, 1) := by decide +kernel
theorem dX9_areNear_27 : decode cX9_areNear 27 = .ok (.if_icmp .ne 7, 3) := by decide +kernel
theorem dX9_areNear_30 : decode cX9_areNear 30 = .ok (.iconst 1, 1) := by decide +kernel
theorem dX9_areNear_31 : decode cX9_areNear 31 = .ok (.goto 4, 3) := by decide +kernel
theorem dX3_doTouch_0 : decode cX3_doTouch 0 = .ok (.iload_n 1, 1) := by decide +kernel
theorem dX3_doTouch_1 : decode cX3_doTouch 1 = .ok (.iload_n 2, 1) := by decide +kernel
theorem dX3_doTouch_2 : decode cX3_doTouch 2 = .ok (.if_icmp .eq 38, 3) := by decide +kernel
theorem dX3_doTouch_40 : decode cX3_doTouch 40 = .ok (.iconst 0, 1) := by decide +kernel
theorem dX3_doTouch_41 : decode cX3_doTouch 41 = .ok (.ireturn, 1) := by decide +kernel
theorem dX3_doTouch_5 : decode cX3_doTouch 5 = .ok (.aload_n 0, 1) := by decide +kernel
theorem dX3_doTouch_6 : decode cX3_doTouch 6 = .ok (.iload_n 1, 1) := by decide +kernel
theorem dX3_doTouch_7 : decode cX3_doTouch 7 = .ok (.iload_n 2, 1) := by decide +kernel
theorem dX3_doTouch_8 : decode cX3_doTouch 8 = .ok (.invokevirtual 112, 3) := by decide +kernel
theorem dX3_doTouch_11 : decode cX3_doTouch 11 = .ok (.ifCond .eq 29, 3) := by decide +kernel
theorem dX3_doTouch_14 : decode cX3_doTouch 14 = .ok (.aload_n 0, 1) := by decide +kernel
theorem dX3_doTouch_15 : decode cX3_doTouch 15 = .ok (.getfield 47, 3) := by decide +kernel
theorem dX3_doTouch_18 : decode cX3_doTouch 18 = .ok (.aload_n 0, 1) := by decide +kernel
theorem dX3_doTouch_19 : decode cX3_doTouch 19 = .ok (.getfield 38, 3) := by decide +kernel
theorem dX3_doTouch_22 : decode cX3_doTouch 22 = .ok (.iload_n 1, 1) := by decide +kernel
theorem dX3_doTouch_23 : decode cX3_doTouch 23 = .ok (.iaload, 1) := by decide +kernel
theorem dX3_doTouch_24 : decode cX3_doTouch 24 = .ok (.aload_n 0, 1) := by decide +kernel
theorem dX3_doTouch_25 : decode cX3_doTouch 25 = .ok (.getfield 38, 3) := by decide +kernel
theorem dX3_doTouch_28 : decode cX3_doTouch 28 = .ok (.iload_n 2, 1) := by decide +kernel
theorem dX3_doTouch_29 : decode cX3_doTouch 29 = .ok (.iaload, 1) := by decide +kernel
theorem dX3_doTouch_30 : decode cX3_doTouch 30 = .ok (.invokevirtual 116, 3) := by decide +kernel
theorem dX3_doTouch_33 : decode cX3_doTouch 33 = .ok (.ifCond .eq 7, 3) := by decide +kernel
theorem dX3_doTouch_36 : decode cX3_doTouch 36 = .ok (.iconst 1, 1) := by decide +kernel
theorem dX3_doTouch_37 : decode cX3_doTouch 37 = .ok (.goto 4, 3) := by decide +kernel
theorem dX9_isLower_0 : decode cX9_isLower 0 = .ok (.aload_n 0, 1) := by decide +kernel
theorem dX9_isLower_1 : decode cX9_isLower 1 = .ok (.iload_n 1, 1) := by decide +kernel
theorem dX9_isLower_2 : decode cX9_isLower 2 = .ok (.invokevirtual 55, 3) := by decide +kernel
theorem dX9_isLower_5 : decode cX9_isLower 5 = .ok (.ifCond .eq 29, 3) := by decide +kernel
theorem dX9_isLower_34 : decode cX9_isLower 34 = .ok (.iconst 0, 1) := by decide +kernel
theorem dX9_isLower_35 : decode cX9_isLower 35 = .ok (.ireturn, 1) := by decide +kernel
theorem dX9_isLower_8 : decode cX9_isLower 8 = .ok (.aload_n 0, 1) := by decide +kernel
theorem dX9_isLower_9 : decode cX9_isLower 9 = .ok (.iload_n 2, 1) := by decide +kernel
theorem dX9_isLower_10 : decode cX9_isLower 10 = .ok (.invokevirtual 55, 3) := by decide +kernel
theorem dX9_isLower_13 : decode cX9_isLower 13 = .ok (.ifCond .eq 21, 3) := by decide +kernel
theorem dX9_isLower_16 : decode cX9_isLower 16 = .ok (.aload_n 0, 1) := by decide +kernel
theorem dX9_isLower_17 : decode cX9_isLower 17 = .ok (.getfield 24, 3) := by decide +kernel
theorem dX9_isLower_20 : decode cX9_isLower 20 = .ok (.iload_n 1, 1) := by decide +kernel
theorem dX9_isLower_21 : decode cX9_isLower 21 = .ok (.iaload, 1) := by decide +kernel
theorem dX9_isLower_22 : decode cX9_isLower 22 = .ok (.iload_n 2, 1) := by decide +kernel
theorem dX9_isLower_23 : decode cX9_isLower 23 = .ok (.ishr, 1) := by decide +kernel
theorem dX9_isLower_24 : decode cX9_isLower 24 = .ok (.iconst 1, 1) := by decide +kernel
theorem dX9_isLower_25 : decode cX9_isLower 25 = .ok (.iand, 1) := by decide +kernel
theorem dX9_isLower_26 : decode cX9_isLower 26 = .ok (.iconst 1, 1) := by decide +kernel
theorem dX9_isLower_27 : decode cX9_isLower 27 = .ok (.if_icmp .ne 7, 3) := by decide +kernel
theorem dX9_isLower_30 : decode cX9_isLower 30 = .ok (.iconst 1, 1) := by decide +kernel
theorem dX9_isLower_31 : decode cX9_isLower 31 = .ok (.goto 4, 3) := by decide +kernel
theorem dX3_doesBreach_0 : decode cX3_doesBreach 0 = .ok (.aload_n 0, 1) := by decide +kernel
theorem dX3_doesBreach_1 : decode cX3_doesBreach 1 = .ok (.iload_n 1, 1) := by decide +kernel
theorem dX3_doesBreach_2 : decode cX3_doesBreach 2 = .ok (.iload_n 2, 1) := by decide +kernel
theorem dX3_doesBreach_3 : decode cX3_doesBreach 3 = .ok (.invokevirtual 112, 3) := by decide +kernel
theorem dX3_doesBreach_6 : decode cX3_doesBreach 6 = .ok (.ifCond .eq 42, 3) := by decide +kernel
theorem dX3_doesBreach_48 : decode cX3_doesBreach 48 = .ok (.iconst 0, 1) := by decide +kernel
theorem dX3_doesBreach_49 : decode cX3_doesBreach 49 = .ok (.ireturn, 1) := by decide +kernel
theorem dX3_doesBreach_9 : decode cX3_doesBreach 9 = .ok (.aload_n 0, 1) := by decide +kernel
theorem dX3_doesBreach_10 : decode cX3_doesBreach 10 = .ok (.getfield 47, 3) := by decide +kernel
theorem dX3_doesBreach_13 : decode cX3_doesBreach 13 = .ok (.aload_n 0, 1) := by decide +kernel
theorem dX3_doesBreach_14 : decode cX3_doesBreach 14 = .ok (.getfield 38, 3) := by decide +kernel
theorem dX3_doesBreach_17 : decode cX3_doesBreach 17 = .ok (.iload_n 1, 1) := by decide +kernel
theorem dX3_doesBreach_18 : decode cX3_doesBreach 18 = .ok (.iaload, 1) := by decide +kernel
theorem dX3_doesBreach_19 : decode cX3_doesBreach 19 = .ok (.aload_n 0, 1) := by decide +kernel
theorem dX3_doesBreach_20 : decode cX3_doesBreach 20 = .ok (.getfield 38, 3) := by decide +kernel
theorem dX3_doesBreach_23 : decode cX3_doesBreach 23 = .ok (.iload_n 2, 1) := by decide +kernel
theorem dX3_doesBreach_24 : decode cX3_doesBreach 24 = .ok (.iaload, 1) := by decide +kernel
theorem dX3_doesBreach_25 : decode cX3_doesBreach 25 = .ok (.invokevirtual 121, 3) := by decide +kernel
theorem dX3_doesBreach_28 : decode cX3_doesBreach 28 = .ok (.ifCond .eq 20, 3) := by decide +kernel
theorem dX3_doesBreach_31 : decode cX3_doesBreach 31 = .ok (.aload_n 0, 1) := by decide +kernel
theorem dX3_doesBreach_32 : decode cX3_doesBreach 32 = .ok (.iload_n 1, 1) := by decide +kernel
theorem dX3_doesBreach_33 : decode cX3_doesBreach 33 = .ok (.invokevirtual 124, 3) := by decide +kernel
theorem dX3_doesBreach_36 : decode cX3_doesBreach 36 = .ok (.aload_n 0, 1) := by decide +kernel
theorem dX3_doesBreach_37 : decode cX3_doesBreach 37 = .ok (.iload_n 2, 1) := by decide +kernel
theorem dX3_doesBreach_38 : decode cX3_doesBreach 38 = .ok (.invokevirtual 124, 3) := by decide +kernel
theorem dX3_doesBreach_41 : decode cX3_doesBreach 41 = .ok (.if_icmp .le 7, 3) := by decide +kernel
theorem dX3_doesBreach_44 : decode cX3_doesBreach 44 = .ok (.iconst 1, 1) := by decide +kernel
theorem dX3_doesBreach_45 : decode cX3_doesBreach 45 = .ok (.goto 4, 3) := by decide +kernel
theorem dX3_setLoose_0 : decode cX3_setLoose 0 = .ok (.aload_n 0, 1) := by decide +kernel
theorem dX3_setLoose_1 : decode cX3_setLoose 1 = .ok (.iload_n 1, 1) := by decide +kernel
theorem dX3_setLoose_2 : decode cX3_setLoose 2 = .ok (.invokevirtual 92, 3) := by decide +kernel
theorem dX3_setLoose_5 : decode cX3_setLoose 5 = .ok (.ifCond .eq 24, 3) := by decide +kernel
theorem dX3_setLoose_29 : decode cX3_setLoose 29 = .ok (.return_, 1) := by decide +kernel
theorem dX3_setLoose_8 : decode cX3_setLoose 8 = .ok (.aload_n 0, 1) := by decide +kernel
theorem dX3_setLoose_9 : decode cX3_setLoose 9 = .ok (.getfield 35, 3) := by decide +kernel
theorem dX3_setLoose_12 : decode cX3_setLoose 12 = .ok (.iload_n 1, 1) := by decide +kernel
theorem dX3_setLoose_13 : decode cX3_setLoose 13 = .ok (.iconst 1, 1) := by decide +kernel
theorem dX3_setLoose_14 : decode cX3_setLoose 14 = .ok (.iastore, 1) := by decide +kernel
theorem dX3_setLoose_15 : decode cX3_setLoose 15 = .ok (.aload_n 0, 1) := by decide +kernel
theorem dX3_setLoose_16 : decode cX3_setLoose 16 = .ok (.getfield 41, 3) := by decide +kernel
theorem dX3_setLoose_19 : decode cX3_setLoose 19 = .ok (.iload_n 1, 1) := by decide +kernel
theorem dX3_setLoose_20 : decode cX3_setLoose 20 = .ok (.iconst 0, 1) := by decide +kernel
theorem dX3_setLoose_21 : decode cX3_setLoose 21 = .ok (.iastore, 1) := by decide +kernel
theorem dX3_setLoose_22 : decode cX3_setLoose 22 = .ok (.aload_n 0, 1) := by decide +kernel
theorem dX3_setLoose_23 : decode cX3_setLoose 23 = .ok (.getfield 44, 3) := by decide +kernel
theorem dX3_setLoose_26 : decode cX3_setLoose 26 = .ok (.iload_n 1, 1) := by decide +kernel
theorem dX3_setLoose_27 : decode cX3_setLoose 27 = .ok (.iconst 0, 1) := by decide +kernel
theorem dX3_setLoose_28 : decode cX3_setLoose 28 = .ok (.iastore, 1) := by decide +kernel
theorem dX11_highBy_0 : decode cX11_highBy 0 = .ok (.iconst 0, 1) := by decide +kernel
theorem dX11_highBy_1 : decode cX11_highBy 1 = .ok (.bipush 9, 2) := by decide +kernel
theorem dX11_highBy_3 : decode cX11_highBy 3 = .ok (.iload_n 0, 1) := by decide +kernel
theorem dX11_highBy_4 : decode cX11_highBy 4 = .ok (.bipush 10, 2) := by decide +kernel
theorem dX11_highBy_6 : decode cX11_highBy 6 = .ok (.idiv, 1) := by decide +kernel
theorem dX11_highBy_7 : decode cX11_highBy 7 = .ok (.invokestatic 202, 3) := by decide +kernel
theorem dX11_highBy_10 : decode cX11_highBy 10 = .ok (.invokestatic 207, 3) := by decide +kernel
theorem dX11_highBy_13 : decode cX11_highBy 13 = .ok (.ireturn, 1) := by decide +kernel
theorem dX11_isOver_0 : decode cX11_isOver 0 = .ok (.iload_n 0, 1) := by decide +kernel
theorem dX11_isOver_1 : decode cX11_isOver 1 = .ok (.bipush 9, 2) := by decide +kernel
theorem dX11_isOver_24 : decode cX11_isOver 24 = .ok (.iconst 1, 1) := by decide +kernel
theorem dX11_isOver_25 : decode cX11_isOver 25 = .ok (.goto 4, 3) := by decide +kernel
theorem dX11_isOver_29 : decode cX11_isOver 29 = .ok (.ireturn, 1) := by decide +kernel
theorem dX11_isOver_3 : decode cX11_isOver 3 = .ok (.if_icmp .gt 21, 3) := by decide +kernel
theorem dX11_isOver_6 : decode cX11_isOver 6 = .ok (.iload_n 0, 1) := by decide +kernel
theorem dX11_isOver_7 : decode cX11_isOver 7 = .ok (.bipush (-9), 2) := by decide +kernel
theorem dX11_isOver_9 : decode cX11_isOver 9 = .ok (.if_icmp .lt 15, 3) := by decide +kernel
theorem dX11_isOver_12 : decode cX11_isOver 12 = .ok (.iload_n 1, 1) := by decide +kernel
theorem dX11_isOver_13 : decode cX11_isOver 13 = .ok (.bipush 9, 2) := by decide +kernel
theorem dX11_isOver_15 : decode cX11_isOver 15 = .ok (.if_icmp .gt 9, 3) := by decide +kernel
theorem dX11_isOver_18 : decode cX11_isOver 18 = .ok (.iload_n 1, 1) := by decide +kernel
theorem dX11_isOver_19 : decode cX11_isOver 19 = .ok (.bipush (-9), 2) := by decide +kernel
theorem dX11_isOver_21 : decode cX11_isOver 21 = .ok (.if_icmp .ge 7, 3) := by decide +kernel
theorem dX11_isOver_28 : decode cX11_isOver 28 = .ok (.iconst 0, 1) := by decide +kernel
theorem dX3_lose_0 : decode cX3_lose 0 = .ok (.aload_n 0, 1) := by decide +kernel
theorem dX3_lose_1 : decode cX3_lose 1 = .ok (.getfield 35, 3) := by decide +kernel
theorem dX3_lose_4 : decode cX3_lose 4 = .ok (.iload_n 1, 1) := by decide +kernel
theorem dX3_lose_5 : decode cX3_lose 5 = .ok (.iconst 3, 1) := by decide +kernel
theorem dX3_lose_6 : decode cX3_lose 6 = .ok (.iastore, 1) := by decide +kernel
theorem dX3_lose_7 : decode cX3_lose 7 = .ok (.aload_n 0, 1) := by decide +kernel
theorem dX3_lose_8 : decode cX3_lose 8 = .ok (.dup, 1) := by decide +kernel
theorem dX3_lose_9 : decode cX3_lose 9 = .ok (.getfield 130, 3) := by decide +kernel
theorem dX3_lose_12 : decode cX3_lose 12 = .ok (.iconst 1, 1) := by decide +kernel
theorem dX3_lose_13 : decode cX3_lose 13 = .ok (.iload_n 1, 1) := by decide +kernel
theorem dX3_lose_14 : decode cX3_lose 14 = .ok (.ishl, 1) := by decide +kernel
theorem dX3_lose_15 : decode cX3_lose 15 = .ok (.ior, 1) := by decide +kernel
theorem dX3_lose_16 : decode cX3_lose 16 = .ok (.putfield 130, 3) := by decide +kernel
theorem dX3_lose_19 : decode cX3_lose 19 = .ok (.return_, 1) := by decide +kernel
theorem dX3_driftAll_0 : decode cX3_driftAll 0 = .ok (.iconst 0, 1) := by decide +kernel
theorem dX3_driftAll_1 : decode cX3_driftAll 1 = .ok (.istore_n 1, 1) := by decide +kernel
theorem dX3_driftAll_2 : decode cX3_driftAll 2 = .ok (.iload_n 1, 1) := by decide +kernel
theorem dX3_driftAll_3 : decode cX3_driftAll 3 = .ok (.aload_n 0, 1) := by decide +kernel
theorem dX3_driftAll_4 : decode cX3_driftAll 4 = .ok (.getfield 59, 3) := by decide +kernel
theorem dX3_driftAll_7 : decode cX3_driftAll 7 = .ok (.if_icmp .ge 87, 3) := by decide +kernel
theorem dX3_driftAll_10 : decode cX3_driftAll 10 = .ok (.aload_n 0, 1) := by decide +kernel
theorem dX3_driftAll_11 : decode cX3_driftAll 11 = .ok (.getfield 35, 3) := by decide +kernel
theorem dX3_driftAll_14 : decode cX3_driftAll 14 = .ok (.iload_n 1, 1) := by decide +kernel
theorem dX3_driftAll_15 : decode cX3_driftAll 15 = .ok (.iaload, 1) := by decide +kernel
theorem dX3_driftAll_16 : decode cX3_driftAll 16 = .ok (.iconst 1, 1) := by decide +kernel
theorem dX3_driftAll_88 : decode cX3_driftAll 88 = .ok (.iinc 1 1, 3) := by decide +kernel
theorem dX3_driftAll_91 : decode cX3_driftAll 91 = .ok (.goto (-89), 3) := by decide +kernel
theorem dX3_driftAll_17 : decode cX3_driftAll 17 = .ok (.if_icmp .ne 71, 3) := by decide +kernel
theorem dX3_driftAll_20 : decode cX3_driftAll 20 = .ok (.aload_n 0, 1) := by decide +kernel
theorem dX3_driftAll_21 : decode cX3_driftAll 21 = .ok (.iload_n 1, 1) := by decide +kernel
theorem dX3_driftAll_22 : decode cX3_driftAll 22 = .ok (.invokevirtual 145, 3) := by decide +kernel
theorem dX3_driftAll_25 : decode cX3_driftAll 25 = .ok (.invokestatic 148, 3) := by decide +kernel
theorem dX3_driftAll_28 : decode cX3_driftAll 28 = .ok (.istore_n 2, 1) := by decide +kernel
theorem dX3_driftAll_29 : decode cX3_driftAll 29 = .ok (.aload_n 0, 1) := by decide +kernel
theorem dX3_driftAll_30 : decode cX3_driftAll 30 = .ok (.getfield 41, 3) := by decide +kernel
theorem dX3_driftAll_33 : decode cX3_driftAll 33 = .ok (.iload_n 1, 1) := by decide +kernel
theorem dX3_driftAll_34 : decode cX3_driftAll 34 = .ok (.dup2, 1) := by decide +kernel
theorem dX3_driftAll_35 : decode cX3_driftAll 35 = .ok (.iaload, 1) := by decide +kernel
theorem dX3_driftAll_36 : decode cX3_driftAll 36 = .ok (.aload_n 0, 1) := by decide +kernel
theorem dX3_driftAll_37 : decode cX3_driftAll 37 = .ok (.getfield 51, 3) := by decide +kernel
theorem dX3_driftAll_40 : decode cX3_driftAll 40 = .ok (.getfield 151, 3) := by decide +kernel
theorem dX3_driftAll_43 : decode cX3_driftAll 43 = .ok (.iload_n 2, 1) := by decide +kernel
theorem dX3_driftAll_44 : decode cX3_driftAll 44 = .ok (.iaload, 1) := by decide +kernel
theorem dX3_driftAll_45 : decode cX3_driftAll 45 = .ok (.iadd, 1) := by decide +kernel
theorem dX3_driftAll_46 : decode cX3_driftAll 46 = .ok (.iastore, 1) := by decide +kernel
theorem dX3_driftAll_47 : decode cX3_driftAll 47 = .ok (.aload_n 0, 1) := by decide +kernel
theorem dX3_driftAll_48 : decode cX3_driftAll 48 = .ok (.getfield 44, 3) := by decide +kernel
theorem dX3_driftAll_51 : decode cX3_driftAll 51 = .ok (.iload_n 1, 1) := by decide +kernel
theorem dX3_driftAll_52 : decode cX3_driftAll 52 = .ok (.dup2, 1) := by decide +kernel
theorem dX3_driftAll_53 : decode cX3_driftAll 53 = .ok (.iaload, 1) := by decide +kernel
theorem dX3_driftAll_54 : decode cX3_driftAll 54 = .ok (.aload_n 0, 1) := by decide +kernel
theorem dX3_driftAll_55 : decode cX3_driftAll 55 = .ok (.getfield 51, 3) := by decide +kernel
theorem dX3_driftAll_58 : decode cX3_driftAll 58 = .ok (.getfield 156, 3) := by decide +kernel
theorem dX3_driftAll_61 : decode cX3_driftAll 61 = .ok (.iload_n 2, 1) := by decide +kernel
theorem dX3_driftAll_62 : decode cX3_driftAll 62 = .ok (.iaload, 1) := by decide +kernel
theorem dX3_driftAll_63 : decode cX3_driftAll 63 = .ok (.iadd, 1) := by decide +kernel
theorem dX3_driftAll_64 : decode cX3_driftAll 64 = .ok (.iastore, 1) := by decide +kernel
theorem dX3_driftAll_65 : decode cX3_driftAll 65 = .ok (.aload_n 0, 1) := by decide +kernel
theorem dX3_driftAll_66 : decode cX3_driftAll 66 = .ok (.getfield 41, 3) := by decide +kernel
theorem dX3_driftAll_69 : decode cX3_driftAll 69 = .ok (.iload_n 1, 1) := by decide +kernel
theorem dX3_driftAll_70 : decode cX3_driftAll 70 = .ok (.iaload, 1) := by decide +kernel
theorem dX3_driftAll_71 : decode cX3_driftAll 71 = .ok (.aload_n 0, 1) := by decide +kernel
theorem dX3_driftAll_72 : decode cX3_driftAll 72 = .ok (.getfield 44, 3) := by decide +kernel
theorem dX3_driftAll_75 : decode cX3_driftAll 75 = .ok (.iload_n 1, 1) := by decide +kernel
theorem dX3_driftAll_76 : decode cX3_driftAll 76 = .ok (.iaload, 1) := by decide +kernel
theorem dX3_driftAll_77 : decode cX3_driftAll 77 = .ok (.invokestatic 159, 3) := by decide +kernel
theorem dX3_driftAll_80 : decode cX3_driftAll 80 = .ok (.ifCond .eq 8, 3) := by decide +kernel
theorem dX3_driftAll_83 : decode cX3_driftAll 83 = .ok (.aload_n 0, 1) := by decide +kernel
theorem dX3_driftAll_84 : decode cX3_driftAll 84 = .ok (.iload_n 1, 1) := by decide +kernel
theorem dX3_driftAll_85 : decode cX3_driftAll 85 = .ok (.invokevirtual 162, 3) := by decide +kernel
theorem dX3_driftAll_94 : decode cX3_driftAll 94 = .ok (.return_, 1) := by decide +kernel
theorem dX3_leakAll_0 : decode cX3_leakAll 0 = .ok (.iconst 0, 1) := by decide +kernel
theorem dX3_leakAll_1 : decode cX3_leakAll 1 = .ok (.istore_n 1, 1) := by decide +kernel
theorem dX3_leakAll_2 : decode cX3_leakAll 2 = .ok (.iload_n 1, 1) := by decide +kernel
theorem dX3_leakAll_3 : decode cX3_leakAll 3 = .ok (.aload_n 0, 1) := by decide +kernel
theorem dX3_leakAll_4 : decode cX3_leakAll 4 = .ok (.getfield 59, 3) := by decide +kernel
theorem dX3_leakAll_7 : decode cX3_leakAll 7 = .ok (.if_icmp .ge 40, 3) := by decide +kernel
theorem dX3_leakAll_10 : decode cX3_leakAll 10 = .ok (.aload_n 0, 1) := by decide +kernel
theorem dX3_leakAll_11 : decode cX3_leakAll 11 = .ok (.iload_n 1, 1) := by decide +kernel
theorem dX3_leakAll_12 : decode cX3_leakAll 12 = .ok (.invokevirtual 166, 3) := by decide +kernel
theorem dX3_leakAll_41 : decode cX3_leakAll 41 = .ok (.iinc 1 1, 3) := by decide +kernel
theorem dX3_leakAll_44 : decode cX3_leakAll 44 = .ok (.goto (-42), 3) := by decide +kernel
theorem dX3_leakAll_15 : decode cX3_leakAll 15 = .ok (.ifCond .eq 26, 3) := by decide +kernel
theorem dX3_leakAll_18 : decode cX3_leakAll 18 = .ok (.aload_n 0, 1) := by decide +kernel
theorem dX3_leakAll_19 : decode cX3_leakAll 19 = .ok (.getfield 20, 3) := by decide +kernel
theorem dX3_leakAll_22 : decode cX3_leakAll 22 = .ok (.iload_n 1, 1) := by decide +kernel
theorem dX3_leakAll_23 : decode cX3_leakAll 23 = .ok (.iconst 0, 1) := by decide +kernel
theorem dX3_leakAll_24 : decode cX3_leakAll 24 = .ok (.aload_n 0, 1) := by decide +kernel
theorem dX3_leakAll_25 : decode cX3_leakAll 25 = .ok (.getfield 20, 3) := by decide +kernel
theorem dX3_leakAll_28 : decode cX3_leakAll 28 = .ok (.iload_n 1, 1) := by decide +kernel
theorem dX3_leakAll_29 : decode cX3_leakAll 29 = .ok (.iaload, 1) := by decide +kernel
theorem dX3_leakAll_30 : decode cX3_leakAll 30 = .ok (.aload_n 0, 1) := by decide +kernel
theorem dX3_leakAll_31 : decode cX3_leakAll 31 = .ok (.getfield 32, 3) := by decide +kernel
theorem dX3_leakAll_34 : decode cX3_leakAll 34 = .ok (.iload_n 1, 1) := by decide +kernel
theorem dX3_leakAll_35 : decode cX3_leakAll 35 = .ok (.iaload, 1) := by decide +kernel
theorem dX3_leakAll_36 : decode cX3_leakAll 36 = .ok (.isub, 1) := by decide +kernel
theorem dX3_leakAll_37 : decode cX3_leakAll 37 = .ok (.invokestatic 169, 3) := by decide +kernel
theorem dX3_leakAll_40 : decode cX3_leakAll 40 = .ok (.iastore, 1) := by decide +kernel
theorem dX3_leakAll_47 : decode cX3_leakAll 47 = .ok (.return_, 1) := by decide +kernel
theorem dX3_tearAll_0 : decode cX3_tearAll 0 = .ok (.iconst 0, 1) := by decide +kernel
theorem dX3_tearAll_1 : decode cX3_tearAll 1 = .ok (.istore_n 1, 1) := by decide +kernel
theorem dX3_tearAll_2 : decode cX3_tearAll 2 = .ok (.iload_n 1, 1) := by decide +kernel
theorem dX3_tearAll_3 : decode cX3_tearAll 3 = .ok (.aload_n 0, 1) := by decide +kernel
theorem dX3_tearAll_4 : decode cX3_tearAll 4 = .ok (.getfield 59, 3) := by decide +kernel
theorem dX3_tearAll_7 : decode cX3_tearAll 7 = .ok (.if_icmp .ge 52, 3) := by decide +kernel
theorem dX3_tearAll_10 : decode cX3_tearAll 10 = .ok (.iconst 0, 1) := by decide +kernel
theorem dX3_tearAll_11 : decode cX3_tearAll 11 = .ok (.istore_n 2, 1) := by decide +kernel
theorem dX3_tearAll_12 : decode cX3_tearAll 12 = .ok (.iload_n 2, 1) := by decide +kernel
theorem dX3_tearAll_13 : decode cX3_tearAll 13 = .ok (.aload_n 0, 1) := by decide +kernel
theorem dX3_tearAll_14 : decode cX3_tearAll 14 = .ok (.getfield 59, 3) := by decide +kernel
theorem dX3_tearAll_17 : decode cX3_tearAll 17 = .ok (.if_icmp .ge 36, 3) := by decide +kernel
theorem dX3_tearAll_20 : decode cX3_tearAll 20 = .ok (.aload_n 0, 1) := by decide +kernel
theorem dX3_tearAll_21 : decode cX3_tearAll 21 = .ok (.iload_n 1, 1) := by decide +kernel
theorem dX3_tearAll_22 : decode cX3_tearAll 22 = .ok (.iload_n 2, 1) := by decide +kernel
theorem dX3_tearAll_23 : decode cX3_tearAll 23 = .ok (.invokevirtual 172, 3) := by decide +kernel
theorem dX3_tearAll_47 : decode cX3_tearAll 47 = .ok (.iinc 2 1, 3) := by decide +kernel
theorem dX3_tearAll_50 : decode cX3_tearAll 50 = .ok (.goto (-38), 3) := by decide +kernel
theorem dX3_tearAll_26 : decode cX3_tearAll 26 = .ok (.ifCond .eq 21, 3) := by decide +kernel
theorem dX3_tearAll_29 : decode cX3_tearAll 29 = .ok (.aload_n 0, 1) := by decide +kernel
theorem dX3_tearAll_30 : decode cX3_tearAll 30 = .ok (.getfield 20, 3) := by decide +kernel
theorem dX3_tearAll_33 : decode cX3_tearAll 33 = .ok (.iload_n 1, 1) := by decide +kernel
theorem dX3_tearAll_34 : decode cX3_tearAll 34 = .ok (.iconst 0, 1) := by decide +kernel
theorem dX3_tearAll_35 : decode cX3_tearAll 35 = .ok (.aload_n 0, 1) := by decide +kernel
theorem dX3_tearAll_36 : decode cX3_tearAll 36 = .ok (.getfield 20, 3) := by decide +kernel
theorem dX3_tearAll_39 : decode cX3_tearAll 39 = .ok (.iload_n 1, 1) := by decide +kernel
theorem dX3_tearAll_40 : decode cX3_tearAll 40 = .ok (.iaload, 1) := by decide +kernel
theorem dX3_tearAll_41 : decode cX3_tearAll 41 = .ok (.iconst 1, 1) := by decide +kernel
theorem dX3_tearAll_42 : decode cX3_tearAll 42 = .ok (.isub, 1) := by decide +kernel
theorem dX3_tearAll_43 : decode cX3_tearAll 43 = .ok (.invokestatic 169, 3) := by decide +kernel
theorem dX3_tearAll_46 : decode cX3_tearAll 46 = .ok (.iastore, 1) := by decide +kernel
theorem dX3_tearAll_53 : decode cX3_tearAll 53 = .ok (.iinc 1 1, 3) := by decide +kernel
theorem dX3_tearAll_56 : decode cX3_tearAll 56 = .ok (.goto (-54), 3) := by decide +kernel
theorem dX3_tearAll_59 : decode cX3_tearAll 59 = .ok (.return_, 1) := by decide +kernel
theorem dX3_sinkAll_0 : decode cX3_sinkAll 0 = .ok (.iconst 0, 1) := by decide +kernel
theorem dX3_sinkAll_1 : decode cX3_sinkAll 1 = .ok (.istore_n 1, 1) := by decide +kernel
theorem dX3_sinkAll_2 : decode cX3_sinkAll 2 = .ok (.iload_n 1, 1) := by decide +kernel
theorem dX3_sinkAll_3 : decode cX3_sinkAll 3 = .ok (.aload_n 0, 1) := by decide +kernel
theorem dX3_sinkAll_4 : decode cX3_sinkAll 4 = .ok (.getfield 59, 3) := by decide +kernel
theorem dX3_sinkAll_7 : decode cX3_sinkAll 7 = .ok (.if_icmp .ge 71, 3) := by decide +kernel
theorem dX3_sinkAll_10 : decode cX3_sinkAll 10 = .ok (.aload_n 0, 1) := by decide +kernel
theorem dX3_sinkAll_11 : decode cX3_sinkAll 11 = .ok (.iload_n 1, 1) := by decide +kernel
theorem dX3_sinkAll_12 : decode cX3_sinkAll 12 = .ok (.invokevirtual 166, 3) := by decide +kernel
theorem dX3_sinkAll_72 : decode cX3_sinkAll 72 = .ok (.iinc 1 1, 3) := by decide +kernel
theorem dX3_sinkAll_75 : decode cX3_sinkAll 75 = .ok (.goto (-73), 3) := by decide +kernel
theorem dX3_sinkAll_15 : decode cX3_sinkAll 15 = .ok (.ifCond .eq 57, 3) := by decide +kernel
theorem dX3_sinkAll_18 : decode cX3_sinkAll 18 = .ok (.aload_n 0, 1) := by decide +kernel
theorem dX3_sinkAll_19 : decode cX3_sinkAll 19 = .ok (.iload_n 1, 1) := by decide +kernel
theorem dX3_sinkAll_20 : decode cX3_sinkAll 20 = .ok (.invokevirtual 145, 3) := by decide +kernel
theorem dX3_sinkAll_23 : decode cX3_sinkAll 23 = .ok (.ifCond .ge 49, 3) := by decide +kernel
theorem dX3_sinkAll_26 : decode cX3_sinkAll 26 = .ok (.aload_n 0, 1) := by decide +kernel
theorem dX3_sinkAll_27 : decode cX3_sinkAll 27 = .ok (.getfield 35, 3) := by decide +kernel
theorem dX3_sinkAll_30 : decode cX3_sinkAll 30 = .ok (.iload_n 1, 1) := by decide +kernel
theorem dX3_sinkAll_31 : decode cX3_sinkAll 31 = .ok (.iaload, 1) := by decide +kernel
theorem dX3_sinkAll_32 : decode cX3_sinkAll 32 = .ok (.iconst 1, 1) := by decide +kernel
theorem dX3_sinkAll_53 : decode cX3_sinkAll 53 = .ok (.aload_n 0, 1) := by decide +kernel
theorem dX3_sinkAll_54 : decode cX3_sinkAll 54 = .ok (.getfield 35, 3) := by decide +kernel
theorem dX3_sinkAll_57 : decode cX3_sinkAll 57 = .ok (.iload_n 1, 1) := by decide +kernel
theorem dX3_sinkAll_58 : decode cX3_sinkAll 58 = .ok (.iconst 0, 1) := by decide +kernel
theorem dX3_sinkAll_59 : decode cX3_sinkAll 59 = .ok (.iastore, 1) := by decide +kernel
theorem dX3_sinkAll_60 : decode cX3_sinkAll 60 = .ok (.aload_n 0, 1) := by decide +kernel
theorem dX3_sinkAll_61 : decode cX3_sinkAll 61 = .ok (.dup, 1) := by decide +kernel
theorem dX3_sinkAll_62 : decode cX3_sinkAll 62 = .ok (.getfield 127, 3) := by decide +kernel
theorem dX3_sinkAll_65 : decode cX3_sinkAll 65 = .ok (.iconst 1, 1) := by decide +kernel
theorem dX3_sinkAll_66 : decode cX3_sinkAll 66 = .ok (.iload_n 1, 1) := by decide +kernel
theorem dX3_sinkAll_67 : decode cX3_sinkAll 67 = .ok (.ishl, 1) := by decide +kernel
theorem dX3_sinkAll_68 : decode cX3_sinkAll 68 = .ok (.ior, 1) := by decide +kernel
theorem dX3_sinkAll_69 : decode cX3_sinkAll 69 = .ok (.putfield 127, 3) := by decide +kernel
theorem dX3_sinkAll_33 : decode cX3_sinkAll 33 = .ok (.if_icmp .ne 20, 3) := by decide +kernel
theorem dX3_sinkAll_36 : decode cX3_sinkAll 36 = .ok (.aload_n 0, 1) := by decide +kernel
theorem dX3_sinkAll_37 : decode cX3_sinkAll 37 = .ok (.iload_n 1, 1) := by decide +kernel
theorem dX3_sinkAll_38 : decode cX3_sinkAll 38 = .ok (.invokevirtual 175, 3) := by decide +kernel
theorem dX3_sinkAll_41 : decode cX3_sinkAll 41 = .ok (.iconst 2, 1) := by decide +kernel
theorem dX3_sinkAll_42 : decode cX3_sinkAll 42 = .ok (.if_icmp .le 11, 3) := by decide +kernel
theorem dX3_sinkAll_45 : decode cX3_sinkAll 45 = .ok (.aload_n 0, 1) := by decide +kernel
theorem dX3_sinkAll_46 : decode cX3_sinkAll 46 = .ok (.iload_n 1, 1) := by decide +kernel
theorem dX3_sinkAll_47 : decode cX3_sinkAll 47 = .ok (.invokevirtual 162, 3) := by decide +kernel
theorem dX3_sinkAll_50 : decode cX3_sinkAll 50 = .ok (.goto 22, 3) := by decide +kernel
theorem dX3_sinkAll_78 : decode cX3_sinkAll 78 = .ok (.return_, 1) := by decide +kernel
theorem dX3_passHours_0 : decode cX3_passHours 0 = .ok (.aload_n 0, 1) := by decide +kernel
theorem dX3_passHours_1 : decode cX3_passHours 1 = .ok (.iconst 0, 1) := by decide +kernel
theorem dX3_passHours_2 : decode cX3_passHours 2 = .ok (.putfield 127, 3) := by decide +kernel
theorem dX3_passHours_5 : decode cX3_passHours 5 = .ok (.aload_n 0, 1) := by decide +kernel
theorem dX3_passHours_6 : decode cX3_passHours 6 = .ok (.iconst 0, 1) := by decide +kernel
theorem dX3_passHours_7 : decode cX3_passHours 7 = .ok (.putfield 130, 3) := by decide +kernel
theorem dX3_passHours_10 : decode cX3_passHours 10 = .ok (.iconst 0, 1) := by decide +kernel
theorem dX3_passHours_11 : decode cX3_passHours 11 = .ok (.istore_n 2, 1) := by decide +kernel
theorem dX3_passHours_12 : decode cX3_passHours 12 = .ok (.iload_n 2, 1) := by decide +kernel
theorem dX3_passHours_13 : decode cX3_passHours 13 = .ok (.iload_n 1, 1) := by decide +kernel
theorem dX3_passHours_14 : decode cX3_passHours 14 = .ok (.if_icmp .ge 35, 3) := by decide +kernel
theorem dX3_passHours_17 : decode cX3_passHours 17 = .ok (.aload_n 0, 1) := by decide +kernel
theorem dX3_passHours_18 : decode cX3_passHours 18 = .ok (.invokevirtual 133, 3) := by decide +kernel
theorem dX3_passHours_21 : decode cX3_passHours 21 = .ok (.aload_n 0, 1) := by decide +kernel
theorem dX3_passHours_22 : decode cX3_passHours 22 = .ok (.invokevirtual 136, 3) := by decide +kernel
theorem dX3_passHours_25 : decode cX3_passHours 25 = .ok (.aload_n 0, 1) := by decide +kernel
theorem dX3_passHours_26 : decode cX3_passHours 26 = .ok (.invokevirtual 139, 3) := by decide +kernel
theorem dX3_passHours_29 : decode cX3_passHours 29 = .ok (.aload_n 0, 1) := by decide +kernel
theorem dX3_passHours_30 : decode cX3_passHours 30 = .ok (.dup, 1) := by decide +kernel
theorem dX3_passHours_31 : decode cX3_passHours 31 = .ok (.getfield 63, 3) := by decide +kernel
theorem dX3_passHours_34 : decode cX3_passHours 34 = .ok (.iconst 1, 1) := by decide +kernel
theorem dX3_passHours_35 : decode cX3_passHours 35 = .ok (.iadd, 1) := by decide +kernel
theorem dX3_passHours_36 : decode cX3_passHours 36 = .ok (.putfield 63, 3) := by decide +kernel
theorem dX3_passHours_39 : decode cX3_passHours 39 = .ok (.aload_n 0, 1) := by decide +kernel
theorem dX3_passHours_40 : decode cX3_passHours 40 = .ok (.invokevirtual 142, 3) := by decide +kernel
theorem dX3_passHours_43 : decode cX3_passHours 43 = .ok (.iinc 2 1, 3) := by decide +kernel
theorem dX3_passHours_46 : decode cX3_passHours 46 = .ok (.goto (-34), 3) := by decide +kernel
theorem dX3_passHours_49 : decode cX3_passHours 49 = .ok (.aload_n 0, 1) := by decide +kernel
theorem dX3_passHours_50 : decode cX3_passHours 50 = .ok (.getfield 63, 3) := by decide +kernel
theorem dX3_passHours_53 : decode cX3_passHours 53 = .ok (.ireturn, 1) := by decide +kernel
theorem dX3_foresee_0 : decode cX3_foresee 0 = .ok (.aload_n 0, 1) := by decide +kernel
theorem dX3_foresee_1 : decode cX3_foresee 1 = .ok (.iload_n 1, 1) := by decide +kernel
theorem dX3_foresee_2 : decode cX3_foresee 2 = .ok (.invokevirtual 92, 3) := by decide +kernel
theorem dX3_foresee_5 : decode cX3_foresee 5 = .ok (.ifCond .eq 44, 3) := by decide +kernel
theorem dX3_foresee_49 : decode cX3_foresee 49 = .ok (.return_, 1) := by decide +kernel
theorem dX3_foresee_8 : decode cX3_foresee 8 = .ok (.iconst 0, 1) := by decide +kernel
theorem dX3_foresee_9 : decode cX3_foresee 9 = .ok (.istore_n 2, 1) := by decide +kernel
theorem dX3_foresee_10 : decode cX3_foresee 10 = .ok (.iload_n 2, 1) := by decide +kernel
theorem dX3_foresee_11 : decode cX3_foresee 11 = .ok (.bipush 8, 2) := by decide +kernel
theorem dX3_foresee_13 : decode cX3_foresee 13 = .ok (.if_icmp .ge 36, 3) := by decide +kernel
theorem dX3_foresee_16 : decode cX3_foresee 16 = .ok (.aload_n 0, 1) := by decide +kernel
theorem dX3_foresee_17 : decode cX3_foresee 17 = .ok (.getfield 17, 3) := by decide +kernel
theorem dX3_foresee_20 : decode cX3_foresee 20 = .ok (.iload_n 2, 1) := by decide +kernel
theorem dX3_foresee_21 : decode cX3_foresee 21 = .ok (.aload_n 0, 1) := by decide +kernel
theorem dX3_foresee_22 : decode cX3_foresee 22 = .ok (.iload_n 1, 1) := by decide +kernel
theorem dX3_foresee_23 : decode cX3_foresee 23 = .ok (.aload_n 0, 1) := by decide +kernel
theorem dX3_foresee_24 : decode cX3_foresee 24 = .ok (.getfield 20, 3) := by decide +kernel
theorem dX3_foresee_27 : decode cX3_foresee 27 = .ok (.iload_n 1, 1) := by decide +kernel
theorem dX3_foresee_28 : decode cX3_foresee 28 = .ok (.iaload, 1) := by decide +kernel
theorem dX3_foresee_29 : decode cX3_foresee 29 = .ok (.aload_n 0, 1) := by decide +kernel
theorem dX3_foresee_30 : decode cX3_foresee 30 = .ok (.getfield 23, 3) := by decide +kernel
theorem dX3_foresee_33 : decode cX3_foresee 33 = .ok (.iload_n 1, 1) := by decide +kernel
theorem dX3_foresee_34 : decode cX3_foresee 34 = .ok (.iaload, 1) := by decide +kernel
theorem dX3_foresee_35 : decode cX3_foresee 35 = .ok (.iload_n 2, 1) := by decide +kernel
theorem dX3_foresee_36 : decode cX3_foresee 36 = .ok (.invokevirtual 95, 3) := by decide +kernel
theorem dX3_foresee_39 : decode cX3_foresee 39 = .ok (.invokestatic 148, 3) := by decide +kernel
theorem dX3_foresee_42 : decode cX3_foresee 42 = .ok (.iastore, 1) := by decide +kernel
theorem dX3_foresee_43 : decode cX3_foresee 43 = .ok (.iinc 2 1, 3) := by decide +kernel
theorem dX3_foresee_46 : decode cX3_foresee 46 = .ok (.goto (-36), 3) := by decide +kernel
theorem dX3_staysNear_0 : decode cX3_staysNear 0 = .ok (.aload_n 0, 1) := by decide +kernel
theorem dX3_staysNear_1 : decode cX3_staysNear 1 = .ok (.iload_n 1, 1) := by decide +kernel
theorem dX3_staysNear_2 : decode cX3_staysNear 2 = .ok (.invokevirtual 92, 3) := by decide +kernel
theorem dX3_staysNear_5 : decode cX3_staysNear 5 = .ok (.ifCond .ne 5, 3) := by decide +kernel
theorem dX3_staysNear_10 : decode cX3_staysNear 10 = .ok (.aload_n 0, 1) := by decide +kernel
theorem dX3_staysNear_11 : decode cX3_staysNear 11 = .ok (.getfield 41, 3) := by decide +kernel
theorem dX3_staysNear_14 : decode cX3_staysNear 14 = .ok (.iload_n 1, 1) := by decide +kernel
theorem dX3_staysNear_15 : decode cX3_staysNear 15 = .ok (.iaload, 1) := by decide +kernel
theorem dX3_staysNear_16 : decode cX3_staysNear 16 = .ok (.istore 5, 2) := by decide +kernel
theorem dX3_staysNear_18 : decode cX3_staysNear 18 = .ok (.aload_n 0, 1) := by decide +kernel
theorem dX3_staysNear_19 : decode cX3_staysNear 19 = .ok (.getfield 44, 3) := by decide +kernel
theorem dX3_staysNear_22 : decode cX3_staysNear 22 = .ok (.iload_n 1, 1) := by decide +kernel
theorem dX3_staysNear_23 : decode cX3_staysNear 23 = .ok (.iaload, 1) := by decide +kernel
theorem dX3_staysNear_24 : decode cX3_staysNear 24 = .ok (.istore 6, 2) := by decide +kernel
theorem dX3_staysNear_26 : decode cX3_staysNear 26 = .ok (.iconst 0, 1) := by decide +kernel
theorem dX3_staysNear_27 : decode cX3_staysNear 27 = .ok (.istore 7, 2) := by decide +kernel
theorem dX3_staysNear_29 : decode cX3_staysNear 29 = .ok (.iload 7, 2) := by decide +kernel
theorem dX3_staysNear_31 : decode cX3_staysNear 31 = .ok (.iload_n 2, 1) := by decide +kernel
theorem dX3_staysNear_32 : decode cX3_staysNear 32 = .ok (.if_icmp .ge 78, 3) := by decide +kernel
theorem dX3_staysNear_35 : decode cX3_staysNear 35 = .ok (.iload 7, 2) := by decide +kernel
theorem dX3_staysNear_37 : decode cX3_staysNear 37 = .ok (.bipush 8, 2) := by decide +kernel
theorem dX3_staysNear_39 : decode cX3_staysNear 39 = .ok (.if_icmp .ge 71, 3) := by decide +kernel
theorem dX3_staysNear_42 : decode cX3_staysNear 42 = .ok (.iload_n 3, 1) := by decide +kernel
theorem dX3_staysNear_43 : decode cX3_staysNear 43 = .ok (.iload 7, 2) := by decide +kernel
theorem dX3_staysNear_45 : decode cX3_staysNear 45 = .ok (.ishr, 1) := by decide +kernel
theorem dX3_staysNear_46 : decode cX3_staysNear 46 = .ok (.iconst 1, 1) := by decide +kernel
theorem dX3_staysNear_47 : decode cX3_staysNear 47 = .ok (.iand, 1) := by decide +kernel
theorem dX3_staysNear_48 : decode cX3_staysNear 48 = .ok (.iconst 1, 1) := by decide +kernel
theorem dX3_staysNear_92 : decode cX3_staysNear 92 = .ok (.iload 5, 2) := by decide +kernel
theorem dX3_staysNear_94 : decode cX3_staysNear 94 = .ok (.iload 6, 2) := by decide +kernel
theorem dX3_staysNear_96 : decode cX3_staysNear 96 = .ok (.invokestatic 159, 3) := by decide +kernel
theorem dX3_staysNear_99 : decode cX3_staysNear 99 = .ok (.ifCond .eq 5, 3) := by decide +kernel
theorem dX3_staysNear_104 : decode cX3_staysNear 104 = .ok (.iinc 7 1, 3) := by decide +kernel
theorem dX3_staysNear_107 : decode cX3_staysNear 107 = .ok (.goto (-78), 3) := by decide +kernel
theorem dX3_staysNear_102 : decode cX3_staysNear 102 = .ok (.iconst 0, 1) := by decide +kernel
theorem dX3_staysNear_103 : decode cX3_staysNear 103 = .ok (.ireturn, 1) := by decide +kernel
theorem dX3_staysNear_49 : decode cX3_staysNear 49 = .ok (.if_icmp .ne 43, 3) := by decide +kernel
theorem dX3_staysNear_52 : decode cX3_staysNear 52 = .ok (.iload 5, 2) := by decide +kernel
theorem dX3_staysNear_54 : decode cX3_staysNear 54 = .ok (.aload_n 0, 1) := by decide +kernel
theorem dX3_staysNear_55 : decode cX3_staysNear 55 = .ok (.getfield 51, 3) := by decide +kernel
theorem dX3_staysNear_58 : decode cX3_staysNear 58 = .ok (.getfield 151, 3) := by decide +kernel
theorem dX3_staysNear_61 : decode cX3_staysNear 61 = .ok (.aload_n 0, 1) := by decide +kernel
theorem dX3_staysNear_62 : decode cX3_staysNear 62 = .ok (.getfield 17, 3) := by decide +kernel
theorem dX3_staysNear_65 : decode cX3_staysNear 65 = .ok (.iload 7, 2) := by decide +kernel
theorem dX3_staysNear_67 : decode cX3_staysNear 67 = .ok (.iaload, 1) := by decide +kernel
theorem dX3_staysNear_68 : decode cX3_staysNear 68 = .ok (.iaload, 1) := by decide +kernel
theorem dX3_staysNear_69 : decode cX3_staysNear 69 = .ok (.iadd, 1) := by decide +kernel
theorem dX3_staysNear_70 : decode cX3_staysNear 70 = .ok (.istore 5, 2) := by decide +kernel
theorem dX3_staysNear_72 : decode cX3_staysNear 72 = .ok (.iload 6, 2) := by decide +kernel
theorem dX3_staysNear_74 : decode cX3_staysNear 74 = .ok (.aload_n 0, 1) := by decide +kernel
theorem dX3_staysNear_75 : decode cX3_staysNear 75 = .ok (.getfield 51, 3) := by decide +kernel
theorem dX3_staysNear_78 : decode cX3_staysNear 78 = .ok (.getfield 156, 3) := by decide +kernel
theorem dX3_staysNear_81 : decode cX3_staysNear 81 = .ok (.aload_n 0, 1) := by decide +kernel
theorem dX3_staysNear_82 : decode cX3_staysNear 82 = .ok (.getfield 17, 3) := by decide +kernel
theorem dX3_staysNear_85 : decode cX3_staysNear 85 = .ok (.iload 7, 2) := by decide +kernel
theorem dX3_staysNear_87 : decode cX3_staysNear 87 = .ok (.iaload, 1) := by decide +kernel
theorem dX3_staysNear_88 : decode cX3_staysNear 88 = .ok (.iaload, 1) := by decide +kernel
theorem dX3_staysNear_89 : decode cX3_staysNear 89 = .ok (.iadd, 1) := by decide +kernel
theorem dX3_staysNear_90 : decode cX3_staysNear 90 = .ok (.istore 6, 2) := by decide +kernel
theorem dX3_staysNear_110 : decode cX3_staysNear 110 = .ok (.iload 5, 2) := by decide +kernel
theorem dX3_staysNear_112 : decode cX3_staysNear 112 = .ok (.invokestatic 106, 3) := by decide +kernel
theorem dX3_staysNear_115 : decode cX3_staysNear 115 = .ok (.iload 6, 2) := by decide +kernel
theorem dX3_staysNear_117 : decode cX3_staysNear 117 = .ok (.invokestatic 106, 3) := by decide +kernel
theorem dX3_staysNear_120 : decode cX3_staysNear 120 = .ok (.iadd, 1) := by decide +kernel
theorem dX3_staysNear_121 : decode cX3_staysNear 121 = .ok (.iload 4, 2) := by decide +kernel
theorem dX3_staysNear_123 : decode cX3_staysNear 123 = .ok (.if_icmp .gt 7, 3) := by decide +kernel
theorem dX3_staysNear_130 : decode cX3_staysNear 130 = .ok (.iconst 0, 1) := by decide +kernel
theorem dX3_staysNear_131 : decode cX3_staysNear 131 = .ok (.ireturn, 1) := by decide +kernel
theorem dX3_staysNear_126 : decode cX3_staysNear 126 = .ok (.iconst 1, 1) := by decide +kernel
theorem dX3_staysNear_127 : decode cX3_staysNear 127 = .ok (.goto 4, 3) := by decide +kernel
theorem dX3_staysNear_8 : decode cX3_staysNear 8 = .ok (.iconst 0, 1) := by decide +kernel
theorem dX3_staysNear_9 : decode cX3_staysNear 9 = .ok (.ireturn, 1) := by decide +kernel
theorem dX3_become_0 : decode cX3_become 0 = .ok (.aload_n 0, 1) := by decide +kernel
theorem dX3_become_1 : decode cX3_become 1 = .ok (.aload_n 1, 1) := by decide +kernel
theorem dX3_become_2 : decode cX3_become 2 = .ok (.getfield 59, 3) := by decide +kernel
theorem dX3_become_5 : decode cX3_become 5 = .ok (.putfield 59, 3) := by decide +kernel
theorem dX3_become_8 : decode cX3_become 8 = .ok (.aload_n 0, 1) := by decide +kernel
theorem dX3_become_9 : decode cX3_become 9 = .ok (.aload_n 1, 1) := by decide +kernel
theorem dX3_become_10 : decode cX3_become 10 = .ok (.getfield 63, 3) := by decide +kernel
theorem dX3_become_13 : decode cX3_become 13 = .ok (.putfield 63, 3) := by decide +kernel
theorem dX3_become_16 : decode cX3_become 16 = .ok (.aload_n 0, 1) := by decide +kernel
theorem dX3_become_17 : decode cX3_become 17 = .ok (.aload_n 1, 1) := by decide +kernel
theorem dX3_become_18 : decode cX3_become 18 = .ok (.getfield 99, 3) := by decide +kernel
theorem dX3_become_21 : decode cX3_become 21 = .ok (.putfield 99, 3) := by decide +kernel
theorem dX3_become_24 : decode cX3_become 24 = .ok (.iconst 0, 1) := by decide +kernel
theorem dX3_become_25 : decode cX3_become 25 = .ok (.istore_n 2, 1) := by decide +kernel
theorem dX3_become_26 : decode cX3_become 26 = .ok (.iload_n 2, 1) := by decide +kernel
theorem dX3_become_27 : decode cX3_become 27 = .ok (.aload_n 0, 1) := by decide +kernel
theorem dX3_become_28 : decode cX3_become 28 = .ok (.getfield 59, 3) := by decide +kernel
theorem dX3_become_31 : decode cX3_become 31 = .ok (.if_icmp .ge 117, 3) := by decide +kernel
theorem dX3_become_34 : decode cX3_become 34 = .ok (.aload_n 0, 1) := by decide +kernel
theorem dX3_become_35 : decode cX3_become 35 = .ok (.getfield 20, 3) := by decide +kernel
theorem dX3_become_38 : decode cX3_become 38 = .ok (.iload_n 2, 1) := by decide +kernel
theorem dX3_become_39 : decode cX3_become 39 = .ok (.aload_n 1, 1) := by decide +kernel
theorem dX3_become_40 : decode cX3_become 40 = .ok (.getfield 20, 3) := by decide +kernel
theorem dX3_become_43 : decode cX3_become 43 = .ok (.iload_n 2, 1) := by decide +kernel
theorem dX3_become_44 : decode cX3_become 44 = .ok (.iaload, 1) := by decide +kernel
theorem dX3_become_45 : decode cX3_become 45 = .ok (.iastore, 1) := by decide +kernel
theorem dX3_become_46 : decode cX3_become 46 = .ok (.aload_n 0, 1) := by decide +kernel
theorem dX3_become_47 : decode cX3_become 47 = .ok (.getfield 23, 3) := by decide +kernel
theorem dX3_become_50 : decode cX3_become 50 = .ok (.iload_n 2, 1) := by decide +kernel
theorem dX3_become_51 : decode cX3_become 51 = .ok (.aload_n 1, 1) := by decide +kernel
theorem dX3_become_52 : decode cX3_become 52 = .ok (.getfield 23, 3) := by decide +kernel
theorem dX3_become_55 : decode cX3_become 55 = .ok (.iload_n 2, 1) := by decide +kernel
theorem dX3_become_56 : decode cX3_become 56 = .ok (.iaload, 1) := by decide +kernel
theorem dX3_become_57 : decode cX3_become 57 = .ok (.iastore, 1) := by decide +kernel
theorem dX3_become_58 : decode cX3_become 58 = .ok (.aload_n 0, 1) := by decide +kernel
theorem dX3_become_59 : decode cX3_become 59 = .ok (.getfield 26, 3) := by decide +kernel
theorem dX3_become_62 : decode cX3_become 62 = .ok (.iload_n 2, 1) := by decide +kernel
theorem dX3_become_63 : decode cX3_become 63 = .ok (.aload_n 1, 1) := by decide +kernel
theorem dX3_become_64 : decode cX3_become 64 = .ok (.getfield 26, 3) := by decide +kernel
theorem dX3_become_67 : decode cX3_become 67 = .ok (.iload_n 2, 1) := by decide +kernel
theorem dX3_become_68 : decode cX3_become 68 = .ok (.iaload, 1) := by decide +kernel
theorem dX3_become_69 : decode cX3_become 69 = .ok (.iastore, 1) := by decide +kernel
theorem dX3_become_70 : decode cX3_become 70 = .ok (.aload_n 0, 1) := by decide +kernel
theorem dX3_become_71 : decode cX3_become 71 = .ok (.getfield 29, 3) := by decide +kernel
theorem dX3_become_74 : decode cX3_become 74 = .ok (.iload_n 2, 1) := by decide +kernel
theorem dX3_become_75 : decode cX3_become 75 = .ok (.aload_n 1, 1) := by decide +kernel
theorem dX3_become_76 : decode cX3_become 76 = .ok (.getfield 29, 3) := by decide +kernel
theorem dX3_become_79 : decode cX3_become 79 = .ok (.iload_n 2, 1) := by decide +kernel
theorem dX3_become_80 : decode cX3_become 80 = .ok (.iaload, 1) := by decide +kernel
theorem dX3_become_81 : decode cX3_become 81 = .ok (.iastore, 1) := by decide +kernel
theorem dX3_become_82 : decode cX3_become 82 = .ok (.aload_n 0, 1) := by decide +kernel
theorem dX3_become_83 : decode cX3_become 83 = .ok (.getfield 32, 3) := by decide +kernel
theorem dX3_become_86 : decode cX3_become 86 = .ok (.iload_n 2, 1) := by decide +kernel
theorem dX3_become_87 : decode cX3_become 87 = .ok (.aload_n 1, 1) := by decide +kernel
theorem dX3_become_88 : decode cX3_become 88 = .ok (.getfield 32, 3) := by decide +kernel
theorem dX3_become_91 : decode cX3_become 91 = .ok (.iload_n 2, 1) := by decide +kernel
theorem dX3_become_92 : decode cX3_become 92 = .ok (.iaload, 1) := by decide +kernel
theorem dX3_become_93 : decode cX3_become 93 = .ok (.iastore, 1) := by decide +kernel
theorem dX3_become_94 : decode cX3_become 94 = .ok (.aload_n 0, 1) := by decide +kernel
theorem dX3_become_95 : decode cX3_become 95 = .ok (.getfield 35, 3) := by decide +kernel
theorem dX3_become_98 : decode cX3_become 98 = .ok (.iload_n 2, 1) := by decide +kernel
theorem dX3_become_99 : decode cX3_become 99 = .ok (.aload_n 1, 1) := by decide +kernel
theorem dX3_become_100 : decode cX3_become 100 = .ok (.getfield 35, 3) := by decide +kernel
theorem dX3_become_103 : decode cX3_become 103 = .ok (.iload_n 2, 1) := by decide +kernel
theorem dX3_become_104 : decode cX3_become 104 = .ok (.iaload, 1) := by decide +kernel
theorem dX3_become_105 : decode cX3_become 105 = .ok (.iastore, 1) := by decide +kernel
theorem dX3_become_106 : decode cX3_become 106 = .ok (.aload_n 0, 1) := by decide +kernel
theorem dX3_become_107 : decode cX3_become 107 = .ok (.getfield 38, 3) := by decide +kernel
theorem dX3_become_110 : decode cX3_become 110 = .ok (.iload_n 2, 1) := by decide +kernel
theorem dX3_become_111 : decode cX3_become 111 = .ok (.aload_n 1, 1) := by decide +kernel
theorem dX3_become_112 : decode cX3_become 112 = .ok (.getfield 38, 3) := by decide +kernel
theorem dX3_become_115 : decode cX3_become 115 = .ok (.iload_n 2, 1) := by decide +kernel
theorem dX3_become_116 : decode cX3_become 116 = .ok (.iaload, 1) := by decide +kernel
theorem dX3_become_117 : decode cX3_become 117 = .ok (.iastore, 1) := by decide +kernel
theorem dX3_become_118 : decode cX3_become 118 = .ok (.aload_n 0, 1) := by decide +kernel
theorem dX3_become_119 : decode cX3_become 119 = .ok (.getfield 41, 3) := by decide +kernel
theorem dX3_become_122 : decode cX3_become 122 = .ok (.iload_n 2, 1) := by decide +kernel
theorem dX3_become_123 : decode cX3_become 123 = .ok (.aload_n 1, 1) := by decide +kernel
theorem dX3_become_124 : decode cX3_become 124 = .ok (.getfield 41, 3) := by decide +kernel
theorem dX3_become_127 : decode cX3_become 127 = .ok (.iload_n 2, 1) := by decide +kernel
theorem dX3_become_128 : decode cX3_become 128 = .ok (.iaload, 1) := by decide +kernel
theorem dX3_become_129 : decode cX3_become 129 = .ok (.iastore, 1) := by decide +kernel
theorem dX3_become_130 : decode cX3_become 130 = .ok (.aload_n 0, 1) := by decide +kernel
theorem dX3_become_131 : decode cX3_become 131 = .ok (.getfield 44, 3) := by decide +kernel
theorem dX3_become_134 : decode cX3_become 134 = .ok (.iload_n 2, 1) := by decide +kernel
theorem dX3_become_135 : decode cX3_become 135 = .ok (.aload_n 1, 1) := by decide +kernel
theorem dX3_become_136 : decode cX3_become 136 = .ok (.getfield 44, 3) := by decide +kernel
theorem dX3_become_139 : decode cX3_become 139 = .ok (.iload_n 2, 1) := by decide +kernel
theorem dX3_become_140 : decode cX3_become 140 = .ok (.iaload, 1) := by decide +kernel
theorem dX3_become_141 : decode cX3_become 141 = .ok (.iastore, 1) := by decide +kernel
theorem dX3_become_142 : decode cX3_become 142 = .ok (.iinc 2 1, 3) := by decide +kernel
theorem dX3_become_145 : decode cX3_become 145 = .ok (.goto (-119), 3) := by decide +kernel
theorem dX3_become_148 : decode cX3_become 148 = .ok (.return_, 1) := by decide +kernel
theorem dX3_pack_0 : decode cX3_pack 0 = .ok (.iload_n 2, 1) := by decide +kernel
theorem dX3_pack_1 : decode cX3_pack 1 = .ok (.ifCond .lt 12, 3) := by decide +kernel
theorem dX3_pack_13 : decode cX3_pack 13 = .ok (.return_, 1) := by decide +kernel
theorem dX3_pack_4 : decode cX3_pack 4 = .ok (.iload_n 2, 1) := by decide +kernel
theorem dX3_pack_5 : decode cX3_pack 5 = .ok (.aload_n 1, 1) := by decide +kernel
theorem dX3_pack_6 : decode cX3_pack 6 = .ok (.arraylength, 1) := by decide +kernel
theorem dX3_pack_7 : decode cX3_pack 7 = .ok (.bipush 43, 2) := by decide +kernel
theorem dX3_pack_9 : decode cX3_pack 9 = .ok (.isub, 1) := by decide +kernel
theorem dX3_pack_10 : decode cX3_pack 10 = .ok (.if_icmp .le 4, 3) := by decide +kernel
theorem dX3_pack_14 : decode cX3_pack 14 = .ok (.iload_n 2, 1) := by decide +kernel
theorem dX3_pack_15 : decode cX3_pack 15 = .ok (.istore_n 3, 1) := by decide +kernel
theorem dX3_pack_16 : decode cX3_pack 16 = .ok (.iconst 0, 1) := by decide +kernel
theorem dX3_pack_17 : decode cX3_pack 17 = .ok (.istore 4, 2) := by decide +kernel
theorem dX3_pack_19 : decode cX3_pack 19 = .ok (.iload 4, 2) := by decide +kernel
theorem dX3_pack_21 : decode cX3_pack 21 = .ok (.bipush 6, 2) := by decide +kernel
theorem dX3_pack_23 : decode cX3_pack 23 = .ok (.if_icmp .ge 95, 3) := by decide +kernel
theorem dX3_pack_26 : decode cX3_pack 26 = .ok (.aload_n 1, 1) := by decide +kernel
theorem dX3_pack_27 : decode cX3_pack 27 = .ok (.iload_n 3, 1) := by decide +kernel
theorem dX3_pack_28 : decode cX3_pack 28 = .ok (.aload_n 0, 1) := by decide +kernel
theorem dX3_pack_29 : decode cX3_pack 29 = .ok (.getfield 20, 3) := by decide +kernel
theorem dX3_pack_32 : decode cX3_pack 32 = .ok (.iload 4, 2) := by decide +kernel
theorem dX3_pack_34 : decode cX3_pack 34 = .ok (.iaload, 1) := by decide +kernel
theorem dX3_pack_35 : decode cX3_pack 35 = .ok (.iastore, 1) := by decide +kernel
theorem dX3_pack_36 : decode cX3_pack 36 = .ok (.aload_n 1, 1) := by decide +kernel
theorem dX3_pack_37 : decode cX3_pack 37 = .ok (.iload_n 3, 1) := by decide +kernel
theorem dX3_pack_38 : decode cX3_pack 38 = .ok (.iconst 1, 1) := by decide +kernel
theorem dX3_pack_39 : decode cX3_pack 39 = .ok (.iadd, 1) := by decide +kernel
theorem dX3_pack_40 : decode cX3_pack 40 = .ok (.aload_n 0, 1) := by decide +kernel
theorem dX3_pack_41 : decode cX3_pack 41 = .ok (.getfield 23, 3) := by decide +kernel
theorem dX3_pack_44 : decode cX3_pack 44 = .ok (.iload 4, 2) := by decide +kernel
theorem dX3_pack_46 : decode cX3_pack 46 = .ok (.iaload, 1) := by decide +kernel
theorem dX3_pack_47 : decode cX3_pack 47 = .ok (.iastore, 1) := by decide +kernel
theorem dX3_pack_48 : decode cX3_pack 48 = .ok (.aload_n 1, 1) := by decide +kernel
theorem dX3_pack_49 : decode cX3_pack 49 = .ok (.iload_n 3, 1) := by decide +kernel
theorem dX3_pack_50 : decode cX3_pack 50 = .ok (.iconst 2, 1) := by decide +kernel
theorem dX3_pack_51 : decode cX3_pack 51 = .ok (.iadd, 1) := by decide +kernel
theorem dX3_pack_52 : decode cX3_pack 52 = .ok (.aload_n 0, 1) := by decide +kernel
theorem dX3_pack_53 : decode cX3_pack 53 = .ok (.getfield 26, 3) := by decide +kernel
theorem dX3_pack_56 : decode cX3_pack 56 = .ok (.iload 4, 2) := by decide +kernel
theorem dX3_pack_58 : decode cX3_pack 58 = .ok (.iaload, 1) := by decide +kernel
theorem dX3_pack_59 : decode cX3_pack 59 = .ok (.iastore, 1) := by decide +kernel
theorem dX3_pack_60 : decode cX3_pack 60 = .ok (.aload_n 1, 1) := by decide +kernel
theorem dX3_pack_61 : decode cX3_pack 61 = .ok (.iload_n 3, 1) := by decide +kernel
theorem dX3_pack_62 : decode cX3_pack 62 = .ok (.iconst 3, 1) := by decide +kernel
theorem dX3_pack_63 : decode cX3_pack 63 = .ok (.iadd, 1) := by decide +kernel
theorem dX3_pack_64 : decode cX3_pack 64 = .ok (.aload_n 0, 1) := by decide +kernel
theorem dX3_pack_65 : decode cX3_pack 65 = .ok (.getfield 35, 3) := by decide +kernel
theorem dX3_pack_68 : decode cX3_pack 68 = .ok (.iload 4, 2) := by decide +kernel
theorem dX3_pack_70 : decode cX3_pack 70 = .ok (.iaload, 1) := by decide +kernel
theorem dX3_pack_71 : decode cX3_pack 71 = .ok (.iastore, 1) := by decide +kernel
theorem dX3_pack_72 : decode cX3_pack 72 = .ok (.aload_n 1, 1) := by decide +kernel
theorem dX3_pack_73 : decode cX3_pack 73 = .ok (.iload_n 3, 1) := by decide +kernel
theorem dX3_pack_74 : decode cX3_pack 74 = .ok (.iconst 4, 1) := by decide +kernel
theorem dX3_pack_75 : decode cX3_pack 75 = .ok (.iadd, 1) := by decide +kernel
theorem dX3_pack_76 : decode cX3_pack 76 = .ok (.aload_n 0, 1) := by decide +kernel
theorem dX3_pack_77 : decode cX3_pack 77 = .ok (.getfield 38, 3) := by decide +kernel
theorem dX3_pack_80 : decode cX3_pack 80 = .ok (.iload 4, 2) := by decide +kernel
theorem dX3_pack_82 : decode cX3_pack 82 = .ok (.iaload, 1) := by decide +kernel
theorem dX3_pack_83 : decode cX3_pack 83 = .ok (.iastore, 1) := by decide +kernel
theorem dX3_pack_84 : decode cX3_pack 84 = .ok (.aload_n 1, 1) := by decide +kernel
theorem dX3_pack_85 : decode cX3_pack 85 = .ok (.iload_n 3, 1) := by decide +kernel
theorem dX3_pack_86 : decode cX3_pack 86 = .ok (.iconst 5, 1) := by decide +kernel
theorem dX3_pack_87 : decode cX3_pack 87 = .ok (.iadd, 1) := by decide +kernel
theorem dX3_pack_88 : decode cX3_pack 88 = .ok (.aload_n 0, 1) := by decide +kernel
theorem dX3_pack_89 : decode cX3_pack 89 = .ok (.getfield 41, 3) := by decide +kernel
theorem dX3_pack_92 : decode cX3_pack 92 = .ok (.iload 4, 2) := by decide +kernel
theorem dX3_pack_94 : decode cX3_pack 94 = .ok (.iaload, 1) := by decide +kernel
theorem dX3_pack_95 : decode cX3_pack 95 = .ok (.iastore, 1) := by decide +kernel
theorem dX3_pack_96 : decode cX3_pack 96 = .ok (.aload_n 1, 1) := by decide +kernel
theorem dX3_pack_97 : decode cX3_pack 97 = .ok (.iload_n 3, 1) := by decide +kernel
theorem dX3_pack_98 : decode cX3_pack 98 = .ok (.bipush 6, 2) := by decide +kernel
theorem dX3_pack_100 : decode cX3_pack 100 = .ok (.iadd, 1) := by decide +kernel
theorem dX3_pack_101 : decode cX3_pack 101 = .ok (.aload_n 0, 1) := by decide +kernel
theorem dX3_pack_102 : decode cX3_pack 102 = .ok (.getfield 44, 3) := by decide +kernel
theorem dX3_pack_105 : decode cX3_pack 105 = .ok (.iload 4, 2) := by decide +kernel
theorem dX3_pack_107 : decode cX3_pack 107 = .ok (.iaload, 1) := by decide +kernel
theorem dX3_pack_108 : decode cX3_pack 108 = .ok (.iastore, 1) := by decide +kernel
theorem dX3_pack_109 : decode cX3_pack 109 = .ok (.iinc 3 7, 3) := by decide +kernel
theorem dX3_pack_112 : decode cX3_pack 112 = .ok (.iinc 4 1, 3) := by decide +kernel
theorem dX3_pack_115 : decode cX3_pack 115 = .ok (.goto (-96), 3) := by decide +kernel
theorem dX3_pack_118 : decode cX3_pack 118 = .ok (.aload_n 1, 1) := by decide +kernel
theorem dX3_pack_119 : decode cX3_pack 119 = .ok (.iload_n 3, 1) := by decide +kernel
theorem dX3_pack_120 : decode cX3_pack 120 = .ok (.aload_n 0, 1) := by decide +kernel
theorem dX3_pack_121 : decode cX3_pack 121 = .ok (.getfield 63, 3) := by decide +kernel
theorem dX3_pack_124 : decode cX3_pack 124 = .ok (.iastore, 1) := by decide +kernel
theorem dX3_pack_125 : decode cX3_pack 125 = .ok (.return_, 1) := by decide +kernel
theorem dX3_unpack_0 : decode cX3_unpack 0 = .ok (.iload_n 2, 1) := by decide +kernel
theorem dX3_unpack_1 : decode cX3_unpack 1 = .ok (.ifCond .lt 12, 3) := by decide +kernel
theorem dX3_unpack_13 : decode cX3_unpack 13 = .ok (.return_, 1) := by decide +kernel
theorem dX3_unpack_4 : decode cX3_unpack 4 = .ok (.iload_n 2, 1) := by decide +kernel
theorem dX3_unpack_5 : decode cX3_unpack 5 = .ok (.aload_n 1, 1) := by decide +kernel
theorem dX3_unpack_6 : decode cX3_unpack 6 = .ok (.arraylength, 1) := by decide +kernel
theorem dX3_unpack_7 : decode cX3_unpack 7 = .ok (.bipush 43, 2) := by decide +kernel
theorem dX3_unpack_9 : decode cX3_unpack 9 = .ok (.isub, 1) := by decide +kernel
theorem dX3_unpack_10 : decode cX3_unpack 10 = .ok (.if_icmp .le 4, 3) := by decide +kernel
theorem dX3_unpack_14 : decode cX3_unpack 14 = .ok (.iload_n 2, 1) := by decide +kernel
theorem dX3_unpack_15 : decode cX3_unpack 15 = .ok (.istore_n 3, 1) := by decide +kernel
theorem dX3_unpack_16 : decode cX3_unpack 16 = .ok (.iconst 0, 1) := by decide +kernel
theorem dX3_unpack_17 : decode cX3_unpack 17 = .ok (.istore 4, 2) := by decide +kernel
theorem dX3_unpack_19 : decode cX3_unpack 19 = .ok (.iload 4, 2) := by decide +kernel
theorem dX3_unpack_21 : decode cX3_unpack 21 = .ok (.bipush 6, 2) := by decide +kernel
theorem dX3_unpack_23 : decode cX3_unpack 23 = .ok (.if_icmp .ge 95, 3) := by decide +kernel
theorem dX3_unpack_26 : decode cX3_unpack 26 = .ok (.aload_n 0, 1) := by decide +kernel
theorem dX3_unpack_27 : decode cX3_unpack 27 = .ok (.getfield 20, 3) := by decide +kernel
theorem dX3_unpack_30 : decode cX3_unpack 30 = .ok (.iload 4, 2) := by decide +kernel
theorem dX3_unpack_32 : decode cX3_unpack 32 = .ok (.aload_n 1, 1) := by decide +kernel
theorem dX3_unpack_33 : decode cX3_unpack 33 = .ok (.iload_n 3, 1) := by decide +kernel
theorem dX3_unpack_34 : decode cX3_unpack 34 = .ok (.iaload, 1) := by decide +kernel
theorem dX3_unpack_35 : decode cX3_unpack 35 = .ok (.iastore, 1) := by decide +kernel
theorem dX3_unpack_36 : decode cX3_unpack 36 = .ok (.aload_n 0, 1) := by decide +kernel
theorem dX3_unpack_37 : decode cX3_unpack 37 = .ok (.getfield 23, 3) := by decide +kernel
theorem dX3_unpack_40 : decode cX3_unpack 40 = .ok (.iload 4, 2) := by decide +kernel
theorem dX3_unpack_42 : decode cX3_unpack 42 = .ok (.aload_n 1, 1) := by decide +kernel
theorem dX3_unpack_43 : decode cX3_unpack 43 = .ok (.iload_n 3, 1) := by decide +kernel
theorem dX3_unpack_44 : decode cX3_unpack 44 = .ok (.iconst 1, 1) := by decide +kernel
theorem dX3_unpack_45 : decode cX3_unpack 45 = .ok (.iadd, 1) := by decide +kernel
theorem dX3_unpack_46 : decode cX3_unpack 46 = .ok (.iaload, 1) := by decide +kernel
theorem dX3_unpack_47 : decode cX3_unpack 47 = .ok (.iastore, 1) := by decide +kernel
theorem dX3_unpack_48 : decode cX3_unpack 48 = .ok (.aload_n 0, 1) := by decide +kernel
theorem dX3_unpack_49 : decode cX3_unpack 49 = .ok (.getfield 26, 3) := by decide +kernel
theorem dX3_unpack_52 : decode cX3_unpack 52 = .ok (.iload 4, 2) := by decide +kernel
theorem dX3_unpack_54 : decode cX3_unpack 54 = .ok (.aload_n 1, 1) := by decide +kernel
theorem dX3_unpack_55 : decode cX3_unpack 55 = .ok (.iload_n 3, 1) := by decide +kernel
theorem dX3_unpack_56 : decode cX3_unpack 56 = .ok (.iconst 2, 1) := by decide +kernel
theorem dX3_unpack_57 : decode cX3_unpack 57 = .ok (.iadd, 1) := by decide +kernel
theorem dX3_unpack_58 : decode cX3_unpack 58 = .ok (.iaload, 1) := by decide +kernel
theorem dX3_unpack_59 : decode cX3_unpack 59 = .ok (.iastore, 1) := by decide +kernel
theorem dX3_unpack_60 : decode cX3_unpack 60 = .ok (.aload_n 0, 1) := by decide +kernel
theorem dX3_unpack_61 : decode cX3_unpack 61 = .ok (.getfield 35, 3) := by decide +kernel
theorem dX3_unpack_64 : decode cX3_unpack 64 = .ok (.iload 4, 2) := by decide +kernel
theorem dX3_unpack_66 : decode cX3_unpack 66 = .ok (.aload_n 1, 1) := by decide +kernel
theorem dX3_unpack_67 : decode cX3_unpack 67 = .ok (.iload_n 3, 1) := by decide +kernel
theorem dX3_unpack_68 : decode cX3_unpack 68 = .ok (.iconst 3, 1) := by decide +kernel
theorem dX3_unpack_69 : decode cX3_unpack 69 = .ok (.iadd, 1) := by decide +kernel
theorem dX3_unpack_70 : decode cX3_unpack 70 = .ok (.iaload, 1) := by decide +kernel
theorem dX3_unpack_71 : decode cX3_unpack 71 = .ok (.iastore, 1) := by decide +kernel
theorem dX3_unpack_72 : decode cX3_unpack 72 = .ok (.aload_n 0, 1) := by decide +kernel
theorem dX3_unpack_73 : decode cX3_unpack 73 = .ok (.getfield 38, 3) := by decide +kernel
theorem dX3_unpack_76 : decode cX3_unpack 76 = .ok (.iload 4, 2) := by decide +kernel
theorem dX3_unpack_78 : decode cX3_unpack 78 = .ok (.aload_n 1, 1) := by decide +kernel
theorem dX3_unpack_79 : decode cX3_unpack 79 = .ok (.iload_n 3, 1) := by decide +kernel
theorem dX3_unpack_80 : decode cX3_unpack 80 = .ok (.iconst 4, 1) := by decide +kernel
theorem dX3_unpack_81 : decode cX3_unpack 81 = .ok (.iadd, 1) := by decide +kernel
theorem dX3_unpack_82 : decode cX3_unpack 82 = .ok (.iaload, 1) := by decide +kernel
theorem dX3_unpack_83 : decode cX3_unpack 83 = .ok (.iastore, 1) := by decide +kernel
theorem dX3_unpack_84 : decode cX3_unpack 84 = .ok (.aload_n 0, 1) := by decide +kernel
theorem dX3_unpack_85 : decode cX3_unpack 85 = .ok (.getfield 41, 3) := by decide +kernel
theorem dX3_unpack_88 : decode cX3_unpack 88 = .ok (.iload 4, 2) := by decide +kernel
theorem dX3_unpack_90 : decode cX3_unpack 90 = .ok (.aload_n 1, 1) := by decide +kernel
theorem dX3_unpack_91 : decode cX3_unpack 91 = .ok (.iload_n 3, 1) := by decide +kernel
theorem dX3_unpack_92 : decode cX3_unpack 92 = .ok (.iconst 5, 1) := by decide +kernel
theorem dX3_unpack_93 : decode cX3_unpack 93 = .ok (.iadd, 1) := by decide +kernel
theorem dX3_unpack_94 : decode cX3_unpack 94 = .ok (.iaload, 1) := by decide +kernel
theorem dX3_unpack_95 : decode cX3_unpack 95 = .ok (.iastore, 1) := by decide +kernel
theorem dX3_unpack_96 : decode cX3_unpack 96 = .ok (.aload_n 0, 1) := by decide +kernel
theorem dX3_unpack_97 : decode cX3_unpack 97 = .ok (.getfield 44, 3) := by decide +kernel
theorem dX3_unpack_100 : decode cX3_unpack 100 = .ok (.iload 4, 2) := by decide +kernel
theorem dX3_unpack_102 : decode cX3_unpack 102 = .ok (.aload_n 1, 1) := by decide +kernel
theorem dX3_unpack_103 : decode cX3_unpack 103 = .ok (.iload_n 3, 1) := by decide +kernel
theorem dX3_unpack_104 : decode cX3_unpack 104 = .ok (.bipush 6, 2) := by decide +kernel
theorem dX3_unpack_106 : decode cX3_unpack 106 = .ok (.iadd, 1) := by decide +kernel
theorem dX3_unpack_107 : decode cX3_unpack 107 = .ok (.iaload, 1) := by decide +kernel
theorem dX3_unpack_108 : decode cX3_unpack 108 = .ok (.iastore, 1) := by decide +kernel
theorem dX3_unpack_109 : decode cX3_unpack 109 = .ok (.iinc 3 7, 3) := by decide +kernel
theorem dX3_unpack_112 : decode cX3_unpack 112 = .ok (.iinc 4 1, 3) := by decide +kernel
theorem dX3_unpack_115 : decode cX3_unpack 115 = .ok (.goto (-96), 3) := by decide +kernel
theorem dX3_unpack_118 : decode cX3_unpack 118 = .ok (.aload_n 0, 1) := by decide +kernel
theorem dX3_unpack_119 : decode cX3_unpack 119 = .ok (.aload_n 1, 1) := by decide +kernel
theorem dX3_unpack_120 : decode cX3_unpack 120 = .ok (.iload_n 3, 1) := by decide +kernel
theorem dX3_unpack_121 : decode cX3_unpack 121 = .ok (.iaload, 1) := by decide +kernel
theorem dX3_unpack_122 : decode cX3_unpack 122 = .ok (.putfield 63, 3) := by decide +kernel
theorem dX3_unpack_125 : decode cX3_unpack 125 = .ok (.return_, 1) := by decide +kernel
theorem dJ7_fill_d0a16_0 : decode cJ7_fill_d0a16 0 = .ok (.iconst 0, 1) := by decide +kernel
theorem dJ7_fill_d0a16_1 : decode cJ7_fill_d0a16 1 = .ok (.istore_n 3, 1) := by decide +kernel
theorem dJ7_fill_d0a16_2 : decode cJ7_fill_d0a16 2 = .ok (.aload_n 0, 1) := by decide +kernel
theorem dJ7_fill_d0a16_3 : decode cJ7_fill_d0a16 3 = .ok (.arraylength, 1) := by decide +kernel
theorem dJ7_fill_d0a16_4 : decode cJ7_fill_d0a16 4 = .ok (.istore 4, 2) := by decide +kernel
theorem dJ7_fill_d0a16_6 : decode cJ7_fill_d0a16 6 = .ok (.iload_n 3, 1) := by decide +kernel
theorem dJ7_fill_d0a16_7 : decode cJ7_fill_d0a16 7 = .ok (.iload 4, 2) := by decide +kernel
theorem dJ7_fill_d0a16_9 : decode cJ7_fill_d0a16 9 = .ok (.if_icmp .ge 13, 3) := by decide +kernel
theorem dJ7_fill_d0a16_12 : decode cJ7_fill_d0a16 12 = .ok (.aload_n 0, 1) := by decide +kernel
theorem dJ7_fill_d0a16_13 : decode cJ7_fill_d0a16 13 = .ok (.iload_n 3, 1) := by decide +kernel
theorem dJ7_fill_d0a16_14 : decode cJ7_fill_d0a16 14 = .ok (.lload_n 1, 1) := by decide +kernel
theorem dJ7_fill_d0a16_15 : decode cJ7_fill_d0a16 15 = .ok (.lastore, 1) := by decide +kernel
theorem dJ7_fill_d0a16_16 : decode cJ7_fill_d0a16 16 = .ok (.iinc 3 1, 3) := by decide +kernel
theorem dJ7_fill_d0a16_19 : decode cJ7_fill_d0a16 19 = .ok (.goto (-13), 3) := by decide +kernel
theorem dJ7_fill_d0a16_22 : decode cJ7_fill_d0a16 22 = .ok (.return_, 1) := by decide +kernel
theorem dX4_wasSeen_0 : decode cX4_wasSeen 0 = .ok (.bipush 19, 2) := by decide +kernel
theorem dX4_wasSeen_2 : decode cX4_wasSeen 2 = .ok (.iload 4, 2) := by decide +kernel
theorem dX4_wasSeen_4 : decode cX4_wasSeen 4 = .ok (.bipush 9, 2) := by decide +kernel
theorem dX4_wasSeen_6 : decode cX4_wasSeen 6 = .ok (.iadd, 1) := by decide +kernel
theorem dX4_wasSeen_7 : decode cX4_wasSeen 7 = .ok (.imul, 1) := by decide +kernel
theorem dX4_wasSeen_8 : decode cX4_wasSeen 8 = .ok (.iload_n 3, 1) := by decide +kernel
theorem dX4_wasSeen_9 : decode cX4_wasSeen 9 = .ok (.iadd, 1) := by decide +kernel
theorem dX4_wasSeen_10 : decode cX4_wasSeen 10 = .ok (.bipush 9, 2) := by decide +kernel
theorem dX4_wasSeen_12 : decode cX4_wasSeen 12 = .ok (.iadd, 1) := by decide +kernel
theorem dX4_wasSeen_13 : decode cX4_wasSeen 13 = .ok (.istore 5, 2) := by decide +kernel
theorem dX4_wasSeen_15 : decode cX4_wasSeen 15 = .ok (.iload_n 1, 1) := by decide +kernel
theorem dX4_wasSeen_16 : decode cX4_wasSeen 16 = .ok (.bipush 10, 2) := by decide +kernel
theorem dX4_wasSeen_18 : decode cX4_wasSeen 18 = .ok (.imul, 1) := by decide +kernel
theorem dX4_wasSeen_19 : decode cX4_wasSeen 19 = .ok (.iload_n 2, 1) := by decide +kernel
theorem dX4_wasSeen_20 : decode cX4_wasSeen 20 = .ok (.iadd, 1) := by decide +kernel
theorem dX4_wasSeen_21 : decode cX4_wasSeen 21 = .ok (.bipush 6, 2) := by decide +kernel
theorem dX4_wasSeen_23 : decode cX4_wasSeen 23 = .ok (.imul, 1) := by decide +kernel
theorem dX4_wasSeen_24 : decode cX4_wasSeen 24 = .ok (.iload 5, 2) := by decide +kernel
theorem dX4_wasSeen_26 : decode cX4_wasSeen 26 = .ok (.bipush 6, 2) := by decide +kernel
theorem dX4_wasSeen_28 : decode cX4_wasSeen 28 = .ok (.ishr, 1) := by decide +kernel
theorem dX4_wasSeen_29 : decode cX4_wasSeen 29 = .ok (.iadd, 1) := by decide +kernel
theorem dX4_wasSeen_30 : decode cX4_wasSeen 30 = .ok (.istore 6, 2) := by decide +kernel
theorem dX4_wasSeen_32 : decode cX4_wasSeen 32 = .ok (.iload 6, 2) := by decide +kernel
theorem dX4_wasSeen_34 : decode cX4_wasSeen 34 = .ok (.ifCond .lt 13, 3) := by decide +kernel
theorem dX4_wasSeen_47 : decode cX4_wasSeen 47 = .ok (.iconst 1, 1) := by decide +kernel
theorem dX4_wasSeen_48 : decode cX4_wasSeen 48 = .ok (.ireturn, 1) := by decide +kernel
theorem dX4_wasSeen_37 : decode cX4_wasSeen 37 = .ok (.iload 6, 2) := by decide +kernel
theorem dX4_wasSeen_39 : decode cX4_wasSeen 39 = .ok (.aload_n 0, 1) := by decide +kernel
theorem dX4_wasSeen_40 : decode cX4_wasSeen 40 = .ok (.getfield 19, 3) := by decide +kernel
theorem dX4_wasSeen_43 : decode cX4_wasSeen 43 = .ok (.arraylength, 1) := by decide +kernel
theorem dX4_wasSeen_44 : decode cX4_wasSeen 44 = .ok (.if_icmp .lt 5, 3) := by decide +kernel
theorem dX4_wasSeen_49 : decode cX4_wasSeen 49 = .ok (.lconst 1, 1) := by decide +kernel
theorem dX4_wasSeen_50 : decode cX4_wasSeen 50 = .ok (.iload 5, 2) := by decide +kernel
theorem dX4_wasSeen_52 : decode cX4_wasSeen 52 = .ok (.bipush 63, 2) := by decide +kernel
theorem dX4_wasSeen_54 : decode cX4_wasSeen 54 = .ok (.iand, 1) := by decide +kernel
theorem dX4_wasSeen_55 : decode cX4_wasSeen 55 = .ok (.lshl, 1) := by decide +kernel
theorem dX4_wasSeen_56 : decode cX4_wasSeen 56 = .ok (.lstore 7, 2) := by decide +kernel
theorem dX4_wasSeen_58 : decode cX4_wasSeen 58 = .ok (.aload_n 0, 1) := by decide +kernel
theorem dX4_wasSeen_59 : decode cX4_wasSeen 59 = .ok (.getfield 19, 3) := by decide +kernel
theorem dX4_wasSeen_62 : decode cX4_wasSeen 62 = .ok (.iload 6, 2) := by decide +kernel
theorem dX4_wasSeen_64 : decode cX4_wasSeen 64 = .ok (.laload, 1) := by decide +kernel
theorem dX4_wasSeen_65 : decode cX4_wasSeen 65 = .ok (.lload 7, 2) := by decide +kernel
theorem dX4_wasSeen_67 : decode cX4_wasSeen 67 = .ok (.land, 1) := by decide +kernel
theorem dX4_wasSeen_68 : decode cX4_wasSeen 68 = .ok (.lconst 0, 1) := by decide +kernel
theorem dX4_wasSeen_69 : decode cX4_wasSeen 69 = .ok (.lcmp, 1) := by decide +kernel
theorem dX4_wasSeen_78 : decode cX4_wasSeen 78 = .ok (.istore 9, 2) := by decide +kernel
theorem dX4_wasSeen_80 : decode cX4_wasSeen 80 = .ok (.aload_n 0, 1) := by decide +kernel
theorem dX4_wasSeen_81 : decode cX4_wasSeen 81 = .ok (.getfield 19, 3) := by decide +kernel
theorem dX4_wasSeen_84 : decode cX4_wasSeen 84 = .ok (.iload 6, 2) := by decide +kernel
theorem dX4_wasSeen_86 : decode cX4_wasSeen 86 = .ok (.dup2, 1) := by decide +kernel
theorem dX4_wasSeen_87 : decode cX4_wasSeen 87 = .ok (.laload, 1) := by decide +kernel
theorem dX4_wasSeen_88 : decode cX4_wasSeen 88 = .ok (.lload 7, 2) := by decide +kernel
theorem dX4_wasSeen_90 : decode cX4_wasSeen 90 = .ok (.lor, 1) := by decide +kernel
theorem dX4_wasSeen_91 : decode cX4_wasSeen 91 = .ok (.lastore, 1) := by decide +kernel
theorem dX4_wasSeen_92 : decode cX4_wasSeen 92 = .ok (.iload 9, 2) := by decide +kernel
theorem dX4_wasSeen_94 : decode cX4_wasSeen 94 = .ok (.ireturn, 1) := by decide +kernel
theorem dX4_wasSeen_70 : decode cX4_wasSeen 70 = .ok (.ifCond .eq 7, 3) := by decide +kernel
theorem dX4_wasSeen_77 : decode cX4_wasSeen 77 = .ok (.iconst 0, 1) := by decide +kernel
theorem dX4_wasSeen_73 : decode cX4_wasSeen 73 = .ok (.iconst 1, 1) := by decide +kernel
theorem dX4_wasSeen_74 : decode cX4_wasSeen 74 = .ok (.goto 4, 3) := by decide +kernel
theorem dX4_explore_0 : decode cX4_explore 0 = .ok (.iload_n 1, 1) := by decide +kernel
theorem dX4_explore_1 : decode cX4_explore 1 = .ok (.aload_n 0, 1) := by decide +kernel
theorem dX4_explore_2 : decode cX4_explore 2 = .ok (.getfield 44, 3) := by decide +kernel
theorem dX4_explore_5 : decode cX4_explore 5 = .ok (.if_icmp .gt 24, 3) := by decide +kernel
theorem dX4_explore_29 : decode cX4_explore 29 = .ok (.return_, 1) := by decide +kernel
theorem dX4_explore_8 : decode cX4_explore 8 = .ok (.iload_n 3, 1) := by decide +kernel
theorem dX4_explore_9 : decode cX4_explore 9 = .ok (.iload 4, 2) := by decide +kernel
theorem dX4_explore_11 : decode cX4_explore 11 = .ok (.invokestatic 90, 3) := by decide +kernel
theorem dX4_explore_14 : decode cX4_explore 14 = .ok (.ifCond .ne 15, 3) := by decide +kernel
theorem dX4_explore_17 : decode cX4_explore 17 = .ok (.aload_n 0, 1) := by decide +kernel
theorem dX4_explore_18 : decode cX4_explore 18 = .ok (.iload_n 1, 1) := by decide +kernel
theorem dX4_explore_19 : decode cX4_explore 19 = .ok (.iload_n 2, 1) := by decide +kernel
theorem dX4_explore_20 : decode cX4_explore 20 = .ok (.iload_n 3, 1) := by decide +kernel
theorem dX4_explore_21 : decode cX4_explore 21 = .ok (.iload 4, 2) := by decide +kernel
theorem dX4_explore_23 : decode cX4_explore 23 = .ok (.invokevirtual 94, 3) := by decide +kernel
theorem dX4_explore_26 : decode cX4_explore 26 = .ok (.ifCond .eq 4, 3) := by decide +kernel
theorem dX4_explore_30 : decode cX4_explore 30 = .ok (.iload_n 3, 1) := by decide +kernel
theorem dX4_explore_31 : decode cX4_explore 31 = .ok (.invokestatic 98, 3) := by decide +kernel
theorem dX4_explore_34 : decode cX4_explore 34 = .ok (.iload 4, 2) := by decide +kernel
theorem dX4_explore_36 : decode cX4_explore 36 = .ok (.invokestatic 98, 3) := by decide +kernel
theorem dX4_explore_39 : decode cX4_explore 39 = .ok (.iadd, 1) := by decide +kernel
theorem dX4_explore_40 : decode cX4_explore 40 = .ok (.aload_n 0, 1) := by decide +kernel
theorem dX4_explore_41 : decode cX4_explore 41 = .ok (.getfield 56, 3) := by decide +kernel
theorem dX4_explore_59 : decode cX4_explore 59 = .ok (.iload_n 2, 1) := by decide +kernel
theorem dX4_explore_60 : decode cX4_explore 60 = .ok (.istore 5, 2) := by decide +kernel
theorem dX4_explore_62 : decode cX4_explore 62 = .ok (.iload_n 1, 1) := by decide +kernel
theorem dX4_explore_63 : decode cX4_explore 63 = .ok (.aload_n 0, 1) := by decide +kernel
theorem dX4_explore_64 : decode cX4_explore 64 = .ok (.getfield 44, 3) := by decide +kernel
theorem dX4_explore_67 : decode cX4_explore 67 = .ok (.if_icmp .ge 28, 3) := by decide +kernel
theorem dX4_explore_70 : decode cX4_explore 70 = .ok (.iload 5, 2) := by decide +kernel
theorem dX4_explore_72 : decode cX4_explore 72 = .ok (.aload_n 0, 1) := by decide +kernel
theorem dX4_explore_73 : decode cX4_explore 73 = .ok (.getfield 50, 3) := by decide +kernel
theorem dX4_explore_76 : decode cX4_explore 76 = .ok (.if_icmp .gt 19, 3) := by decide +kernel
theorem dX4_explore_79 : decode cX4_explore 79 = .ok (.aload_n 0, 1) := by decide +kernel
theorem dX4_explore_80 : decode cX4_explore 80 = .ok (.iload_n 1, 1) := by decide +kernel
theorem dX4_explore_81 : decode cX4_explore 81 = .ok (.iload 5, 2) := by decide +kernel
theorem dX4_explore_83 : decode cX4_explore 83 = .ok (.iload_n 3, 1) := by decide +kernel
theorem dX4_explore_84 : decode cX4_explore 84 = .ok (.iload 4, 2) := by decide +kernel
theorem dX4_explore_86 : decode cX4_explore 86 = .ok (.invokevirtual 102, 3) := by decide +kernel
theorem dX4_explore_89 : decode cX4_explore 89 = .ok (.iinc 5 1, 3) := by decide +kernel
theorem dX4_explore_92 : decode cX4_explore 92 = .ok (.goto (-30), 3) := by decide +kernel
theorem dX4_explore_95 : decode cX4_explore 95 = .ok (.return_, 1) := by decide +kernel
theorem dX4_explore_44 : decode cX4_explore 44 = .ok (.if_icmp .gt 15, 3) := by decide +kernel
theorem dX4_explore_47 : decode cX4_explore 47 = .ok (.aload_n 0, 1) := by decide +kernel
theorem dX4_explore_48 : decode cX4_explore 48 = .ok (.getfield 15, 3) := by decide +kernel
theorem dX4_explore_51 : decode cX4_explore 51 = .ok (.iload_n 1, 1) := by decide +kernel
theorem dX4_explore_52 : decode cX4_explore 52 = .ok (.bipush 10, 2) := by decide +kernel
theorem dX4_explore_54 : decode cX4_explore 54 = .ok (.imul, 1) := by decide +kernel
theorem dX4_explore_55 : decode cX4_explore 55 = .ok (.iload_n 2, 1) := by decide +kernel
theorem dX4_explore_56 : decode cX4_explore 56 = .ok (.iadd, 1) := by decide +kernel
theorem dX4_explore_57 : decode cX4_explore 57 = .ok (.iconst 1, 1) := by decide +kernel
theorem dX4_explore_58 : decode cX4_explore 58 = .ok (.bastore, 1) := by decide +kernel
theorem dX4_exploreHour_0 : decode cX4_exploreHour 0 = .ok (.aload_n 0, 1) := by decide +kernel
theorem dX4_exploreHour_1 : decode cX4_exploreHour 1 = .ok (.getfield 11, 3) := by decide +kernel
theorem dX4_exploreHour_4 : decode cX4_exploreHour 4 = .ok (.iload_n 1, 1) := by decide +kernel
theorem dX4_exploreHour_5 : decode cX4_exploreHour 5 = .ok (.iconst 1, 1) := by decide +kernel
theorem dX4_exploreHour_6 : decode cX4_exploreHour 6 = .ok (.iadd, 1) := by decide +kernel
theorem dX4_exploreHour_7 : decode cX4_exploreHour 7 = .ok (.bipush 10, 2) := by decide +kernel
theorem dX4_exploreHour_9 : decode cX4_exploreHour 9 = .ok (.imul, 1) := by decide +kernel
theorem dX4_exploreHour_10 : decode cX4_exploreHour 10 = .ok (.iload_n 2, 1) := by decide +kernel
theorem dX4_exploreHour_11 : decode cX4_exploreHour 11 = .ok (.iadd, 1) := by decide +kernel
theorem dX4_exploreHour_12 : decode cX4_exploreHour 12 = .ok (.iaload, 1) := by decide +kernel
theorem dX4_exploreHour_13 : decode cX4_exploreHour 13 = .ok (.ifCond .lt 52, 3) := by decide +kernel
theorem dX4_exploreHour_65 : decode cX4_exploreHour 65 = .ok (.return_, 1) := by decide +kernel
theorem dX4_exploreHour_16 : decode cX4_exploreHour 16 = .ok (.aload_n 0, 1) := by decide +kernel
theorem dX4_exploreHour_17 : decode cX4_exploreHour 17 = .ok (.getfield 11, 3) := by decide +kernel
theorem dX4_exploreHour_20 : decode cX4_exploreHour 20 = .ok (.iload_n 1, 1) := by decide +kernel
theorem dX4_exploreHour_21 : decode cX4_exploreHour 21 = .ok (.bipush 10, 2) := by decide +kernel
theorem dX4_exploreHour_23 : decode cX4_exploreHour 23 = .ok (.imul, 1) := by decide +kernel
theorem dX4_exploreHour_24 : decode cX4_exploreHour 24 = .ok (.iload_n 2, 1) := by decide +kernel
theorem dX4_exploreHour_25 : decode cX4_exploreHour 25 = .ok (.iadd, 1) := by decide +kernel
theorem dX4_exploreHour_26 : decode cX4_exploreHour 26 = .ok (.iaload, 1) := by decide +kernel
theorem dX4_exploreHour_27 : decode cX4_exploreHour 27 = .ok (.invokestatic 105, 3) := by decide +kernel
theorem dX4_exploreHour_30 : decode cX4_exploreHour 30 = .ok (.istore 5, 2) := by decide +kernel
theorem dX4_exploreHour_32 : decode cX4_exploreHour 32 = .ok (.aload_n 0, 1) := by decide +kernel
theorem dX4_exploreHour_33 : decode cX4_exploreHour 33 = .ok (.iload_n 1, 1) := by decide +kernel
theorem dX4_exploreHour_34 : decode cX4_exploreHour 34 = .ok (.iconst 1, 1) := by decide +kernel
theorem dX4_exploreHour_35 : decode cX4_exploreHour 35 = .ok (.iadd, 1) := by decide +kernel
theorem dX4_exploreHour_36 : decode cX4_exploreHour 36 = .ok (.iload_n 2, 1) := by decide +kernel
theorem dX4_exploreHour_37 : decode cX4_exploreHour 37 = .ok (.iload_n 3, 1) := by decide +kernel
theorem dX4_exploreHour_38 : decode cX4_exploreHour 38 = .ok (.aload_n 0, 1) := by decide +kernel
theorem dX4_exploreHour_39 : decode cX4_exploreHour 39 = .ok (.getfield 30, 3) := by decide +kernel
theorem dX4_exploreHour_42 : decode cX4_exploreHour 42 = .ok (.getfield 108, 3) := by decide +kernel
theorem dX4_exploreHour_45 : decode cX4_exploreHour 45 = .ok (.iload 5, 2) := by decide +kernel
theorem dX4_exploreHour_47 : decode cX4_exploreHour 47 = .ok (.iaload, 1) := by decide +kernel
theorem dX4_exploreHour_48 : decode cX4_exploreHour 48 = .ok (.iadd, 1) := by decide +kernel
theorem dX4_exploreHour_49 : decode cX4_exploreHour 49 = .ok (.iload 4, 2) := by decide +kernel
theorem dX4_exploreHour_51 : decode cX4_exploreHour 51 = .ok (.aload_n 0, 1) := by decide +kernel
theorem dX4_exploreHour_52 : decode cX4_exploreHour 52 = .ok (.getfield 30, 3) := by decide +kernel
theorem dX4_exploreHour_55 : decode cX4_exploreHour 55 = .ok (.getfield 113, 3) := by decide +kernel
theorem dX4_exploreHour_58 : decode cX4_exploreHour 58 = .ok (.iload 5, 2) := by decide +kernel
theorem dX4_exploreHour_60 : decode cX4_exploreHour 60 = .ok (.iaload, 1) := by decide +kernel
theorem dX4_exploreHour_61 : decode cX4_exploreHour 61 = .ok (.iadd, 1) := by decide +kernel
theorem dX4_exploreHour_62 : decode cX4_exploreHour 62 = .ok (.invokevirtual 86, 3) := by decide +kernel
theorem dX4_survey_0 : decode cX4_survey 0 = .ok (.aload_n 0, 1) := by decide +kernel
theorem dX4_survey_1 : decode cX4_survey 1 = .ok (.getfield 26, 3) := by decide +kernel
theorem dX4_survey_4 : decode cX4_survey 4 = .ok (.iload_n 1, 1) := by decide +kernel
theorem dX4_survey_5 : decode cX4_survey 5 = .ok (.invokevirtual 34, 3) := by decide +kernel
theorem dX4_survey_8 : decode cX4_survey 8 = .ok (.ifCond .eq 13, 3) := by decide +kernel
theorem dX4_survey_21 : decode cX4_survey 21 = .ok (.return_, 1) := by decide +kernel
theorem dX4_survey_11 : decode cX4_survey 11 = .ok (.iload_n 2, 1) := by decide +kernel
theorem dX4_survey_12 : decode cX4_survey 12 = .ok (.ifCond .lt 9, 3) := by decide +kernel
theorem dX4_survey_15 : decode cX4_survey 15 = .ok (.iload_n 2, 1) := by decide +kernel
theorem dX4_survey_16 : decode cX4_survey 16 = .ok (.bipush 6, 2) := by decide +kernel
theorem dX4_survey_18 : decode cX4_survey 18 = .ok (.if_icmp .le 4, 3) := by decide +kernel
theorem dX4_survey_22 : decode cX4_survey 22 = .ok (.aload_n 0, 1) := by decide +kernel
theorem dX4_survey_23 : decode cX4_survey 23 = .ok (.iload_n 1, 1) := by decide +kernel
theorem dX4_survey_24 : decode cX4_survey 24 = .ok (.putfield 40, 3) := by decide +kernel
theorem dX4_survey_27 : decode cX4_survey 27 = .ok (.aload_n 0, 1) := by decide +kernel
theorem dX4_survey_28 : decode cX4_survey 28 = .ok (.iload_n 2, 1) := by decide +kernel
theorem dX4_survey_29 : decode cX4_survey 29 = .ok (.putfield 44, 3) := by decide +kernel
theorem dX4_survey_32 : decode cX4_survey 32 = .ok (.aload_n 0, 1) := by decide +kernel
theorem dX4_survey_33 : decode cX4_survey 33 = .ok (.aload_n 0, 1) := by decide +kernel
theorem dX4_survey_34 : decode cX4_survey 34 = .ok (.getfield 26, 3) := by decide +kernel
theorem dX4_survey_37 : decode cX4_survey 37 = .ok (.getfield 47, 3) := by decide +kernel
theorem dX4_survey_40 : decode cX4_survey 40 = .ok (.iload_n 1, 1) := by decide +kernel
theorem dX4_survey_41 : decode cX4_survey 41 = .ok (.iaload, 1) := by decide +kernel
theorem dX4_survey_42 : decode cX4_survey 42 = .ok (.putfield 50, 3) := by decide +kernel
theorem dX4_survey_45 : decode cX4_survey 45 = .ok (.aload_n 0, 1) := by decide +kernel
theorem dX4_survey_46 : decode cX4_survey 46 = .ok (.aload_n 0, 1) := by decide +kernel
theorem dX4_survey_47 : decode cX4_survey 47 = .ok (.getfield 26, 3) := by decide +kernel
theorem dX4_survey_50 : decode cX4_survey 50 = .ok (.getfield 53, 3) := by decide +kernel
theorem dX4_survey_53 : decode cX4_survey 53 = .ok (.iload_n 1, 1) := by decide +kernel
theorem dX4_survey_54 : decode cX4_survey 54 = .ok (.iaload, 1) := by decide +kernel
theorem dX4_survey_55 : decode cX4_survey 55 = .ok (.putfield 56, 3) := by decide +kernel
theorem dX4_survey_58 : decode cX4_survey 58 = .ok (.iconst 0, 1) := by decide +kernel
theorem dX4_survey_59 : decode cX4_survey 59 = .ok (.istore_n 3, 1) := by decide +kernel
theorem dX4_survey_60 : decode cX4_survey 60 = .ok (.iload_n 3, 1) := by decide +kernel
theorem dX4_survey_61 : decode cX4_survey 61 = .ok (.iload_n 2, 1) := by decide +kernel
theorem dX4_survey_62 : decode cX4_survey 62 = .ok (.if_icmp .gt 84, 3) := by decide +kernel
theorem dX4_survey_65 : decode cX4_survey 65 = .ok (.iconst 0, 1) := by decide +kernel
theorem dX4_survey_66 : decode cX4_survey 66 = .ok (.aload_n 0, 1) := by decide +kernel
theorem dX4_survey_67 : decode cX4_survey 67 = .ok (.getfield 26, 3) := by decide +kernel
theorem dX4_survey_70 : decode cX4_survey 70 = .ok (.getfield 58, 3) := by decide +kernel
theorem dX4_survey_73 : decode cX4_survey 73 = .ok (.iload_n 1, 1) := by decide +kernel
theorem dX4_survey_74 : decode cX4_survey 74 = .ok (.iaload, 1) := by decide +kernel
theorem dX4_survey_75 : decode cX4_survey 75 = .ok (.iload_n 3, 1) := by decide +kernel
theorem dX4_survey_76 : decode cX4_survey 76 = .ok (.aload_n 0, 1) := by decide +kernel
theorem dX4_survey_77 : decode cX4_survey 77 = .ok (.getfield 26, 3) := by decide +kernel
theorem dX4_survey_80 : decode cX4_survey 80 = .ok (.getfield 61, 3) := by decide +kernel
theorem dX4_survey_83 : decode cX4_survey 83 = .ok (.iload_n 1, 1) := by decide +kernel
theorem dX4_survey_84 : decode cX4_survey 84 = .ok (.iaload, 1) := by decide +kernel
theorem dX4_survey_85 : decode cX4_survey 85 = .ok (.imul, 1) := by decide +kernel
theorem dX4_survey_86 : decode cX4_survey 86 = .ok (.isub, 1) := by decide +kernel
theorem dX4_survey_87 : decode cX4_survey 87 = .ok (.invokestatic 64, 3) := by decide +kernel
theorem dX4_survey_90 : decode cX4_survey 90 = .ok (.istore 4, 2) := by decide +kernel
theorem dX4_survey_92 : decode cX4_survey 92 = .ok (.iconst 0, 1) := by decide +kernel
theorem dX4_survey_93 : decode cX4_survey 93 = .ok (.istore 5, 2) := by decide +kernel
theorem dX4_survey_95 : decode cX4_survey 95 = .ok (.iload 5, 2) := by decide +kernel
theorem dX4_survey_97 : decode cX4_survey 97 = .ok (.aload_n 0, 1) := by decide +kernel
theorem dX4_survey_98 : decode cX4_survey 98 = .ok (.getfield 50, 3) := by decide +kernel
theorem dX4_survey_101 : decode cX4_survey 101 = .ok (.if_icmp .gt 39, 3) := by decide +kernel
theorem dX4_survey_104 : decode cX4_survey 104 = .ok (.aload_n 0, 1) := by decide +kernel
theorem dX4_survey_105 : decode cX4_survey 105 = .ok (.getfield 11, 3) := by decide +kernel
theorem dX4_survey_108 : decode cX4_survey 108 = .ok (.iload_n 3, 1) := by decide +kernel
theorem dX4_survey_109 : decode cX4_survey 109 = .ok (.bipush 10, 2) := by decide +kernel
theorem dX4_survey_111 : decode cX4_survey 111 = .ok (.imul, 1) := by decide +kernel
theorem dX4_survey_112 : decode cX4_survey 112 = .ok (.iload 5, 2) := by decide +kernel
theorem dX4_survey_114 : decode cX4_survey 114 = .ok (.iadd, 1) := by decide +kernel
theorem dX4_survey_115 : decode cX4_survey 115 = .ok (.aload_n 0, 1) := by decide +kernel
theorem dX4_survey_116 : decode cX4_survey 116 = .ok (.getfield 26, 3) := by decide +kernel
theorem dX4_survey_119 : decode cX4_survey 119 = .ok (.iload_n 1, 1) := by decide +kernel
theorem dX4_survey_120 : decode cX4_survey 120 = .ok (.iload 4, 2) := by decide +kernel
theorem dX4_survey_122 : decode cX4_survey 122 = .ok (.aload_n 0, 1) := by decide +kernel
theorem dX4_survey_123 : decode cX4_survey 123 = .ok (.getfield 50, 3) := by decide +kernel
theorem dX4_survey_126 : decode cX4_survey 126 = .ok (.iload 5, 2) := by decide +kernel
theorem dX4_survey_128 : decode cX4_survey 128 = .ok (.isub, 1) := by decide +kernel
theorem dX4_survey_129 : decode cX4_survey 129 = .ok (.iload_n 3, 1) := by decide +kernel
theorem dX4_survey_130 : decode cX4_survey 130 = .ok (.invokevirtual 70, 3) := by decide +kernel
theorem dX4_survey_133 : decode cX4_survey 133 = .ok (.iastore, 1) := by decide +kernel
theorem dX4_survey_134 : decode cX4_survey 134 = .ok (.iinc 5 1, 3) := by decide +kernel
theorem dX4_survey_137 : decode cX4_survey 137 = .ok (.goto (-42), 3) := by decide +kernel
theorem dX4_survey_140 : decode cX4_survey 140 = .ok (.iinc 3 1, 3) := by decide +kernel
theorem dX4_survey_143 : decode cX4_survey 143 = .ok (.goto (-83), 3) := by decide +kernel
theorem dX4_survey_146 : decode cX4_survey 146 = .ok (.aload_n 0, 1) := by decide +kernel
theorem dX4_survey_147 : decode cX4_survey 147 = .ok (.getfield 19, 3) := by decide +kernel
theorem dX4_survey_150 : decode cX4_survey 150 = .ok (.lconst 0, 1) := by decide +kernel
theorem dX4_survey_151 : decode cX4_survey 151 = .ok (.invokestatic 74, 3) := by decide +kernel
theorem dX4_survey_154 : decode cX4_survey 154 = .ok (.iconst 0, 1) := by decide +kernel
theorem dX4_survey_155 : decode cX4_survey 155 = .ok (.istore_n 3, 1) := by decide +kernel
theorem dX4_survey_156 : decode cX4_survey 156 = .ok (.iload_n 3, 1) := by decide +kernel
theorem dX4_survey_157 : decode cX4_survey 157 = .ok (.aload_n 0, 1) := by decide +kernel
theorem dX4_survey_158 : decode cX4_survey 158 = .ok (.getfield 15, 3) := by decide +kernel
theorem dX4_survey_161 : decode cX4_survey 161 = .ok (.arraylength, 1) := by decide +kernel
theorem dX4_survey_162 : decode cX4_survey 162 = .ok (.if_icmp .ge 16, 3) := by decide +kernel
theorem dX4_survey_165 : decode cX4_survey 165 = .ok (.aload_n 0, 1) := by decide +kernel
theorem dX4_survey_166 : decode cX4_survey 166 = .ok (.getfield 15, 3) := by decide +kernel
theorem dX4_survey_169 : decode cX4_survey 169 = .ok (.iload_n 3, 1) := by decide +kernel
theorem dX4_survey_170 : decode cX4_survey 170 = .ok (.iconst 0, 1) := by decide +kernel
theorem dX4_survey_171 : decode cX4_survey 171 = .ok (.bastore, 1) := by decide +kernel
theorem dX4_survey_172 : decode cX4_survey 172 = .ok (.iinc 3 1, 3) := by decide +kernel
theorem dX4_survey_175 : decode cX4_survey 175 = .ok (.goto (-19), 3) := by decide +kernel
theorem dX4_survey_178 : decode cX4_survey 178 = .ok (.aload_n 0, 1) := by decide +kernel
theorem dX4_survey_179 : decode cX4_survey 179 = .ok (.iconst 0, 1) := by decide +kernel
theorem dX4_survey_180 : decode cX4_survey 180 = .ok (.iconst 0, 1) := by decide +kernel
theorem dX4_survey_181 : decode cX4_survey 181 = .ok (.aload_n 0, 1) := by decide +kernel
theorem dX4_survey_182 : decode cX4_survey 182 = .ok (.getfield 26, 3) := by decide +kernel
theorem dX4_survey_185 : decode cX4_survey 185 = .ok (.getfield 80, 3) := by decide +kernel
theorem dX4_survey_188 : decode cX4_survey 188 = .ok (.iload_n 1, 1) := by decide +kernel
theorem dX4_survey_189 : decode cX4_survey 189 = .ok (.iaload, 1) := by decide +kernel
theorem dX4_survey_190 : decode cX4_survey 190 = .ok (.aload_n 0, 1) := by decide +kernel
theorem dX4_survey_191 : decode cX4_survey 191 = .ok (.getfield 26, 3) := by decide +kernel
theorem dX4_survey_194 : decode cX4_survey 194 = .ok (.getfield 83, 3) := by decide +kernel
theorem dX4_survey_197 : decode cX4_survey 197 = .ok (.iload_n 1, 1) := by decide +kernel
theorem dX4_survey_198 : decode cX4_survey 198 = .ok (.iaload, 1) := by decide +kernel
theorem dX4_survey_199 : decode cX4_survey 199 = .ok (.invokevirtual 86, 3) := by decide +kernel
theorem dX4_survey_202 : decode cX4_survey 202 = .ok (.return_, 1) := by decide +kernel
theorem dX4_canBeNear_0 : decode cX4_canBeNear 0 = .ok (.iconst 0, 1) := by decide +kernel
theorem dX4_canBeNear_1 : decode cX4_canBeNear 1 = .ok (.istore_n 3, 1) := by decide +kernel
theorem dX4_canBeNear_2 : decode cX4_canBeNear 2 = .ok (.iload_n 3, 1) := by decide +kernel
theorem dX4_canBeNear_3 : decode cX4_canBeNear 3 = .ok (.iload_n 2, 1) := by decide +kernel
theorem dX4_canBeNear_4 : decode cX4_canBeNear 4 = .ok (.if_icmp .gt 25, 3) := by decide +kernel
theorem dX4_canBeNear_7 : decode cX4_canBeNear 7 = .ok (.aload_n 0, 1) := by decide +kernel
theorem dX4_canBeNear_8 : decode cX4_canBeNear 8 = .ok (.getfield 15, 3) := by decide +kernel
theorem dX4_canBeNear_11 : decode cX4_canBeNear 11 = .ok (.iload_n 1, 1) := by decide +kernel
theorem dX4_canBeNear_12 : decode cX4_canBeNear 12 = .ok (.bipush 10, 2) := by decide +kernel
theorem dX4_canBeNear_14 : decode cX4_canBeNear 14 = .ok (.imul, 1) := by decide +kernel
theorem dX4_canBeNear_15 : decode cX4_canBeNear 15 = .ok (.iload_n 3, 1) := by decide +kernel
theorem dX4_canBeNear_16 : decode cX4_canBeNear 16 = .ok (.iadd, 1) := by decide +kernel
theorem dX4_canBeNear_17 : decode cX4_canBeNear 17 = .ok (.baload, 1) := by decide +kernel
theorem dX4_canBeNear_18 : decode cX4_canBeNear 18 = .ok (.ifCond .eq 5, 3) := by decide +kernel
theorem dX4_canBeNear_23 : decode cX4_canBeNear 23 = .ok (.iinc 3 1, 3) := by decide +kernel
theorem dX4_canBeNear_26 : decode cX4_canBeNear 26 = .ok (.goto (-24), 3) := by decide +kernel
theorem dX4_canBeNear_21 : decode cX4_canBeNear 21 = .ok (.iconst 1, 1) := by decide +kernel
theorem dX4_canBeNear_22 : decode cX4_canBeNear 22 = .ok (.ireturn, 1) := by decide +kernel
theorem dX4_canBeNear_29 : decode cX4_canBeNear 29 = .ok (.iconst 0, 1) := by decide +kernel
theorem dX4_canBeNear_30 : decode cX4_canBeNear 30 = .ok (.ireturn, 1) := by decide +kernel
theorem dX4_plan_0 : decode cX4_plan 0 = .ok (.iconst 0, 1) := by decide +kernel
theorem dX4_plan_1 : decode cX4_plan 1 = .ok (.istore_n 2, 1) := by decide +kernel
theorem dX4_plan_2 : decode cX4_plan 2 = .ok (.iload_n 2, 1) := by decide +kernel
theorem dX4_plan_3 : decode cX4_plan 3 = .ok (.aload_n 0, 1) := by decide +kernel
theorem dX4_plan_4 : decode cX4_plan 4 = .ok (.getfield 50, 3) := by decide +kernel
theorem dX4_plan_7 : decode cX4_plan 7 = .ok (.if_icmp .gt 69, 3) := by decide +kernel
theorem dX4_plan_76 : decode cX4_plan 76 = .ok (.iconst 0, 1) := by decide +kernel
theorem dX4_plan_77 : decode cX4_plan 77 = .ok (.ireturn, 1) := by decide +kernel
theorem dX4_plan_10 : decode cX4_plan 10 = .ok (.iconst 0, 1) := by decide +kernel
theorem dX4_plan_11 : decode cX4_plan 11 = .ok (.istore_n 3, 1) := by decide +kernel
theorem dX4_plan_12 : decode cX4_plan 12 = .ok (.iload_n 3, 1) := by decide +kernel
theorem dX4_plan_13 : decode cX4_plan 13 = .ok (.aload_n 0, 1) := by decide +kernel
theorem dX4_plan_14 : decode cX4_plan 14 = .ok (.getfield 44, 3) := by decide +kernel
theorem dX4_plan_17 : decode cX4_plan 17 = .ok (.if_icmp .gt 53, 3) := by decide +kernel
theorem dX4_plan_20 : decode cX4_plan 20 = .ok (.aload_n 0, 1) := by decide +kernel
theorem dX4_plan_21 : decode cX4_plan 21 = .ok (.iload_n 3, 1) := by decide +kernel
theorem dX4_plan_22 : decode cX4_plan 22 = .ok (.iload_n 2, 1) := by decide +kernel
theorem dX4_plan_23 : decode cX4_plan 23 = .ok (.invokevirtual 116, 3) := by decide +kernel
theorem dX4_plan_64 : decode cX4_plan 64 = .ok (.iinc 3 1, 3) := by decide +kernel
theorem dX4_plan_67 : decode cX4_plan 67 = .ok (.goto (-55), 3) := by decide +kernel
theorem dX4_plan_26 : decode cX4_plan 26 = .ok (.ifCond .eq 38, 3) := by decide +kernel
theorem dX4_plan_29 : decode cX4_plan 29 = .ok (.aload_n 0, 1) := by decide +kernel
theorem dX4_plan_30 : decode cX4_plan 30 = .ok (.getfield 11, 3) := by decide +kernel
theorem dX4_plan_33 : decode cX4_plan 33 = .ok (.iload_n 3, 1) := by decide +kernel
theorem dX4_plan_34 : decode cX4_plan 34 = .ok (.bipush 10, 2) := by decide +kernel
theorem dX4_plan_36 : decode cX4_plan 36 = .ok (.imul, 1) := by decide +kernel
theorem dX4_plan_37 : decode cX4_plan 37 = .ok (.iload_n 2, 1) := by decide +kernel
theorem dX4_plan_38 : decode cX4_plan 38 = .ok (.iadd, 1) := by decide +kernel
theorem dX4_plan_39 : decode cX4_plan 39 = .ok (.iaload, 1) := by decide +kernel
theorem dX4_plan_40 : decode cX4_plan 40 = .ok (.invokestatic 105, 3) := by decide +kernel
theorem dX4_plan_43 : decode cX4_plan 43 = .ok (.iload_n 1, 1) := by decide +kernel
theorem dX4_plan_44 : decode cX4_plan 44 = .ok (.isub, 1) := by decide +kernel
theorem dX4_plan_45 : decode cX4_plan 45 = .ok (.invokestatic 98, 3) := by decide +kernel
theorem dX4_plan_48 : decode cX4_plan 48 = .ok (.iconst 1, 1) := by decide +kernel
theorem dX4_plan_49 : decode cX4_plan 49 = .ok (.if_icmp .gt 15, 3) := by decide +kernel
theorem dX4_plan_52 : decode cX4_plan 52 = .ok (.aload_n 0, 1) := by decide +kernel
theorem dX4_plan_53 : decode cX4_plan 53 = .ok (.iload_n 2, 1) := by decide +kernel
theorem dX4_plan_54 : decode cX4_plan 54 = .ok (.putfield 119, 3) := by decide +kernel
theorem dX4_plan_57 : decode cX4_plan 57 = .ok (.aload_n 0, 1) := by decide +kernel
theorem dX4_plan_58 : decode cX4_plan 58 = .ok (.iload_n 3, 1) := by decide +kernel
theorem dX4_plan_59 : decode cX4_plan 59 = .ok (.putfield 121, 3) := by decide +kernel
theorem dX4_plan_62 : decode cX4_plan 62 = .ok (.iconst 1, 1) := by decide +kernel
theorem dX4_plan_63 : decode cX4_plan 63 = .ok (.ireturn, 1) := by decide +kernel
theorem dX4_plan_70 : decode cX4_plan 70 = .ok (.iinc 2 1, 3) := by decide +kernel
theorem dX4_plan_73 : decode cX4_plan 73 = .ok (.goto (-71), 3) := by decide +kernel
theorem dX4_beats_0 : decode cX4_beats 0 = .ok (.aload_n 0, 1) := by decide +kernel
theorem dX4_beats_1 : decode cX4_beats 1 = .ok (.getfield 119, 3) := by decide +kernel
theorem dX4_beats_4 : decode cX4_beats 4 = .ok (.iload_n 1, 1) := by decide +kernel
theorem dX4_beats_24 : decode cX4_beats 24 = .ok (.iconst 1, 1) := by decide +kernel
theorem dX4_beats_25 : decode cX4_beats 25 = .ok (.goto 4, 3) := by decide +kernel
theorem dX4_beats_29 : decode cX4_beats 29 = .ok (.ireturn, 1) := by decide +kernel
theorem dX4_beats_5 : decode cX4_beats 5 = .ok (.if_icmp .lt 19, 3) := by decide +kernel
theorem dX4_beats_8 : decode cX4_beats 8 = .ok (.aload_n 0, 1) := by decide +kernel
theorem dX4_beats_9 : decode cX4_beats 9 = .ok (.getfield 119, 3) := by decide +kernel
theorem dX4_beats_12 : decode cX4_beats 12 = .ok (.iload_n 1, 1) := by decide +kernel
theorem dX4_beats_13 : decode cX4_beats 13 = .ok (.if_icmp .ne 15, 3) := by decide +kernel
theorem dX4_beats_28 : decode cX4_beats 28 = .ok (.iconst 0, 1) := by decide +kernel
theorem dX4_beats_16 : decode cX4_beats 16 = .ok (.aload_n 0, 1) := by decide +kernel
theorem dX4_beats_17 : decode cX4_beats 17 = .ok (.getfield 121, 3) := by decide +kernel
theorem dX4_beats_20 : decode cX4_beats 20 = .ok (.iload_n 2, 1) := by decide +kernel
theorem dX4_beats_21 : decode cX4_beats 21 = .ok (.if_icmp .ge 7, 3) := by decide +kernel
theorem dX4_retraceFrom_0 : decode cX4_retraceFrom 0 = .ok (.iload_n 1, 1) := by decide +kernel
theorem dX4_retraceFrom_1 : decode cX4_retraceFrom 1 = .ok (.aload_n 0, 1) := by decide +kernel
theorem dX4_retraceFrom_2 : decode cX4_retraceFrom 2 = .ok (.getfield 44, 3) := by decide +kernel
theorem dX4_retraceFrom_5 : decode cX4_retraceFrom 5 = .ok (.if_icmp .gt 12, 3) := by decide +kernel
theorem dX4_retraceFrom_17 : decode cX4_retraceFrom 17 = .ok (.iconst 0, 1) := by decide +kernel
theorem dX4_retraceFrom_18 : decode cX4_retraceFrom 18 = .ok (.ireturn, 1) := by decide +kernel
theorem dX4_retraceFrom_8 : decode cX4_retraceFrom 8 = .ok (.iload_n 3, 1) := by decide +kernel
theorem dX4_retraceFrom_9 : decode cX4_retraceFrom 9 = .ok (.iload 4, 2) := by decide +kernel
theorem dX4_retraceFrom_11 : decode cX4_retraceFrom 11 = .ok (.invokestatic 90, 3) := by decide +kernel
theorem dX4_retraceFrom_14 : decode cX4_retraceFrom 14 = .ok (.ifCond .eq 5, 3) := by decide +kernel
theorem dX4_retraceFrom_19 : decode cX4_retraceFrom 19 = .ok (.iload_n 1, 1) := by decide +kernel
theorem dX4_retraceFrom_20 : decode cX4_retraceFrom 20 = .ok (.aload_n 0, 1) := by decide +kernel
theorem dX4_retraceFrom_21 : decode cX4_retraceFrom 21 = .ok (.getfield 121, 3) := by decide +kernel
theorem dX4_retraceFrom_24 : decode cX4_retraceFrom 24 = .ok (.if_icmp .ne 38, 3) := by decide +kernel
theorem dX4_retraceFrom_62 : decode cX4_retraceFrom 62 = .ok (.iload_n 2, 1) := by decide +kernel
theorem dX4_retraceFrom_63 : decode cX4_retraceFrom 63 = .ok (.istore 5, 2) := by decide +kernel
theorem dX4_retraceFrom_65 : decode cX4_retraceFrom 65 = .ok (.iload 5, 2) := by decide +kernel
theorem dX4_retraceFrom_67 : decode cX4_retraceFrom 67 = .ok (.aload_n 0, 1) := by decide +kernel
theorem dX4_retraceFrom_68 : decode cX4_retraceFrom 68 = .ok (.getfield 119, 3) := by decide +kernel
theorem dX4_retraceFrom_71 : decode cX4_retraceFrom 71 = .ok (.if_icmp .gt 34, 3) := by decide +kernel
theorem dX4_retraceFrom_74 : decode cX4_retraceFrom 74 = .ok (.aload_n 0, 1) := by decide +kernel
theorem dX4_retraceFrom_75 : decode cX4_retraceFrom 75 = .ok (.getfield 23, 3) := by decide +kernel
theorem dX4_retraceFrom_78 : decode cX4_retraceFrom 78 = .ok (.iload_n 1, 1) := by decide +kernel
theorem dX4_retraceFrom_79 : decode cX4_retraceFrom 79 = .ok (.iload 5, 2) := by decide +kernel
theorem dX4_retraceFrom_81 : decode cX4_retraceFrom 81 = .ok (.iload_n 2, 1) := by decide +kernel
theorem dX4_retraceFrom_82 : decode cX4_retraceFrom 82 = .ok (.isub, 1) := by decide +kernel
theorem dX4_retraceFrom_83 : decode cX4_retraceFrom 83 = .ok (.iastore, 1) := by decide +kernel
theorem dX4_retraceFrom_84 : decode cX4_retraceFrom 84 = .ok (.aload_n 0, 1) := by decide +kernel
theorem dX4_retraceFrom_85 : decode cX4_retraceFrom 85 = .ok (.iload_n 1, 1) := by decide +kernel
theorem dX4_retraceFrom_86 : decode cX4_retraceFrom 86 = .ok (.iload 5, 2) := by decide +kernel
theorem dX4_retraceFrom_88 : decode cX4_retraceFrom 88 = .ok (.iload_n 3, 1) := by decide +kernel
theorem dX4_retraceFrom_89 : decode cX4_retraceFrom 89 = .ok (.iload 4, 2) := by decide +kernel
theorem dX4_retraceFrom_91 : decode cX4_retraceFrom 91 = .ok (.invokevirtual 127, 3) := by decide +kernel
theorem dX4_retraceFrom_94 : decode cX4_retraceFrom 94 = .ok (.ifCond .eq 5, 3) := by decide +kernel
theorem dX4_retraceFrom_99 : decode cX4_retraceFrom 99 = .ok (.iinc 5 1, 3) := by decide +kernel
theorem dX4_retraceFrom_102 : decode cX4_retraceFrom 102 = .ok (.goto (-37), 3) := by decide +kernel
theorem dX4_retraceFrom_97 : decode cX4_retraceFrom 97 = .ok (.iconst 1, 1) := by decide +kernel
theorem dX4_retraceFrom_98 : decode cX4_retraceFrom 98 = .ok (.ireturn, 1) := by decide +kernel
theorem dX4_retraceFrom_105 : decode cX4_retraceFrom 105 = .ok (.iconst 0, 1) := by decide +kernel
theorem dX4_retraceFrom_106 : decode cX4_retraceFrom 106 = .ok (.ireturn, 1) := by decide +kernel
theorem dX4_retraceFrom_27 : decode cX4_retraceFrom 27 = .ok (.aload_n 0, 1) := by decide +kernel
theorem dX4_retraceFrom_28 : decode cX4_retraceFrom 28 = .ok (.getfield 23, 3) := by decide +kernel
theorem dX4_retraceFrom_31 : decode cX4_retraceFrom 31 = .ok (.iload_n 1, 1) := by decide +kernel
theorem dX4_retraceFrom_32 : decode cX4_retraceFrom 32 = .ok (.aload_n 0, 1) := by decide +kernel
theorem dX4_retraceFrom_33 : decode cX4_retraceFrom 33 = .ok (.getfield 119, 3) := by decide +kernel
theorem dX4_retraceFrom_36 : decode cX4_retraceFrom 36 = .ok (.iload_n 2, 1) := by decide +kernel
theorem dX4_retraceFrom_37 : decode cX4_retraceFrom 37 = .ok (.isub, 1) := by decide +kernel
theorem dX4_retraceFrom_38 : decode cX4_retraceFrom 38 = .ok (.iastore, 1) := by decide +kernel
theorem dX4_retraceFrom_39 : decode cX4_retraceFrom 39 = .ok (.iload_n 3, 1) := by decide +kernel
theorem dX4_retraceFrom_40 : decode cX4_retraceFrom 40 = .ok (.invokestatic 98, 3) := by decide +kernel
theorem dX4_retraceFrom_43 : decode cX4_retraceFrom 43 = .ok (.iload 4, 2) := by decide +kernel
theorem dX4_retraceFrom_45 : decode cX4_retraceFrom 45 = .ok (.invokestatic 98, 3) := by decide +kernel
theorem dX4_retraceFrom_48 : decode cX4_retraceFrom 48 = .ok (.iadd, 1) := by decide +kernel
theorem dX4_retraceFrom_49 : decode cX4_retraceFrom 49 = .ok (.aload_n 0, 1) := by decide +kernel
theorem dX4_retraceFrom_50 : decode cX4_retraceFrom 50 = .ok (.getfield 56, 3) := by decide +kernel
theorem dX4_retraceFrom_53 : decode cX4_retraceFrom 53 = .ok (.if_icmp .gt 7, 3) := by decide +kernel
theorem dX4_retraceFrom_60 : decode cX4_retraceFrom 60 = .ok (.iconst 0, 1) := by decide +kernel
theorem dX4_retraceFrom_61 : decode cX4_retraceFrom 61 = .ok (.ireturn, 1) := by decide +kernel
theorem dX4_retraceFrom_56 : decode cX4_retraceFrom 56 = .ok (.iconst 1, 1) := by decide +kernel
theorem dX4_retraceFrom_57 : decode cX4_retraceFrom 57 = .ok (.goto 4, 3) := by decide +kernel
theorem dX4_retraceHour_0 : decode cX4_retraceHour 0 = .ok (.aload_n 0, 1) := by decide +kernel
theorem dX4_retraceHour_1 : decode cX4_retraceHour 1 = .ok (.getfield 11, 3) := by decide +kernel
theorem dX4_retraceHour_4 : decode cX4_retraceHour 4 = .ok (.iload_n 1, 1) := by decide +kernel
theorem dX4_retraceHour_5 : decode cX4_retraceHour 5 = .ok (.bipush 10, 2) := by decide +kernel
theorem dX4_retraceHour_7 : decode cX4_retraceHour 7 = .ok (.imul, 1) := by decide +kernel
theorem dX4_retraceHour_8 : decode cX4_retraceHour 8 = .ok (.iload_n 2, 1) := by decide +kernel
theorem dX4_retraceHour_9 : decode cX4_retraceHour 9 = .ok (.iadd, 1) := by decide +kernel
theorem dX4_retraceHour_10 : decode cX4_retraceHour 10 = .ok (.iaload, 1) := by decide +kernel
theorem dX4_retraceHour_11 : decode cX4_retraceHour 11 = .ok (.invokestatic 105, 3) := by decide +kernel
theorem dX4_retraceHour_14 : decode cX4_retraceHour 14 = .ok (.istore 5, 2) := by decide +kernel
theorem dX4_retraceHour_16 : decode cX4_retraceHour 16 = .ok (.aload_n 0, 1) := by decide +kernel
theorem dX4_retraceHour_17 : decode cX4_retraceHour 17 = .ok (.getfield 11, 3) := by decide +kernel
theorem dX4_retraceHour_20 : decode cX4_retraceHour 20 = .ok (.iload_n 1, 1) := by decide +kernel
theorem dX4_retraceHour_21 : decode cX4_retraceHour 21 = .ok (.iconst 1, 1) := by decide +kernel
theorem dX4_retraceHour_22 : decode cX4_retraceHour 22 = .ok (.iadd, 1) := by decide +kernel
theorem dX4_retraceHour_23 : decode cX4_retraceHour 23 = .ok (.bipush 10, 2) := by decide +kernel
theorem dX4_retraceHour_25 : decode cX4_retraceHour 25 = .ok (.imul, 1) := by decide +kernel
theorem dX4_retraceHour_26 : decode cX4_retraceHour 26 = .ok (.iload_n 2, 1) := by decide +kernel
theorem dX4_retraceHour_27 : decode cX4_retraceHour 27 = .ok (.iadd, 1) := by decide +kernel
theorem dX4_retraceHour_28 : decode cX4_retraceHour 28 = .ok (.iaload, 1) := by decide +kernel
theorem dX4_retraceHour_29 : decode cX4_retraceHour 29 = .ok (.ifCond .lt 43, 3) := by decide +kernel
theorem dX4_retraceHour_72 : decode cX4_retraceHour 72 = .ok (.iconst 0, 1) := by decide +kernel
theorem dX4_retraceHour_73 : decode cX4_retraceHour 73 = .ok (.ireturn, 1) := by decide +kernel
theorem dX4_retraceHour_32 : decode cX4_retraceHour 32 = .ok (.aload_n 0, 1) := by decide +kernel
theorem dX4_retraceHour_33 : decode cX4_retraceHour 33 = .ok (.iload_n 1, 1) := by decide +kernel
theorem dX4_retraceHour_34 : decode cX4_retraceHour 34 = .ok (.iconst 1, 1) := by decide +kernel
theorem dX4_retraceHour_35 : decode cX4_retraceHour 35 = .ok (.iadd, 1) := by decide +kernel
theorem dX4_retraceHour_36 : decode cX4_retraceHour 36 = .ok (.iload_n 2, 1) := by decide +kernel
theorem dX4_retraceHour_37 : decode cX4_retraceHour 37 = .ok (.iload_n 3, 1) := by decide +kernel
theorem dX4_retraceHour_38 : decode cX4_retraceHour 38 = .ok (.aload_n 0, 1) := by decide +kernel
theorem dX4_retraceHour_39 : decode cX4_retraceHour 39 = .ok (.getfield 30, 3) := by decide +kernel
theorem dX4_retraceHour_42 : decode cX4_retraceHour 42 = .ok (.getfield 108, 3) := by decide +kernel
theorem dX4_retraceHour_45 : decode cX4_retraceHour 45 = .ok (.iload 5, 2) := by decide +kernel
theorem dX4_retraceHour_47 : decode cX4_retraceHour 47 = .ok (.iaload, 1) := by decide +kernel
theorem dX4_retraceHour_48 : decode cX4_retraceHour 48 = .ok (.iadd, 1) := by decide +kernel
theorem dX4_retraceHour_49 : decode cX4_retraceHour 49 = .ok (.iload 4, 2) := by decide +kernel
theorem dX4_retraceHour_51 : decode cX4_retraceHour 51 = .ok (.aload_n 0, 1) := by decide +kernel
theorem dX4_retraceHour_52 : decode cX4_retraceHour 52 = .ok (.getfield 30, 3) := by decide +kernel
theorem dX4_retraceHour_55 : decode cX4_retraceHour 55 = .ok (.getfield 113, 3) := by decide +kernel
theorem dX4_retraceHour_58 : decode cX4_retraceHour 58 = .ok (.iload 5, 2) := by decide +kernel
theorem dX4_retraceHour_60 : decode cX4_retraceHour 60 = .ok (.iaload, 1) := by decide +kernel
theorem dX4_retraceHour_61 : decode cX4_retraceHour 61 = .ok (.iadd, 1) := by decide +kernel
theorem dX4_retraceHour_62 : decode cX4_retraceHour 62 = .ok (.invokevirtual 124, 3) := by decide +kernel
theorem dX4_retraceHour_65 : decode cX4_retraceHour 65 = .ok (.ifCond .eq 7, 3) := by decide +kernel
theorem dX4_retraceHour_68 : decode cX4_retraceHour 68 = .ok (.iconst 1, 1) := by decide +kernel
theorem dX4_retraceHour_69 : decode cX4_retraceHour 69 = .ok (.goto 4, 3) := by decide +kernel
theorem dX4_retrace_0 : decode cX4_retrace 0 = .ok (.aload_n 0, 1) := by decide +kernel
theorem dX4_retrace_1 : decode cX4_retrace 1 = .ok (.getfield 26, 3) := by decide +kernel
theorem dX4_retrace_4 : decode cX4_retrace 4 = .ok (.aload_n 0, 1) := by decide +kernel
theorem dX4_retrace_5 : decode cX4_retrace 5 = .ok (.getfield 40, 3) := by decide +kernel
theorem dX4_retrace_8 : decode cX4_retrace 8 = .ok (.invokevirtual 34, 3) := by decide +kernel
theorem dX4_retrace_11 : decode cX4_retrace 11 = .ok (.ifCond .eq 40, 3) := by decide +kernel
theorem dX4_retrace_51 : decode cX4_retrace 51 = .ok (.iconst 0, 1) := by decide +kernel
theorem dX4_retrace_52 : decode cX4_retrace 52 = .ok (.ireturn, 1) := by decide +kernel
theorem dX4_retrace_14 : decode cX4_retrace 14 = .ok (.aload_n 0, 1) := by decide +kernel
theorem dX4_retrace_15 : decode cX4_retrace 15 = .ok (.iconst 0, 1) := by decide +kernel
theorem dX4_retrace_16 : decode cX4_retrace 16 = .ok (.iconst 0, 1) := by decide +kernel
theorem dX4_retrace_17 : decode cX4_retrace 17 = .ok (.aload_n 0, 1) := by decide +kernel
theorem dX4_retrace_18 : decode cX4_retrace 18 = .ok (.getfield 26, 3) := by decide +kernel
theorem dX4_retrace_21 : decode cX4_retrace 21 = .ok (.getfield 80, 3) := by decide +kernel
theorem dX4_retrace_24 : decode cX4_retrace 24 = .ok (.aload_n 0, 1) := by decide +kernel
theorem dX4_retrace_25 : decode cX4_retrace 25 = .ok (.getfield 40, 3) := by decide +kernel
theorem dX4_retrace_28 : decode cX4_retrace 28 = .ok (.iaload, 1) := by decide +kernel
theorem dX4_retrace_29 : decode cX4_retrace 29 = .ok (.aload_n 0, 1) := by decide +kernel
theorem dX4_retrace_30 : decode cX4_retrace 30 = .ok (.getfield 26, 3) := by decide +kernel
theorem dX4_retrace_33 : decode cX4_retrace 33 = .ok (.getfield 83, 3) := by decide +kernel
theorem dX4_retrace_36 : decode cX4_retrace 36 = .ok (.aload_n 0, 1) := by decide +kernel
theorem dX4_retrace_37 : decode cX4_retrace 37 = .ok (.getfield 40, 3) := by decide +kernel
theorem dX4_retrace_40 : decode cX4_retrace 40 = .ok (.iaload, 1) := by decide +kernel
theorem dX4_retrace_41 : decode cX4_retrace 41 = .ok (.invokevirtual 124, 3) := by decide +kernel
theorem dX4_retrace_44 : decode cX4_retrace 44 = .ok (.ifCond .eq 7, 3) := by decide +kernel
theorem dX4_retrace_47 : decode cX4_retrace 47 = .ok (.iconst 1, 1) := by decide +kernel
theorem dX4_retrace_48 : decode cX4_retrace 48 = .ok (.goto 4, 3) := by decide +kernel
theorem dX5_add_0 : decode cX5_add 0 = .ok (.aload_n 0, 1) := by decide +kernel
theorem dX5_add_1 : decode cX5_add 1 = .ok (.getfield 33, 3) := by decide +kernel
theorem dX5_add_4 : decode cX5_add 4 = .ok (.bipush 12, 2) := by decide +kernel
theorem dX5_add_6 : decode cX5_add 6 = .ok (.if_icmp .ge 43, 3) := by decide +kernel
theorem dX5_add_49 : decode cX5_add 49 = .ok (.return_, 1) := by decide +kernel
theorem dX5_add_9 : decode cX5_add 9 = .ok (.aload_n 0, 1) := by decide +kernel
theorem dX5_add_10 : decode cX5_add 10 = .ok (.getfield 9, 3) := by decide +kernel
theorem dX5_add_13 : decode cX5_add 13 = .ok (.aload_n 0, 1) := by decide +kernel
theorem dX5_add_14 : decode cX5_add 14 = .ok (.getfield 33, 3) := by decide +kernel
theorem dX5_add_17 : decode cX5_add 17 = .ok (.iload_n 1, 1) := by decide +kernel
theorem dX5_add_18 : decode cX5_add 18 = .ok (.iastore, 1) := by decide +kernel
theorem dX5_add_19 : decode cX5_add 19 = .ok (.aload_n 0, 1) := by decide +kernel
theorem dX5_add_20 : decode cX5_add 20 = .ok (.getfield 15, 3) := by decide +kernel
theorem dX5_add_23 : decode cX5_add 23 = .ok (.aload_n 0, 1) := by decide +kernel
theorem dX5_add_24 : decode cX5_add 24 = .ok (.getfield 33, 3) := by decide +kernel
theorem dX5_add_27 : decode cX5_add 27 = .ok (.iload_n 2, 1) := by decide +kernel
theorem dX5_add_28 : decode cX5_add 28 = .ok (.iastore, 1) := by decide +kernel
theorem dX5_add_29 : decode cX5_add 29 = .ok (.aload_n 0, 1) := by decide +kernel
theorem dX5_add_30 : decode cX5_add 30 = .ok (.getfield 18, 3) := by decide +kernel
theorem dX5_add_33 : decode cX5_add 33 = .ok (.aload_n 0, 1) := by decide +kernel
theorem dX5_add_34 : decode cX5_add 34 = .ok (.getfield 33, 3) := by decide +kernel
theorem dX5_add_37 : decode cX5_add 37 = .ok (.iload_n 3, 1) := by decide +kernel
theorem dX5_add_38 : decode cX5_add 38 = .ok (.iastore, 1) := by decide +kernel
theorem dX5_add_39 : decode cX5_add 39 = .ok (.aload_n 0, 1) := by decide +kernel
theorem dX5_add_40 : decode cX5_add 40 = .ok (.dup, 1) := by decide +kernel
theorem dX5_add_41 : decode cX5_add 41 = .ok (.getfield 33, 3) := by decide +kernel
theorem dX5_add_44 : decode cX5_add 44 = .ok (.iconst 1, 1) := by decide +kernel
theorem dX5_add_45 : decode cX5_add 45 = .ok (.iadd, 1) := by decide +kernel
theorem dX5_add_46 : decode cX5_add 46 = .ok (.putfield 33, 3) := by decide +kernel
theorem dX5_allows_0 : decode cX5_allows 0 = .ok (.aload_n 0, 1) := by decide +kernel
theorem dX5_allows_1 : decode cX5_allows 1 = .ok (.getfield 15, 3) := by decide +kernel
theorem dX5_allows_4 : decode cX5_allows 4 = .ok (.iload_n 1, 1) := by decide +kernel
theorem dX5_allows_5 : decode cX5_allows 5 = .ok (.iaload, 1) := by decide +kernel
theorem dX5_allows_6 : decode cX5_allows 6 = .ok (.lookupswitch 67 #[(0, 26), (1, 47)], 26) := by decide +kernel
theorem dX5_allows_32 : decode cX5_allows 32 = .ok (.aload_n 2, 1) := by decide +kernel
theorem dX5_allows_33 : decode cX5_allows 33 = .ok (.getfield 44, 3) := by decide +kernel
theorem dX5_allows_36 : decode cX5_allows 36 = .ok (.iload_n 3, 1) := by decide +kernel
theorem dX5_allows_37 : decode cX5_allows 37 = .ok (.iaload, 1) := by decide +kernel
theorem dX5_allows_38 : decode cX5_allows 38 = .ok (.aload_n 0, 1) := by decide +kernel
theorem dX5_allows_39 : decode cX5_allows 39 = .ok (.getfield 18, 3) := by decide +kernel
theorem dX5_allows_42 : decode cX5_allows 42 = .ok (.iload_n 1, 1) := by decide +kernel
theorem dX5_allows_43 : decode cX5_allows 43 = .ok (.iaload, 1) := by decide +kernel
theorem dX5_allows_44 : decode cX5_allows 44 = .ok (.if_icmp .lt 7, 3) := by decide +kernel
theorem dX5_allows_51 : decode cX5_allows 51 = .ok (.iconst 0, 1) := by decide +kernel
theorem dX5_allows_52 : decode cX5_allows 52 = .ok (.ireturn, 1) := by decide +kernel
theorem dX5_allows_47 : decode cX5_allows 47 = .ok (.iconst 1, 1) := by decide +kernel
theorem dX5_allows_48 : decode cX5_allows 48 = .ok (.goto 4, 3) := by decide +kernel
theorem dX5_allows_53 : decode cX5_allows 53 = .ok (.aload_n 2, 1) := by decide +kernel
theorem dX5_allows_54 : decode cX5_allows 54 = .ok (.iload_n 3, 1) := by decide +kernel
theorem dX5_allows_55 : decode cX5_allows 55 = .ok (.invokevirtual 47, 3) := by decide +kernel
theorem dX5_allows_58 : decode cX5_allows 58 = .ok (.aload_n 0, 1) := by decide +kernel
theorem dX5_allows_59 : decode cX5_allows 59 = .ok (.getfield 18, 3) := by decide +kernel
theorem dX5_allows_62 : decode cX5_allows 62 = .ok (.iload_n 1, 1) := by decide +kernel
theorem dX5_allows_63 : decode cX5_allows 63 = .ok (.iaload, 1) := by decide +kernel
theorem dX5_allows_64 : decode cX5_allows 64 = .ok (.if_icmp .gt 7, 3) := by decide +kernel
theorem dX5_allows_71 : decode cX5_allows 71 = .ok (.iconst 0, 1) := by decide +kernel
theorem dX5_allows_72 : decode cX5_allows 72 = .ok (.ireturn, 1) := by decide +kernel
theorem dX5_allows_67 : decode cX5_allows 67 = .ok (.iconst 1, 1) := by decide +kernel
theorem dX5_allows_68 : decode cX5_allows 68 = .ok (.goto 4, 3) := by decide +kernel
theorem dX5_allows_73 : decode cX5_allows 73 = .ok (.iload_n 3, 1) := by decide +kernel
theorem dX5_allows_74 : decode cX5_allows 74 = .ok (.aload_n 0, 1) := by decide +kernel
theorem dX5_allows_75 : decode cX5_allows 75 = .ok (.getfield 18, 3) := by decide +kernel
theorem dX5_allows_78 : decode cX5_allows 78 = .ok (.iload_n 1, 1) := by decide +kernel
theorem dX5_allows_79 : decode cX5_allows 79 = .ok (.iaload, 1) := by decide +kernel
theorem dX5_allows_80 : decode cX5_allows 80 = .ok (.if_icmp .eq 7, 3) := by decide +kernel
theorem dX5_allows_87 : decode cX5_allows 87 = .ok (.iconst 0, 1) := by decide +kernel
theorem dX5_allows_88 : decode cX5_allows 88 = .ok (.ireturn, 1) := by decide +kernel
theorem dX5_allows_83 : decode cX5_allows 83 = .ok (.iconst 1, 1) := by decide +kernel
theorem dX5_allows_84 : decode cX5_allows 84 = .ok (.goto 4, 3) := by decide +kernel
theorem dX5_fitting_0 : decode cX5_fitting 0 = .ok (.iconst 0, 1) := by decide +kernel
theorem dX5_fitting_1 : decode cX5_fitting 1 = .ok (.istore_n 3, 1) := by decide +kernel
theorem dX5_fitting_2 : decode cX5_fitting 2 = .ok (.iconst 0, 1) := by decide +kernel
theorem dX5_fitting_3 : decode cX5_fitting 3 = .ok (.istore 4, 2) := by decide +kernel
theorem dX5_fitting_5 : decode cX5_fitting 5 = .ok (.iload 4, 2) := by decide +kernel
theorem dX5_fitting_7 : decode cX5_fitting 7 = .ok (.aload_n 1, 1) := by decide +kernel
theorem dX5_fitting_8 : decode cX5_fitting 8 = .ok (.getfield 37, 3) := by decide +kernel
theorem dX5_fitting_11 : decode cX5_fitting 11 = .ok (.if_icmp .ge 81, 3) := by decide +kernel
theorem dX5_fitting_14 : decode cX5_fitting 14 = .ok (.iconst 1, 1) := by decide +kernel
theorem dX5_fitting_15 : decode cX5_fitting 15 = .ok (.istore 5, 2) := by decide +kernel
theorem dX5_fitting_17 : decode cX5_fitting 17 = .ok (.iconst 0, 1) := by decide +kernel
theorem dX5_fitting_18 : decode cX5_fitting 18 = .ok (.istore 6, 2) := by decide +kernel
theorem dX5_fitting_20 : decode cX5_fitting 20 = .ok (.iload 6, 2) := by decide +kernel
theorem dX5_fitting_22 : decode cX5_fitting 22 = .ok (.aload_n 0, 1) := by decide +kernel
theorem dX5_fitting_23 : decode cX5_fitting 23 = .ok (.getfield 33, 3) := by decide +kernel
theorem dX5_fitting_26 : decode cX5_fitting 26 = .ok (.if_icmp .ge 44, 3) := by decide +kernel
theorem dX5_fitting_29 : decode cX5_fitting 29 = .ok (.iload 5, 2) := by decide +kernel
theorem dX5_fitting_62 : decode cX5_fitting 62 = .ok (.istore 5, 2) := by decide +kernel
theorem dX5_fitting_64 : decode cX5_fitting 64 = .ok (.iinc 6 1, 3) := by decide +kernel
theorem dX5_fitting_67 : decode cX5_fitting 67 = .ok (.goto (-47), 3) := by decide +kernel
theorem dX5_fitting_61 : decode cX5_fitting 61 = .ok (.iconst 0, 1) := by decide +kernel
theorem dX5_fitting_31 : decode cX5_fitting 31 = .ok (.ifCond .eq 30, 3) := by decide +kernel
theorem dX5_fitting_34 : decode cX5_fitting 34 = .ok (.aload_n 0, 1) := by decide +kernel
theorem dX5_fitting_35 : decode cX5_fitting 35 = .ok (.getfield 9, 3) := by decide +kernel
theorem dX5_fitting_38 : decode cX5_fitting 38 = .ok (.iload 6, 2) := by decide +kernel
theorem dX5_fitting_40 : decode cX5_fitting 40 = .ok (.iaload, 1) := by decide +kernel
theorem dX5_fitting_41 : decode cX5_fitting 41 = .ok (.iload_n 2, 1) := by decide +kernel
theorem dX5_fitting_57 : decode cX5_fitting 57 = .ok (.iconst 1, 1) := by decide +kernel
theorem dX5_fitting_58 : decode cX5_fitting 58 = .ok (.goto 4, 3) := by decide +kernel
theorem dX5_fitting_42 : decode cX5_fitting 42 = .ok (.if_icmp .ne 15, 3) := by decide +kernel
theorem dX5_fitting_45 : decode cX5_fitting 45 = .ok (.aload_n 0, 1) := by decide +kernel
theorem dX5_fitting_46 : decode cX5_fitting 46 = .ok (.iload 6, 2) := by decide +kernel
theorem dX5_fitting_48 : decode cX5_fitting 48 = .ok (.aload_n 1, 1) := by decide +kernel
theorem dX5_fitting_49 : decode cX5_fitting 49 = .ok (.iload 4, 2) := by decide +kernel
theorem dX5_fitting_51 : decode cX5_fitting 51 = .ok (.invokevirtual 40, 3) := by decide +kernel
theorem dX5_fitting_54 : decode cX5_fitting 54 = .ok (.ifCond .eq 7, 3) := by decide +kernel
theorem dX5_fitting_70 : decode cX5_fitting 70 = .ok (.iload_n 3, 1) := by decide +kernel
theorem dX5_fitting_71 : decode cX5_fitting 71 = .ok (.iload 5, 2) := by decide +kernel
theorem dX5_fitting_84 : decode cX5_fitting 84 = .ok (.ior, 1) := by decide +kernel
theorem dX5_fitting_85 : decode cX5_fitting 85 = .ok (.istore_n 3, 1) := by decide +kernel
theorem dX5_fitting_86 : decode cX5_fitting 86 = .ok (.iinc 4 1, 3) := by decide +kernel
theorem dX5_fitting_89 : decode cX5_fitting 89 = .ok (.goto (-84), 3) := by decide +kernel
theorem dX5_fitting_73 : decode cX5_fitting 73 = .ok (.ifCond .eq 10, 3) := by decide +kernel
theorem dX5_fitting_83 : decode cX5_fitting 83 = .ok (.iconst 0, 1) := by decide +kernel
theorem dX5_fitting_76 : decode cX5_fitting 76 = .ok (.iconst 1, 1) := by decide +kernel
theorem dX5_fitting_77 : decode cX5_fitting 77 = .ok (.iload 4, 2) := by decide +kernel
theorem dX5_fitting_79 : decode cX5_fitting 79 = .ok (.ishl, 1) := by decide +kernel
theorem dX5_fitting_80 : decode cX5_fitting 80 = .ok (.goto 4, 3) := by decide +kernel
theorem dX5_fitting_92 : decode cX5_fitting 92 = .ok (.iload_n 3, 1) := by decide +kernel
theorem dX5_fitting_93 : decode cX5_fitting 93 = .ok (.ireturn, 1) := by decide +kernel
theorem dX5_isSeen_0 : decode cX5_isSeen 0 = .ok (.iconst 0, 1) := by decide +kernel
theorem dX5_isSeen_1 : decode cX5_isSeen 1 = .ok (.istore_n 2, 1) := by decide +kernel
theorem dX5_isSeen_2 : decode cX5_isSeen 2 = .ok (.iload_n 2, 1) := by decide +kernel
theorem dX5_isSeen_3 : decode cX5_isSeen 3 = .ok (.aload_n 0, 1) := by decide +kernel
theorem dX5_isSeen_4 : decode cX5_isSeen 4 = .ok (.getfield 33, 3) := by decide +kernel
theorem dX5_isSeen_7 : decode cX5_isSeen 7 = .ok (.if_icmp .ge 21, 3) := by decide +kernel
theorem dX5_isSeen_10 : decode cX5_isSeen 10 = .ok (.aload_n 0, 1) := by decide +kernel
theorem dX5_isSeen_11 : decode cX5_isSeen 11 = .ok (.getfield 9, 3) := by decide +kernel
theorem dX5_isSeen_14 : decode cX5_isSeen 14 = .ok (.iload_n 2, 1) := by decide +kernel
theorem dX5_isSeen_15 : decode cX5_isSeen 15 = .ok (.iaload, 1) := by decide +kernel
theorem dX5_isSeen_16 : decode cX5_isSeen 16 = .ok (.iload_n 1, 1) := by decide +kernel
theorem dX5_isSeen_17 : decode cX5_isSeen 17 = .ok (.if_icmp .ne 5, 3) := by decide +kernel
theorem dX5_isSeen_22 : decode cX5_isSeen 22 = .ok (.iinc 2 1, 3) := by decide +kernel
theorem dX5_isSeen_25 : decode cX5_isSeen 25 = .ok (.goto (-23), 3) := by decide +kernel
theorem dX5_isSeen_20 : decode cX5_isSeen 20 = .ok (.iconst 1, 1) := by decide +kernel
theorem dX5_isSeen_21 : decode cX5_isSeen 21 = .ok (.ireturn, 1) := by decide +kernel
theorem dX5_isSeen_28 : decode cX5_isSeen 28 = .ok (.iconst 0, 1) := by decide +kernel
theorem dX5_isSeen_29 : decode cX5_isSeen 29 = .ok (.ireturn, 1) := by decide +kernel
theorem dX5_noteWay_0 : decode cX5_noteWay 0 = .ok (.aload_n 0, 1) := by decide +kernel
theorem dX5_noteWay_1 : decode cX5_noteWay 1 = .ok (.dup, 1) := by decide +kernel
theorem dX5_noteWay_2 : decode cX5_noteWay 2 = .ok (.getfield 62, 3) := by decide +kernel
theorem dX5_noteWay_5 : decode cX5_noteWay 5 = .ok (.iconst 1, 1) := by decide +kernel
theorem dX5_noteWay_6 : decode cX5_noteWay 6 = .ok (.iadd, 1) := by decide +kernel
theorem dX5_noteWay_7 : decode cX5_noteWay 7 = .ok (.putfield 62, 3) := by decide +kernel
theorem dX5_noteWay_10 : decode cX5_noteWay 10 = .ok (.iconst 0, 1) := by decide +kernel
theorem dX5_noteWay_11 : decode cX5_noteWay 11 = .ok (.istore_n 1, 1) := by decide +kernel
theorem dX5_noteWay_12 : decode cX5_noteWay 12 = .ok (.iload_n 1, 1) := by decide +kernel
theorem dX5_noteWay_13 : decode cX5_noteWay 13 = .ok (.aload_n 0, 1) := by decide +kernel
theorem dX5_noteWay_14 : decode cX5_noteWay 14 = .ok (.getfield 51, 3) := by decide +kernel
theorem dX5_noteWay_17 : decode cX5_noteWay 17 = .ok (.if_icmp .ge 61, 3) := by decide +kernel
theorem dX5_noteWay_20 : decode cX5_noteWay 20 = .ok (.aload_n 0, 1) := by decide +kernel
theorem dX5_noteWay_21 : decode cX5_noteWay 21 = .ok (.getfield 62, 3) := by decide +kernel
theorem dX5_noteWay_24 : decode cX5_noteWay 24 = .ok (.iconst 1, 1) := by decide +kernel
theorem dX5_noteWay_72 : decode cX5_noteWay 72 = .ok (.iinc 1 1, 3) := by decide +kernel
theorem dX5_noteWay_75 : decode cX5_noteWay 75 = .ok (.goto (-63), 3) := by decide +kernel
theorem dX5_noteWay_25 : decode cX5_noteWay 25 = .ok (.if_icmp .ne 18, 3) := by decide +kernel
theorem dX5_noteWay_43 : decode cX5_noteWay 43 = .ok (.aload_n 0, 1) := by decide +kernel
theorem dX5_noteWay_44 : decode cX5_noteWay 44 = .ok (.getfield 30, 3) := by decide +kernel
theorem dX5_noteWay_47 : decode cX5_noteWay 47 = .ok (.iload_n 1, 1) := by decide +kernel
theorem dX5_noteWay_48 : decode cX5_noteWay 48 = .ok (.iaload, 1) := by decide +kernel
theorem dX5_noteWay_49 : decode cX5_noteWay 49 = .ok (.aload_n 0, 1) := by decide +kernel
theorem dX5_noteWay_50 : decode cX5_noteWay 50 = .ok (.getfield 27, 3) := by decide +kernel
theorem dX5_noteWay_53 : decode cX5_noteWay 53 = .ok (.iload_n 1, 1) := by decide +kernel
theorem dX5_noteWay_54 : decode cX5_noteWay 54 = .ok (.iaload, 1) := by decide +kernel
theorem dX5_noteWay_55 : decode cX5_noteWay 55 = .ok (.if_icmp .eq 17, 3) := by decide +kernel
theorem dX5_noteWay_58 : decode cX5_noteWay 58 = .ok (.aload_n 0, 1) := by decide +kernel
theorem dX5_noteWay_59 : decode cX5_noteWay 59 = .ok (.dup, 1) := by decide +kernel
theorem dX5_noteWay_60 : decode cX5_noteWay 60 = .ok (.getfield 65, 3) := by decide +kernel
theorem dX5_noteWay_63 : decode cX5_noteWay 63 = .ok (.iconst 1, 1) := by decide +kernel
theorem dX5_noteWay_64 : decode cX5_noteWay 64 = .ok (.iload_n 1, 1) := by decide +kernel
theorem dX5_noteWay_65 : decode cX5_noteWay 65 = .ok (.ishl, 1) := by decide +kernel
theorem dX5_noteWay_66 : decode cX5_noteWay 66 = .ok (.iconst (-1), 1) := by decide +kernel
theorem dX5_noteWay_67 : decode cX5_noteWay 67 = .ok (.ixor, 1) := by decide +kernel
theorem dX5_noteWay_68 : decode cX5_noteWay 68 = .ok (.iand, 1) := by decide +kernel
theorem dX5_noteWay_69 : decode cX5_noteWay 69 = .ok (.putfield 65, 3) := by decide +kernel
theorem dX5_noteWay_28 : decode cX5_noteWay 28 = .ok (.aload_n 0, 1) := by decide +kernel
theorem dX5_noteWay_29 : decode cX5_noteWay 29 = .ok (.getfield 30, 3) := by decide +kernel
theorem dX5_noteWay_32 : decode cX5_noteWay 32 = .ok (.iload_n 1, 1) := by decide +kernel
theorem dX5_noteWay_33 : decode cX5_noteWay 33 = .ok (.aload_n 0, 1) := by decide +kernel
theorem dX5_noteWay_34 : decode cX5_noteWay 34 = .ok (.getfield 27, 3) := by decide +kernel
theorem dX5_noteWay_37 : decode cX5_noteWay 37 = .ok (.iload_n 1, 1) := by decide +kernel
theorem dX5_noteWay_38 : decode cX5_noteWay 38 = .ok (.iaload, 1) := by decide +kernel
theorem dX5_noteWay_39 : decode cX5_noteWay 39 = .ok (.iastore, 1) := by decide +kernel
theorem dX5_noteWay_40 : decode cX5_noteWay 40 = .ok (.goto 32, 3) := by decide +kernel
theorem dX5_noteWay_78 : decode cX5_noteWay 78 = .ok (.return_, 1) := by decide +kernel
theorem dX5_goFrom_0 : decode cX5_goFrom 0 = .ok (.iload_n 1, 1) := by decide +kernel
theorem dX5_goFrom_1 : decode cX5_goFrom 1 = .ok (.aload_n 0, 1) := by decide +kernel
theorem dX5_goFrom_2 : decode cX5_goFrom 2 = .ok (.getfield 51, 3) := by decide +kernel
theorem dX5_goFrom_5 : decode cX5_goFrom 5 = .ok (.if_icmp .lt 8, 3) := by decide +kernel
theorem dX5_goFrom_13 : decode cX5_goFrom 13 = .ok (.aload_n 0, 1) := by decide +kernel
theorem dX5_goFrom_14 : decode cX5_goFrom 14 = .ok (.getfield 24, 3) := by decide +kernel
theorem dX5_goFrom_17 : decode cX5_goFrom 17 = .ok (.iload_n 1, 1) := by decide +kernel
theorem dX5_goFrom_18 : decode cX5_goFrom 18 = .ok (.iaload, 1) := by decide +kernel
theorem dX5_goFrom_19 : decode cX5_goFrom 19 = .ok (.iload_n 2, 1) := by decide +kernel
theorem dX5_goFrom_20 : decode cX5_goFrom 20 = .ok (.iconst (-1), 1) := by decide +kernel
theorem dX5_goFrom_21 : decode cX5_goFrom 21 = .ok (.ixor, 1) := by decide +kernel
theorem dX5_goFrom_22 : decode cX5_goFrom 22 = .ok (.iand, 1) := by decide +kernel
theorem dX5_goFrom_23 : decode cX5_goFrom 23 = .ok (.istore_n 3, 1) := by decide +kernel
theorem dX5_goFrom_24 : decode cX5_goFrom 24 = .ok (.iconst 0, 1) := by decide +kernel
theorem dX5_goFrom_25 : decode cX5_goFrom 25 = .ok (.istore 4, 2) := by decide +kernel
theorem dX5_goFrom_27 : decode cX5_goFrom 27 = .ok (.iload 4, 2) := by decide +kernel
theorem dX5_goFrom_29 : decode cX5_goFrom 29 = .ok (.bipush 6, 2) := by decide +kernel
theorem dX5_goFrom_31 : decode cX5_goFrom 31 = .ok (.if_icmp .ge 27, 3) := by decide +kernel
theorem dX5_goFrom_34 : decode cX5_goFrom 34 = .ok (.iload_n 3, 1) := by decide +kernel
theorem dX5_goFrom_35 : decode cX5_goFrom 35 = .ok (.iload 4, 2) := by decide +kernel
theorem dX5_goFrom_37 : decode cX5_goFrom 37 = .ok (.ishr, 1) := by decide +kernel
theorem dX5_goFrom_38 : decode cX5_goFrom 38 = .ok (.iconst 1, 1) := by decide +kernel
theorem dX5_goFrom_39 : decode cX5_goFrom 39 = .ok (.iand, 1) := by decide +kernel
theorem dX5_goFrom_40 : decode cX5_goFrom 40 = .ok (.iconst 1, 1) := by decide +kernel
theorem dX5_goFrom_52 : decode cX5_goFrom 52 = .ok (.iinc 4 1, 3) := by decide +kernel
theorem dX5_goFrom_55 : decode cX5_goFrom 55 = .ok (.goto (-28), 3) := by decide +kernel
theorem dX5_goFrom_41 : decode cX5_goFrom 41 = .ok (.if_icmp .ne 11, 3) := by decide +kernel
theorem dX5_goFrom_44 : decode cX5_goFrom 44 = .ok (.aload_n 0, 1) := by decide +kernel
theorem dX5_goFrom_45 : decode cX5_goFrom 45 = .ok (.iload_n 1, 1) := by decide +kernel
theorem dX5_goFrom_46 : decode cX5_goFrom 46 = .ok (.iload 4, 2) := by decide +kernel
theorem dX5_goFrom_48 : decode cX5_goFrom 48 = .ok (.iload_n 2, 1) := by decide +kernel
theorem dX5_goFrom_49 : decode cX5_goFrom 49 = .ok (.invokevirtual 75, 3) := by decide +kernel
theorem dX5_goFrom_58 : decode cX5_goFrom 58 = .ok (.return_, 1) := by decide +kernel
theorem dX5_goFrom_8 : decode cX5_goFrom 8 = .ok (.aload_n 0, 1) := by decide +kernel
theorem dX5_goFrom_9 : decode cX5_goFrom 9 = .ok (.invokevirtual 72, 3) := by decide +kernel
theorem dX5_goFrom_12 : decode cX5_goFrom 12 = .ok (.return_, 1) := by decide +kernel
theorem dX5_goWith_0 : decode cX5_goWith 0 = .ok (.aload_n 0, 1) := by decide +kernel
theorem dX5_goWith_1 : decode cX5_goWith 1 = .ok (.getfield 27, 3) := by decide +kernel
theorem dX5_goWith_4 : decode cX5_goWith 4 = .ok (.iload_n 1, 1) := by decide +kernel
theorem dX5_goWith_5 : decode cX5_goWith 5 = .ok (.iload_n 2, 1) := by decide +kernel
theorem dX5_goWith_6 : decode cX5_goWith 6 = .ok (.iastore, 1) := by decide +kernel
theorem dX5_goWith_7 : decode cX5_goWith 7 = .ok (.aload_n 0, 1) := by decide +kernel
theorem dX5_goWith_8 : decode cX5_goWith 8 = .ok (.iload_n 1, 1) := by decide +kernel
theorem dX5_goWith_9 : decode cX5_goWith 9 = .ok (.iconst 1, 1) := by decide +kernel
theorem dX5_goWith_10 : decode cX5_goWith 10 = .ok (.iadd, 1) := by decide +kernel
theorem dX5_goWith_11 : decode cX5_goWith 11 = .ok (.iload_n 3, 1) := by decide +kernel
theorem dX5_goWith_12 : decode cX5_goWith 12 = .ok (.iconst 1, 1) := by decide +kernel
theorem dX5_goWith_13 : decode cX5_goWith 13 = .ok (.iload_n 2, 1) := by decide +kernel
theorem dX5_goWith_14 : decode cX5_goWith 14 = .ok (.ishl, 1) := by decide +kernel
theorem dX5_goWith_15 : decode cX5_goWith 15 = .ok (.ior, 1) := by decide +kernel
theorem dX5_goWith_16 : decode cX5_goWith 16 = .ok (.invokevirtual 68, 3) := by decide +kernel
theorem dX5_goWith_19 : decode cX5_goWith 19 = .ok (.return_, 1) := by decide +kernel
theorem dX5_goThrough_0 : decode cX5_goThrough 0 = .ok (.aload_n 0, 1) := by decide +kernel
theorem dX5_goThrough_1 : decode cX5_goThrough 1 = .ok (.iconst 0, 1) := by decide +kernel
theorem dX5_goThrough_2 : decode cX5_goThrough 2 = .ok (.putfield 51, 3) := by decide +kernel
theorem dX5_goThrough_5 : decode cX5_goThrough 5 = .ok (.iconst 0, 1) := by decide +kernel
theorem dX5_goThrough_6 : decode cX5_goThrough 6 = .ok (.istore_n 2, 1) := by decide +kernel
theorem dX5_goThrough_7 : decode cX5_goThrough 7 = .ok (.iload_n 2, 1) := by decide +kernel
theorem dX5_goThrough_8 : decode cX5_goThrough 8 = .ok (.bipush 8, 2) := by decide +kernel
theorem dX5_goThrough_10 : decode cX5_goThrough 10 = .ok (.if_icmp .ge 52, 3) := by decide +kernel
theorem dX5_goThrough_13 : decode cX5_goThrough 13 = .ok (.aload_n 0, 1) := by decide +kernel
theorem dX5_goThrough_14 : decode cX5_goThrough 14 = .ok (.iload_n 2, 1) := by decide +kernel
theorem dX5_goThrough_15 : decode cX5_goThrough 15 = .ok (.invokevirtual 54, 3) := by decide +kernel
theorem dX5_goThrough_56 : decode cX5_goThrough 56 = .ok (.iinc 2 1, 3) := by decide +kernel
theorem dX5_goThrough_59 : decode cX5_goThrough 59 = .ok (.goto (-52), 3) := by decide +kernel
theorem dX5_goThrough_18 : decode cX5_goThrough 18 = .ok (.ifCond .eq 38, 3) := by decide +kernel
theorem dX5_goThrough_21 : decode cX5_goThrough 21 = .ok (.aload_n 0, 1) := by decide +kernel
theorem dX5_goThrough_22 : decode cX5_goThrough 22 = .ok (.getfield 21, 3) := by decide +kernel
theorem dX5_goThrough_25 : decode cX5_goThrough 25 = .ok (.aload_n 0, 1) := by decide +kernel
theorem dX5_goThrough_26 : decode cX5_goThrough 26 = .ok (.getfield 51, 3) := by decide +kernel
theorem dX5_goThrough_29 : decode cX5_goThrough 29 = .ok (.iload_n 2, 1) := by decide +kernel
theorem dX5_goThrough_30 : decode cX5_goThrough 30 = .ok (.iastore, 1) := by decide +kernel
theorem dX5_goThrough_31 : decode cX5_goThrough 31 = .ok (.aload_n 0, 1) := by decide +kernel
theorem dX5_goThrough_32 : decode cX5_goThrough 32 = .ok (.getfield 24, 3) := by decide +kernel
theorem dX5_goThrough_35 : decode cX5_goThrough 35 = .ok (.aload_n 0, 1) := by decide +kernel
theorem dX5_goThrough_36 : decode cX5_goThrough 36 = .ok (.getfield 51, 3) := by decide +kernel
theorem dX5_goThrough_39 : decode cX5_goThrough 39 = .ok (.aload_n 0, 1) := by decide +kernel
theorem dX5_goThrough_40 : decode cX5_goThrough 40 = .ok (.aload_n 1, 1) := by decide +kernel
theorem dX5_goThrough_41 : decode cX5_goThrough 41 = .ok (.iload_n 2, 1) := by decide +kernel
theorem dX5_goThrough_42 : decode cX5_goThrough 42 = .ok (.invokevirtual 58, 3) := by decide +kernel
theorem dX5_goThrough_45 : decode cX5_goThrough 45 = .ok (.iastore, 1) := by decide +kernel
theorem dX5_goThrough_46 : decode cX5_goThrough 46 = .ok (.aload_n 0, 1) := by decide +kernel
theorem dX5_goThrough_47 : decode cX5_goThrough 47 = .ok (.dup, 1) := by decide +kernel
theorem dX5_goThrough_48 : decode cX5_goThrough 48 = .ok (.getfield 51, 3) := by decide +kernel
theorem dX5_goThrough_51 : decode cX5_goThrough 51 = .ok (.iconst 1, 1) := by decide +kernel
theorem dX5_goThrough_52 : decode cX5_goThrough 52 = .ok (.iadd, 1) := by decide +kernel
theorem dX5_goThrough_53 : decode cX5_goThrough 53 = .ok (.putfield 51, 3) := by decide +kernel
theorem dX5_goThrough_62 : decode cX5_goThrough 62 = .ok (.aload_n 0, 1) := by decide +kernel
theorem dX5_goThrough_63 : decode cX5_goThrough 63 = .ok (.iconst 0, 1) := by decide +kernel
theorem dX5_goThrough_64 : decode cX5_goThrough 64 = .ok (.putfield 62, 3) := by decide +kernel
theorem dX5_goThrough_67 : decode cX5_goThrough 67 = .ok (.aload_n 0, 1) := by decide +kernel
theorem dX5_goThrough_68 : decode cX5_goThrough 68 = .ok (.iconst 1, 1) := by decide +kernel
theorem dX5_goThrough_69 : decode cX5_goThrough 69 = .ok (.aload_n 0, 1) := by decide +kernel
theorem dX5_goThrough_70 : decode cX5_goThrough 70 = .ok (.getfield 51, 3) := by decide +kernel
theorem dX5_goThrough_73 : decode cX5_goThrough 73 = .ok (.ishl, 1) := by decide +kernel
theorem dX5_goThrough_74 : decode cX5_goThrough 74 = .ok (.iconst 1, 1) := by decide +kernel
theorem dX5_goThrough_75 : decode cX5_goThrough 75 = .ok (.isub, 1) := by decide +kernel
theorem dX5_goThrough_76 : decode cX5_goThrough 76 = .ok (.putfield 65, 3) := by decide +kernel
theorem dX5_goThrough_79 : decode cX5_goThrough 79 = .ok (.aload_n 0, 1) := by decide +kernel
theorem dX5_goThrough_80 : decode cX5_goThrough 80 = .ok (.iconst 0, 1) := by decide +kernel
theorem dX5_goThrough_81 : decode cX5_goThrough 81 = .ok (.iconst 0, 1) := by decide +kernel
theorem dX5_goThrough_82 : decode cX5_goThrough 82 = .ok (.invokevirtual 68, 3) := by decide +kernel
theorem dX5_goThrough_85 : decode cX5_goThrough 85 = .ok (.aload_n 0, 1) := by decide +kernel
theorem dX5_goThrough_86 : decode cX5_goThrough 86 = .ok (.getfield 62, 3) := by decide +kernel
theorem dX5_goThrough_89 : decode cX5_goThrough 89 = .ok (.ireturn, 1) := by decide +kernel
theorem dX6_note_0 : decode cX6_note 0 = .ok (.aload_n 1, 1) := by decide +kernel
theorem dX6_note_1 : decode cX6_note 1 = .ok (.aload_n 0, 1) := by decide +kernel
theorem dX6_note_2 : decode cX6_note 2 = .ok (.getfield 13, 3) := by decide +kernel
theorem dX6_note_5 : decode cX6_note 5 = .ok (.aload_n 0, 1) := by decide +kernel
theorem dX6_note_6 : decode cX6_note 6 = .ok (.getfield 24, 3) := by decide +kernel
theorem dX6_note_9 : decode cX6_note 9 = .ok (.bipush 43, 2) := by decide +kernel
theorem dX6_note_11 : decode cX6_note 11 = .ok (.imul, 1) := by decide +kernel
theorem dX6_note_12 : decode cX6_note 12 = .ok (.invokevirtual 28, 3) := by decide +kernel
theorem dX6_note_15 : decode cX6_note 15 = .ok (.return_, 1) := by decide +kernel
theorem dX6_hold_0 : decode cX6_hold 0 = .ok (.aload_n 0, 1) := by decide +kernel
theorem dX6_hold_1 : decode cX6_hold 1 = .ok (.aload_n 0, 1) := by decide +kernel
theorem dX6_hold_2 : decode cX6_hold 2 = .ok (.getfield 24, 3) := by decide +kernel
theorem dX6_hold_5 : decode cX6_hold 5 = .ok (.iconst 1, 1) := by decide +kernel
theorem dX6_hold_6 : decode cX6_hold 6 = .ok (.iadd, 1) := by decide +kernel
theorem dX6_hold_7 : decode cX6_hold 7 = .ok (.bipush 16, 2) := by decide +kernel
theorem dX6_hold_9 : decode cX6_hold 9 = .ok (.irem, 1) := by decide +kernel
theorem dX6_hold_10 : decode cX6_hold 10 = .ok (.putfield 24, 3) := by decide +kernel
theorem dX6_hold_13 : decode cX6_hold 13 = .ok (.aload_n 0, 1) := by decide +kernel
theorem dX6_hold_14 : decode cX6_hold 14 = .ok (.aload_n 0, 1) := by decide +kernel
theorem dX6_hold_15 : decode cX6_hold 15 = .ok (.getfield 32, 3) := by decide +kernel
theorem dX6_hold_18 : decode cX6_hold 18 = .ok (.iconst 1, 1) := by decide +kernel
theorem dX6_hold_19 : decode cX6_hold 19 = .ok (.iadd, 1) := by decide +kernel
theorem dX6_hold_20 : decode cX6_hold 20 = .ok (.bipush 15, 2) := by decide +kernel
theorem dX6_hold_22 : decode cX6_hold 22 = .ok (.invokestatic 35, 3) := by decide +kernel
theorem dX6_hold_25 : decode cX6_hold 25 = .ok (.putfield 32, 3) := by decide +kernel
theorem dX6_hold_28 : decode cX6_hold 28 = .ok (.return_, 1) := by decide +kernel
theorem dX6_takeBack_0 : decode cX6_takeBack 0 = .ok (.aload_n 0, 1) := by decide +kernel
theorem dX6_takeBack_1 : decode cX6_takeBack 1 = .ok (.getfield 32, 3) := by decide +kernel
theorem dX6_takeBack_4 : decode cX6_takeBack 4 = .ok (.ifCond .ne 5, 3) := by decide +kernel
theorem dX6_takeBack_9 : decode cX6_takeBack 9 = .ok (.aload_n 0, 1) := by decide +kernel
theorem dX6_takeBack_10 : decode cX6_takeBack 10 = .ok (.aload_n 0, 1) := by decide +kernel
theorem dX6_takeBack_11 : decode cX6_takeBack 11 = .ok (.getfield 24, 3) := by decide +kernel
theorem dX6_takeBack_14 : decode cX6_takeBack 14 = .ok (.bipush 16, 2) := by decide +kernel
theorem dX6_takeBack_16 : decode cX6_takeBack 16 = .ok (.iadd, 1) := by decide +kernel
theorem dX6_takeBack_17 : decode cX6_takeBack 17 = .ok (.iconst 1, 1) := by decide +kernel
theorem dX6_takeBack_18 : decode cX6_takeBack 18 = .ok (.isub, 1) := by decide +kernel
theorem dX6_takeBack_19 : decode cX6_takeBack 19 = .ok (.bipush 16, 2) := by decide +kernel
theorem dX6_takeBack_21 : decode cX6_takeBack 21 = .ok (.irem, 1) := by decide +kernel
theorem dX6_takeBack_22 : decode cX6_takeBack 22 = .ok (.putfield 24, 3) := by decide +kernel
theorem dX6_takeBack_25 : decode cX6_takeBack 25 = .ok (.aload_n 0, 1) := by decide +kernel
theorem dX6_takeBack_26 : decode cX6_takeBack 26 = .ok (.dup, 1) := by decide +kernel
theorem dX6_takeBack_27 : decode cX6_takeBack 27 = .ok (.getfield 32, 3) := by decide +kernel
theorem dX6_takeBack_30 : decode cX6_takeBack 30 = .ok (.iconst 1, 1) := by decide +kernel
theorem dX6_takeBack_31 : decode cX6_takeBack 31 = .ok (.isub, 1) := by decide +kernel
theorem dX6_takeBack_32 : decode cX6_takeBack 32 = .ok (.putfield 32, 3) := by decide +kernel
theorem dX6_takeBack_35 : decode cX6_takeBack 35 = .ok (.aload_n 1, 1) := by decide +kernel
theorem dX6_takeBack_36 : decode cX6_takeBack 36 = .ok (.aload_n 0, 1) := by decide +kernel
theorem dX6_takeBack_37 : decode cX6_takeBack 37 = .ok (.getfield 13, 3) := by decide +kernel
theorem dX6_takeBack_40 : decode cX6_takeBack 40 = .ok (.aload_n 0, 1) := by decide +kernel
theorem dX6_takeBack_41 : decode cX6_takeBack 41 = .ok (.getfield 24, 3) := by decide +kernel
theorem dX6_takeBack_44 : decode cX6_takeBack 44 = .ok (.bipush 43, 2) := by decide +kernel
theorem dX6_takeBack_46 : decode cX6_takeBack 46 = .ok (.imul, 1) := by decide +kernel
theorem dX6_takeBack_47 : decode cX6_takeBack 47 = .ok (.invokevirtual 41, 3) := by decide +kernel
theorem dX6_takeBack_50 : decode cX6_takeBack 50 = .ok (.iconst 1, 1) := by decide +kernel
theorem dX6_takeBack_51 : decode cX6_takeBack 51 = .ok (.ireturn, 1) := by decide +kernel
theorem dX6_takeBack_7 : decode cX6_takeBack 7 = .ok (.iconst 0, 1) := by decide +kernel
theorem dX6_takeBack_8 : decode cX6_takeBack 8 = .ok (.ireturn, 1) := by decide +kernel
theorem dX6_forgetActs_0 : decode cX6_forgetActs 0 = .ok (.aload_n 0, 1) := by decide +kernel
theorem dX6_forgetActs_1 : decode cX6_forgetActs 1 = .ok (.iconst 0, 1) := by decide +kernel
theorem dX6_forgetActs_2 : decode cX6_forgetActs 2 = .ok (.putfield 32, 3) := by decide +kernel
theorem dX6_forgetActs_5 : decode cX6_forgetActs 5 = .ok (.return_, 1) := by decide +kernel
theorem dX6_forgetKept_0 : decode cX6_forgetKept 0 = .ok (.iconst 0, 1) := by decide +kernel
theorem dX6_forgetKept_1 : decode cX6_forgetKept 1 = .ok (.istore_n 1, 1) := by decide +kernel
theorem dX6_forgetKept_2 : decode cX6_forgetKept 2 = .ok (.iload_n 1, 1) := by decide +kernel
theorem dX6_forgetKept_3 : decode cX6_forgetKept 3 = .ok (.iconst 3, 1) := by decide +kernel
theorem dX6_forgetKept_4 : decode cX6_forgetKept 4 = .ok (.if_icmp .ge 16, 3) := by decide +kernel
theorem dX6_forgetKept_7 : decode cX6_forgetKept 7 = .ok (.aload_n 0, 1) := by decide +kernel
theorem dX6_forgetKept_8 : decode cX6_forgetKept 8 = .ok (.getfield 20, 3) := by decide +kernel
theorem dX6_forgetKept_11 : decode cX6_forgetKept 11 = .ok (.iload_n 1, 1) := by decide +kernel
theorem dX6_forgetKept_12 : decode cX6_forgetKept 12 = .ok (.iconst 0, 1) := by decide +kernel
theorem dX6_forgetKept_13 : decode cX6_forgetKept 13 = .ok (.bastore, 1) := by decide +kernel
theorem dX6_forgetKept_14 : decode cX6_forgetKept 14 = .ok (.iinc 1 1, 3) := by decide +kernel
theorem dX6_forgetKept_17 : decode cX6_forgetKept 17 = .ok (.goto (-15), 3) := by decide +kernel
theorem dX6_forgetKept_20 : decode cX6_forgetKept 20 = .ok (.return_, 1) := by decide +kernel
theorem dX6_store_0 : decode cX6_store 0 = .ok (.iload_n 2, 1) := by decide +kernel
theorem dX6_store_1 : decode cX6_store 1 = .ok (.ifCond .lt 27, 3) := by decide +kernel
theorem dX6_store_28 : decode cX6_store 28 = .ok (.return_, 1) := by decide +kernel
theorem dX6_store_4 : decode cX6_store 4 = .ok (.iload_n 2, 1) := by decide +kernel
theorem dX6_store_5 : decode cX6_store 5 = .ok (.iconst 3, 1) := by decide +kernel
theorem dX6_store_6 : decode cX6_store 6 = .ok (.if_icmp .ge 22, 3) := by decide +kernel
theorem dX6_store_9 : decode cX6_store 9 = .ok (.aload_n 1, 1) := by decide +kernel
theorem dX6_store_10 : decode cX6_store 10 = .ok (.aload_n 0, 1) := by decide +kernel
theorem dX6_store_11 : decode cX6_store 11 = .ok (.getfield 17, 3) := by decide +kernel
theorem dX6_store_14 : decode cX6_store 14 = .ok (.iload_n 2, 1) := by decide +kernel
theorem dX6_store_15 : decode cX6_store 15 = .ok (.bipush 43, 2) := by decide +kernel
theorem dX6_store_17 : decode cX6_store 17 = .ok (.imul, 1) := by decide +kernel
theorem dX6_store_18 : decode cX6_store 18 = .ok (.invokevirtual 28, 3) := by decide +kernel
theorem dX6_store_21 : decode cX6_store 21 = .ok (.aload_n 0, 1) := by decide +kernel
theorem dX6_store_22 : decode cX6_store 22 = .ok (.getfield 20, 3) := by decide +kernel
theorem dX6_store_25 : decode cX6_store 25 = .ok (.iload_n 2, 1) := by decide +kernel
theorem dX6_store_26 : decode cX6_store 26 = .ok (.iconst 1, 1) := by decide +kernel
theorem dX6_store_27 : decode cX6_store 27 = .ok (.bastore, 1) := by decide +kernel
theorem dX6_fetch_0 : decode cX6_fetch 0 = .ok (.iload_n 2, 1) := by decide +kernel
theorem dX6_fetch_1 : decode cX6_fetch 1 = .ok (.ifCond .lt 29, 3) := by decide +kernel
theorem dX6_fetch_30 : decode cX6_fetch 30 = .ok (.return_, 1) := by decide +kernel
theorem dX6_fetch_4 : decode cX6_fetch 4 = .ok (.iload_n 2, 1) := by decide +kernel
theorem dX6_fetch_5 : decode cX6_fetch 5 = .ok (.iconst 3, 1) := by decide +kernel
theorem dX6_fetch_6 : decode cX6_fetch 6 = .ok (.if_icmp .ge 24, 3) := by decide +kernel
theorem dX6_fetch_9 : decode cX6_fetch 9 = .ok (.aload_n 0, 1) := by decide +kernel
theorem dX6_fetch_10 : decode cX6_fetch 10 = .ok (.getfield 20, 3) := by decide +kernel
theorem dX6_fetch_13 : decode cX6_fetch 13 = .ok (.iload_n 2, 1) := by decide +kernel
theorem dX6_fetch_14 : decode cX6_fetch 14 = .ok (.baload, 1) := by decide +kernel
theorem dX6_fetch_15 : decode cX6_fetch 15 = .ok (.ifCond .eq 15, 3) := by decide +kernel
theorem dX6_fetch_18 : decode cX6_fetch 18 = .ok (.aload_n 1, 1) := by decide +kernel
theorem dX6_fetch_19 : decode cX6_fetch 19 = .ok (.aload_n 0, 1) := by decide +kernel
theorem dX6_fetch_20 : decode cX6_fetch 20 = .ok (.getfield 17, 3) := by decide +kernel
theorem dX6_fetch_23 : decode cX6_fetch 23 = .ok (.iload_n 2, 1) := by decide +kernel
theorem dX6_fetch_24 : decode cX6_fetch 24 = .ok (.bipush 43, 2) := by decide +kernel
theorem dX6_fetch_26 : decode cX6_fetch 26 = .ok (.imul, 1) := by decide +kernel
theorem dX6_fetch_27 : decode cX6_fetch 27 = .ok (.invokevirtual 41, 3) := by decide +kernel
theorem dX7_write_0 : decode cX7_write 0 = .ok (.aload_n 0, 1) := by decide +kernel
theorem dX7_write_1 : decode cX7_write 1 = .ok (.getfield 21, 3) := by decide +kernel
theorem dX7_write_4 : decode cX7_write 4 = .ok (.bipush 40, 2) := by decide +kernel
theorem dX7_write_6 : decode cX7_write 6 = .ok (.if_icmp .ge 23, 3) := by decide +kernel
theorem dX7_write_29 : decode cX7_write 29 = .ok (.return_, 1) := by decide +kernel
theorem dX7_write_9 : decode cX7_write 9 = .ok (.aload_n 0, 1) := by decide +kernel
theorem dX7_write_10 : decode cX7_write 10 = .ok (.getfield 15, 3) := by decide +kernel
theorem dX7_write_13 : decode cX7_write 13 = .ok (.aload_n 0, 1) := by decide +kernel
theorem dX7_write_14 : decode cX7_write 14 = .ok (.getfield 21, 3) := by decide +kernel
theorem dX7_write_17 : decode cX7_write 17 = .ok (.iload_n 1, 1) := by decide +kernel
theorem dX7_write_18 : decode cX7_write 18 = .ok (.iastore, 1) := by decide +kernel
