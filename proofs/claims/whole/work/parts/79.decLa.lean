theorem d_La_set_0 : decode b_La_set 0 = .ok (.aload_n 0, 1) := by decide +kernel
theorem d_La_set_1 : decode b_La_set 1 = .ok (.iload_n 1, 1) := by decide +kernel
theorem d_La_set_2 : decode b_La_set 2 = .ok (.lload_n 2, 1) := by decide +kernel
theorem d_La_set_3 : decode b_La_set 3 = .ok (.lload 4, 2) := by decide +kernel
theorem d_La_set_5 : decode b_La_set 5 = .ok (.invokevirtual 7, 3) := by decide +kernel
theorem d_La_set_8 : decode b_La_set 8 = .ok (.goto 11, 3) := by decide +kernel
theorem d_La_set_11 : decode b_La_set 11 = .ok (.astore 6, 2) := by decide +kernel
theorem d_La_set_13 : decode b_La_set 13 = .ok (.iconst 1, 1) := by decide +kernel
theorem d_La_set_14 : decode b_La_set 14 = .ok (.ireturn, 1) := by decide +kernel
theorem d_La_set_15 : decode b_La_set 15 = .ok (.astore 6, 2) := by decide +kernel
theorem d_La_set_17 : decode b_La_set 17 = .ok (.iconst 2, 1) := by decide +kernel
theorem d_La_set_18 : decode b_La_set 18 = .ok (.ireturn, 1) := by decide +kernel
theorem d_La_set_19 : decode b_La_set 19 = .ok (.iconst 0, 1) := by decide +kernel
theorem d_La_set_20 : decode b_La_set 20 = .ok (.ireturn, 1) := by decide +kernel
theorem d_La_more_0 : decode b_La_more 0 = .ok (.aload_n 0, 1) := by decide +kernel
theorem d_La_more_1 : decode b_La_more 1 = .ok (.iload_n 1, 1) := by decide +kernel
theorem d_La_more_2 : decode b_La_more 2 = .ok (.iload_n 2, 1) := by decide +kernel
theorem d_La_more_3 : decode b_La_more 3 = .ok (.invokevirtual 17, 3) := by decide +kernel
theorem d_La_more_6 : decode b_La_more 6 = .ok (.goto 9, 3) := by decide +kernel
theorem d_La_more_9 : decode b_La_more 9 = .ok (.astore_n 3, 1) := by decide +kernel
theorem d_La_more_10 : decode b_La_more 10 = .ok (.iconst 1, 1) := by decide +kernel
theorem d_La_more_11 : decode b_La_more 11 = .ok (.ireturn, 1) := by decide +kernel
theorem d_La_more_12 : decode b_La_more 12 = .ok (.astore_n 3, 1) := by decide +kernel
theorem d_La_more_13 : decode b_La_more 13 = .ok (.iconst 2, 1) := by decide +kernel
theorem d_La_more_14 : decode b_La_more 14 = .ok (.ireturn, 1) := by decide +kernel
theorem d_La_more_15 : decode b_La_more 15 = .ok (.iconst 0, 1) := by decide +kernel
theorem d_La_more_16 : decode b_La_more 16 = .ok (.ireturn, 1) := by decide +kernel
theorem d_La_add_0 : decode b_La_add 0 = .ok (.aload_n 0, 1) := by decide +kernel
theorem d_La_add_1 : decode b_La_add 1 = .ok (.iload_n 1, 1) := by decide +kernel
theorem d_La_add_2 : decode b_La_add 2 = .ok (.iload_n 2, 1) := by decide +kernel
theorem d_La_add_3 : decode b_La_add 3 = .ok (.iload_n 3, 1) := by decide +kernel
theorem d_La_add_4 : decode b_La_add 4 = .ok (.invokevirtual 23, 3) := by decide +kernel
theorem d_La_add_7 : decode b_La_add 7 = .ok (.goto 11, 3) := by decide +kernel
theorem d_La_add_10 : decode b_La_add 10 = .ok (.astore 4, 2) := by decide +kernel
theorem d_La_add_12 : decode b_La_add 12 = .ok (.iconst 1, 1) := by decide +kernel
theorem d_La_add_13 : decode b_La_add 13 = .ok (.ireturn, 1) := by decide +kernel
theorem d_La_add_14 : decode b_La_add 14 = .ok (.astore 4, 2) := by decide +kernel
theorem d_La_add_16 : decode b_La_add 16 = .ok (.iconst 2, 1) := by decide +kernel
theorem d_La_add_17 : decode b_La_add 17 = .ok (.ireturn, 1) := by decide +kernel
theorem d_La_add_18 : decode b_La_add 18 = .ok (.iconst 0, 1) := by decide +kernel
theorem d_La_add_19 : decode b_La_add 19 = .ok (.ireturn, 1) := by decide +kernel
theorem d_La_subtract_0 : decode b_La_subtract 0 = .ok (.aload_n 0, 1) := by decide +kernel
theorem d_La_subtract_1 : decode b_La_subtract 1 = .ok (.iload_n 1, 1) := by decide +kernel
theorem d_La_subtract_2 : decode b_La_subtract 2 = .ok (.iload_n 2, 1) := by decide +kernel
theorem d_La_subtract_3 : decode b_La_subtract 3 = .ok (.iload_n 3, 1) := by decide +kernel
theorem d_La_subtract_4 : decode b_La_subtract 4 = .ok (.invokevirtual 27, 3) := by decide +kernel
theorem d_La_subtract_7 : decode b_La_subtract 7 = .ok (.goto 11, 3) := by decide +kernel
theorem d_La_subtract_10 : decode b_La_subtract 10 = .ok (.astore 4, 2) := by decide +kernel
theorem d_La_subtract_12 : decode b_La_subtract 12 = .ok (.iconst 1, 1) := by decide +kernel
theorem d_La_subtract_13 : decode b_La_subtract 13 = .ok (.ireturn, 1) := by decide +kernel
theorem d_La_subtract_14 : decode b_La_subtract 14 = .ok (.astore 4, 2) := by decide +kernel
theorem d_La_subtract_16 : decode b_La_subtract 16 = .ok (.iconst 2, 1) := by decide +kernel
theorem d_La_subtract_17 : decode b_La_subtract 17 = .ok (.ireturn, 1) := by decide +kernel
theorem d_La_subtract_18 : decode b_La_subtract 18 = .ok (.iconst 0, 1) := by decide +kernel
theorem d_La_subtract_19 : decode b_La_subtract 19 = .ok (.ireturn, 1) := by decide +kernel
theorem d_La_multiply_0 : decode b_La_multiply 0 = .ok (.aload_n 0, 1) := by decide +kernel
theorem d_La_multiply_1 : decode b_La_multiply 1 = .ok (.iload_n 1, 1) := by decide +kernel
theorem d_La_multiply_2 : decode b_La_multiply 2 = .ok (.iload_n 2, 1) := by decide +kernel
theorem d_La_multiply_3 : decode b_La_multiply 3 = .ok (.iload_n 3, 1) := by decide +kernel
theorem d_La_multiply_4 : decode b_La_multiply 4 = .ok (.invokevirtual 30, 3) := by decide +kernel
theorem d_La_multiply_7 : decode b_La_multiply 7 = .ok (.goto 11, 3) := by decide +kernel
theorem d_La_multiply_10 : decode b_La_multiply 10 = .ok (.astore 4, 2) := by decide +kernel
theorem d_La_multiply_12 : decode b_La_multiply 12 = .ok (.iconst 1, 1) := by decide +kernel
theorem d_La_multiply_13 : decode b_La_multiply 13 = .ok (.ireturn, 1) := by decide +kernel
theorem d_La_multiply_14 : decode b_La_multiply 14 = .ok (.astore 4, 2) := by decide +kernel
theorem d_La_multiply_16 : decode b_La_multiply 16 = .ok (.iconst 2, 1) := by decide +kernel
theorem d_La_multiply_17 : decode b_La_multiply 17 = .ok (.ireturn, 1) := by decide +kernel
theorem d_La_multiply_18 : decode b_La_multiply 18 = .ok (.iconst 0, 1) := by decide +kernel
theorem d_La_multiply_19 : decode b_La_multiply 19 = .ok (.ireturn, 1) := by decide +kernel
theorem d_La_divide_0 : decode b_La_divide 0 = .ok (.aload_n 0, 1) := by decide +kernel
theorem d_La_divide_1 : decode b_La_divide 1 = .ok (.iload_n 1, 1) := by decide +kernel
theorem d_La_divide_2 : decode b_La_divide 2 = .ok (.iload_n 2, 1) := by decide +kernel
theorem d_La_divide_3 : decode b_La_divide 3 = .ok (.iload_n 3, 1) := by decide +kernel
theorem d_La_divide_4 : decode b_La_divide 4 = .ok (.invokevirtual 33, 3) := by decide +kernel
theorem d_La_divide_7 : decode b_La_divide 7 = .ok (.goto 15, 3) := by decide +kernel
theorem d_La_divide_10 : decode b_La_divide 10 = .ok (.astore 4, 2) := by decide +kernel
theorem d_La_divide_12 : decode b_La_divide 12 = .ok (.iconst 1, 1) := by decide +kernel
theorem d_La_divide_13 : decode b_La_divide 13 = .ok (.ireturn, 1) := by decide +kernel
theorem d_La_divide_14 : decode b_La_divide 14 = .ok (.astore 4, 2) := by decide +kernel
theorem d_La_divide_16 : decode b_La_divide 16 = .ok (.iconst 2, 1) := by decide +kernel
theorem d_La_divide_17 : decode b_La_divide 17 = .ok (.ireturn, 1) := by decide +kernel
theorem d_La_divide_18 : decode b_La_divide 18 = .ok (.astore 4, 2) := by decide +kernel
theorem d_La_divide_20 : decode b_La_divide 20 = .ok (.iconst 3, 1) := by decide +kernel
theorem d_La_divide_21 : decode b_La_divide 21 = .ok (.ireturn, 1) := by decide +kernel
theorem d_La_divide_22 : decode b_La_divide 22 = .ok (.iconst 0, 1) := by decide +kernel
theorem d_La_divide_23 : decode b_La_divide 23 = .ok (.ireturn, 1) := by decide +kernel
theorem d_La_power_0 : decode b_La_power 0 = .ok (.aload_n 0, 1) := by decide +kernel
theorem d_La_power_1 : decode b_La_power 1 = .ok (.iload_n 1, 1) := by decide +kernel
theorem d_La_power_2 : decode b_La_power 2 = .ok (.iload_n 2, 1) := by decide +kernel
theorem d_La_power_3 : decode b_La_power 3 = .ok (.iload_n 3, 1) := by decide +kernel
theorem d_La_power_4 : decode b_La_power 4 = .ok (.invokevirtual 36, 3) := by decide +kernel
theorem d_La_power_7 : decode b_La_power 7 = .ok (.goto 11, 3) := by decide +kernel
theorem d_La_power_10 : decode b_La_power 10 = .ok (.astore 4, 2) := by decide +kernel
theorem d_La_power_12 : decode b_La_power 12 = .ok (.iconst 1, 1) := by decide +kernel
theorem d_La_power_13 : decode b_La_power 13 = .ok (.ireturn, 1) := by decide +kernel
theorem d_La_power_14 : decode b_La_power 14 = .ok (.astore 4, 2) := by decide +kernel
theorem d_La_power_16 : decode b_La_power 16 = .ok (.iconst 2, 1) := by decide +kernel
theorem d_La_power_17 : decode b_La_power 17 = .ok (.ireturn, 1) := by decide +kernel
theorem d_La_power_18 : decode b_La_power 18 = .ok (.iconst 0, 1) := by decide +kernel
theorem d_La_power_19 : decode b_La_power 19 = .ok (.ireturn, 1) := by decide +kernel
theorem d_La_binomial_0 : decode b_La_binomial 0 = .ok (.aload_n 0, 1) := by decide +kernel
theorem d_La_binomial_1 : decode b_La_binomial 1 = .ok (.iload_n 1, 1) := by decide +kernel
theorem d_La_binomial_2 : decode b_La_binomial 2 = .ok (.iload_n 2, 1) := by decide +kernel
theorem d_La_binomial_3 : decode b_La_binomial 3 = .ok (.iload_n 3, 1) := by decide +kernel
theorem d_La_binomial_4 : decode b_La_binomial 4 = .ok (.invokevirtual 39, 3) := by decide +kernel
theorem d_La_binomial_7 : decode b_La_binomial 7 = .ok (.goto 11, 3) := by decide +kernel
theorem d_La_binomial_10 : decode b_La_binomial 10 = .ok (.astore 4, 2) := by decide +kernel
theorem d_La_binomial_12 : decode b_La_binomial 12 = .ok (.iconst 1, 1) := by decide +kernel
theorem d_La_binomial_13 : decode b_La_binomial 13 = .ok (.ireturn, 1) := by decide +kernel
theorem d_La_binomial_14 : decode b_La_binomial 14 = .ok (.astore 4, 2) := by decide +kernel
theorem d_La_binomial_16 : decode b_La_binomial 16 = .ok (.iconst 2, 1) := by decide +kernel
theorem d_La_binomial_17 : decode b_La_binomial 17 = .ok (.ireturn, 1) := by decide +kernel
theorem d_La_binomial_18 : decode b_La_binomial 18 = .ok (.iconst 0, 1) := by decide +kernel
theorem d_La_binomial_19 : decode b_La_binomial 19 = .ok (.ireturn, 1) := by decide +kernel
theorem d_La_round_0 : decode b_La_round 0 = .ok (.aload_n 0, 1) := by decide +kernel
theorem d_La_round_1 : decode b_La_round 1 = .ok (.iload_n 1, 1) := by decide +kernel
theorem d_La_round_2 : decode b_La_round 2 = .ok (.iload_n 2, 1) := by decide +kernel
theorem d_La_round_3 : decode b_La_round 3 = .ok (.iload_n 3, 1) := by decide +kernel
theorem d_La_round_4 : decode b_La_round 4 = .ok (.iload 4, 2) := by decide +kernel
theorem d_La_round_6 : decode b_La_round 6 = .ok (.invokevirtual 42, 3) := by decide +kernel
theorem d_La_round_9 : decode b_La_round 9 = .ok (.goto 11, 3) := by decide +kernel
theorem d_La_round_12 : decode b_La_round 12 = .ok (.astore 5, 2) := by decide +kernel
theorem d_La_round_14 : decode b_La_round 14 = .ok (.iconst 1, 1) := by decide +kernel
theorem d_La_round_15 : decode b_La_round 15 = .ok (.ireturn, 1) := by decide +kernel
theorem d_La_round_16 : decode b_La_round 16 = .ok (.astore 5, 2) := by decide +kernel
theorem d_La_round_18 : decode b_La_round 18 = .ok (.iconst 2, 1) := by decide +kernel
theorem d_La_round_19 : decode b_La_round 19 = .ok (.ireturn, 1) := by decide +kernel
theorem d_La_round_20 : decode b_La_round 20 = .ok (.iconst 0, 1) := by decide +kernel
theorem d_La_round_21 : decode b_La_round 21 = .ok (.ireturn, 1) := by decide +kernel
theorem d_La_root_0 : decode b_La_root 0 = .ok (.aload_n 0, 1) := by decide +kernel
theorem d_La_root_1 : decode b_La_root 1 = .ok (.iload_n 1, 1) := by decide +kernel
theorem d_La_root_2 : decode b_La_root 2 = .ok (.iload_n 2, 1) := by decide +kernel
theorem d_La_root_3 : decode b_La_root 3 = .ok (.iload_n 3, 1) := by decide +kernel
theorem d_La_root_4 : decode b_La_root 4 = .ok (.invokevirtual 46, 3) := by decide +kernel
theorem d_La_root_7 : decode b_La_root 7 = .ok (.goto 15, 3) := by decide +kernel
theorem d_La_root_10 : decode b_La_root 10 = .ok (.astore 4, 2) := by decide +kernel
theorem d_La_root_12 : decode b_La_root 12 = .ok (.iconst 1, 1) := by decide +kernel
theorem d_La_root_13 : decode b_La_root 13 = .ok (.ireturn, 1) := by decide +kernel
theorem d_La_root_14 : decode b_La_root 14 = .ok (.astore 4, 2) := by decide +kernel
theorem d_La_root_16 : decode b_La_root 16 = .ok (.iconst 2, 1) := by decide +kernel
theorem d_La_root_17 : decode b_La_root 17 = .ok (.ireturn, 1) := by decide +kernel
theorem d_La_root_18 : decode b_La_root 18 = .ok (.astore 4, 2) := by decide +kernel
theorem d_La_root_20 : decode b_La_root 20 = .ok (.iconst 3, 1) := by decide +kernel
theorem d_La_root_21 : decode b_La_root 21 = .ok (.ireturn, 1) := by decide +kernel
theorem d_La_root_22 : decode b_La_root 22 = .ok (.iconst 0, 1) := by decide +kernel
theorem d_La_root_23 : decode b_La_root 23 = .ok (.ireturn, 1) := by decide +kernel
theorem d_La_compare_0 : decode b_La_compare 0 = .ok (.aload_n 3, 1) := by decide +kernel
theorem d_La_compare_1 : decode b_La_compare 1 = .ok (.iconst 0, 1) := by decide +kernel
theorem d_La_compare_2 : decode b_La_compare 2 = .ok (.aload_n 0, 1) := by decide +kernel
theorem d_La_compare_3 : decode b_La_compare 3 = .ok (.iload_n 1, 1) := by decide +kernel
theorem d_La_compare_4 : decode b_La_compare 4 = .ok (.iload_n 2, 1) := by decide +kernel
theorem d_La_compare_5 : decode b_La_compare 5 = .ok (.invokevirtual 49, 3) := by decide +kernel
theorem d_La_compare_8 : decode b_La_compare 8 = .ok (.i2l, 1) := by decide +kernel
theorem d_La_compare_9 : decode b_La_compare 9 = .ok (.lastore, 1) := by decide +kernel
theorem d_La_compare_10 : decode b_La_compare 10 = .ok (.goto 7, 3) := by decide +kernel
theorem d_La_compare_13 : decode b_La_compare 13 = .ok (.astore 4, 2) := by decide +kernel
theorem d_La_compare_15 : decode b_La_compare 15 = .ok (.iconst 1, 1) := by decide +kernel
theorem d_La_compare_16 : decode b_La_compare 16 = .ok (.ireturn, 1) := by decide +kernel
theorem d_La_compare_17 : decode b_La_compare 17 = .ok (.iconst 0, 1) := by decide +kernel
theorem d_La_compare_18 : decode b_La_compare 18 = .ok (.ireturn, 1) := by decide +kernel
theorem d_La_sign_0 : decode b_La_sign 0 = .ok (.aload_n 2, 1) := by decide +kernel
theorem d_La_sign_1 : decode b_La_sign 1 = .ok (.iconst 0, 1) := by decide +kernel
theorem d_La_sign_2 : decode b_La_sign 2 = .ok (.aload_n 0, 1) := by decide +kernel
theorem d_La_sign_3 : decode b_La_sign 3 = .ok (.iload_n 1, 1) := by decide +kernel
theorem d_La_sign_4 : decode b_La_sign 4 = .ok (.invokevirtual 53, 3) := by decide +kernel
theorem d_La_sign_7 : decode b_La_sign 7 = .ok (.i2l, 1) := by decide +kernel
theorem d_La_sign_8 : decode b_La_sign 8 = .ok (.lastore, 1) := by decide +kernel
theorem d_La_sign_9 : decode b_La_sign 9 = .ok (.goto 6, 3) := by decide +kernel
theorem d_La_sign_12 : decode b_La_sign 12 = .ok (.astore_n 3, 1) := by decide +kernel
theorem d_La_sign_13 : decode b_La_sign 13 = .ok (.iconst 1, 1) := by decide +kernel
theorem d_La_sign_14 : decode b_La_sign 14 = .ok (.ireturn, 1) := by decide +kernel
theorem d_La_sign_15 : decode b_La_sign 15 = .ok (.iconst 0, 1) := by decide +kernel
theorem d_La_sign_16 : decode b_La_sign 16 = .ok (.ireturn, 1) := by decide +kernel
theorem d_La_digits_0 : decode b_La_digits 0 = .ok (.aload_n 3, 1) := by decide +kernel
theorem d_La_digits_1 : decode b_La_digits 1 = .ok (.iconst 0, 1) := by decide +kernel
theorem d_La_digits_2 : decode b_La_digits 2 = .ok (.aload_n 0, 1) := by decide +kernel
theorem d_La_digits_3 : decode b_La_digits 3 = .ok (.iload_n 1, 1) := by decide +kernel
theorem d_La_digits_4 : decode b_La_digits 4 = .ok (.iload_n 2, 1) := by decide +kernel
theorem d_La_digits_5 : decode b_La_digits 5 = .ok (.invokevirtual 57, 3) := by decide +kernel
theorem d_La_digits_8 : decode b_La_digits 8 = .ok (.i2l, 1) := by decide +kernel
theorem d_La_digits_9 : decode b_La_digits 9 = .ok (.lastore, 1) := by decide +kernel
theorem d_La_digits_10 : decode b_La_digits 10 = .ok (.goto 7, 3) := by decide +kernel
theorem d_La_digits_13 : decode b_La_digits 13 = .ok (.astore 4, 2) := by decide +kernel
theorem d_La_digits_15 : decode b_La_digits 15 = .ok (.iconst 1, 1) := by decide +kernel
theorem d_La_digits_16 : decode b_La_digits 16 = .ok (.ireturn, 1) := by decide +kernel
theorem d_La_digits_17 : decode b_La_digits 17 = .ok (.iconst 0, 1) := by decide +kernel
theorem d_La_digits_18 : decode b_La_digits 18 = .ok (.ireturn, 1) := by decide +kernel
theorem d_La_digit_0 : decode b_La_digit 0 = .ok (.aload 4, 2) := by decide +kernel
theorem d_La_digit_2 : decode b_La_digit 2 = .ok (.iconst 0, 1) := by decide +kernel
theorem d_La_digit_3 : decode b_La_digit 3 = .ok (.aload_n 0, 1) := by decide +kernel
theorem d_La_digit_4 : decode b_La_digit 4 = .ok (.iload_n 1, 1) := by decide +kernel
theorem d_La_digit_5 : decode b_La_digit 5 = .ok (.iload_n 2, 1) := by decide +kernel
theorem d_La_digit_6 : decode b_La_digit 6 = .ok (.iload_n 3, 1) := by decide +kernel
theorem d_La_digit_7 : decode b_La_digit 7 = .ok (.invokevirtual 60, 3) := by decide +kernel
theorem d_La_digit_10 : decode b_La_digit 10 = .ok (.i2l, 1) := by decide +kernel
theorem d_La_digit_11 : decode b_La_digit 11 = .ok (.lastore, 1) := by decide +kernel
theorem d_La_digit_12 : decode b_La_digit 12 = .ok (.goto 11, 3) := by decide +kernel
theorem d_La_digit_15 : decode b_La_digit 15 = .ok (.astore 5, 2) := by decide +kernel
theorem d_La_digit_17 : decode b_La_digit 17 = .ok (.iconst 1, 1) := by decide +kernel
theorem d_La_digit_18 : decode b_La_digit 18 = .ok (.ireturn, 1) := by decide +kernel
theorem d_La_digit_19 : decode b_La_digit 19 = .ok (.astore 5, 2) := by decide +kernel
theorem d_La_digit_21 : decode b_La_digit 21 = .ok (.iconst 2, 1) := by decide +kernel
theorem d_La_digit_22 : decode b_La_digit 22 = .ok (.ireturn, 1) := by decide +kernel
theorem d_La_digit_23 : decode b_La_digit 23 = .ok (.iconst 0, 1) := by decide +kernel
theorem d_La_digit_24 : decode b_La_digit 24 = .ok (.ireturn, 1) := by decide +kernel
theorem d_La_behind_0 : decode b_La_behind 0 = .ok (.aload_n 3, 1) := by decide +kernel
theorem d_La_behind_1 : decode b_La_behind 1 = .ok (.iconst 0, 1) := by decide +kernel
theorem d_La_behind_2 : decode b_La_behind 2 = .ok (.aload_n 0, 1) := by decide +kernel
theorem d_La_behind_3 : decode b_La_behind 3 = .ok (.iload_n 1, 1) := by decide +kernel
theorem d_La_behind_4 : decode b_La_behind 4 = .ok (.iload_n 2, 1) := by decide +kernel
theorem d_La_behind_5 : decode b_La_behind 5 = .ok (.invokevirtual 66, 3) := by decide +kernel
theorem d_La_behind_8 : decode b_La_behind 8 = .ok (.i2l, 1) := by decide +kernel
theorem d_La_behind_9 : decode b_La_behind 9 = .ok (.lastore, 1) := by decide +kernel
theorem d_La_behind_10 : decode b_La_behind 10 = .ok (.goto 7, 3) := by decide +kernel
theorem d_La_behind_13 : decode b_La_behind 13 = .ok (.astore 4, 2) := by decide +kernel
theorem d_La_behind_15 : decode b_La_behind 15 = .ok (.iconst 1, 1) := by decide +kernel
theorem d_La_behind_16 : decode b_La_behind 16 = .ok (.ireturn, 1) := by decide +kernel
theorem d_La_behind_17 : decode b_La_behind 17 = .ok (.iconst 0, 1) := by decide +kernel
theorem d_La_behind_18 : decode b_La_behind 18 = .ok (.ireturn, 1) := by decide +kernel
theorem d_La_modulo_0 : decode b_La_modulo 0 = .ok (.aload 4, 2) := by decide +kernel
theorem d_La_modulo_2 : decode b_La_modulo 2 = .ok (.iconst 0, 1) := by decide +kernel
theorem d_La_modulo_3 : decode b_La_modulo 3 = .ok (.aload_n 0, 1) := by decide +kernel
theorem d_La_modulo_4 : decode b_La_modulo 4 = .ok (.iload_n 1, 1) := by decide +kernel
theorem d_La_modulo_5 : decode b_La_modulo 5 = .ok (.iload_n 2, 1) := by decide +kernel
theorem d_La_modulo_6 : decode b_La_modulo 6 = .ok (.iload_n 3, 1) := by decide +kernel
theorem d_La_modulo_7 : decode b_La_modulo 7 = .ok (.invokevirtual 69, 3) := by decide +kernel
theorem d_La_modulo_10 : decode b_La_modulo 10 = .ok (.i2l, 1) := by decide +kernel
theorem d_La_modulo_11 : decode b_La_modulo 11 = .ok (.lastore, 1) := by decide +kernel
theorem d_La_modulo_12 : decode b_La_modulo 12 = .ok (.goto 7, 3) := by decide +kernel
theorem d_La_modulo_15 : decode b_La_modulo 15 = .ok (.astore 5, 2) := by decide +kernel
theorem d_La_modulo_17 : decode b_La_modulo 17 = .ok (.iconst 1, 1) := by decide +kernel
theorem d_La_modulo_18 : decode b_La_modulo 18 = .ok (.ireturn, 1) := by decide +kernel
theorem d_La_modulo_19 : decode b_La_modulo 19 = .ok (.iconst 0, 1) := by decide +kernel
theorem d_La_modulo_20 : decode b_La_modulo 20 = .ok (.ireturn, 1) := by decide +kernel
theorem d_La_weight_0 : decode b_La_weight 0 = .ok (.aload_n 3, 1) := by decide +kernel
theorem d_La_weight_1 : decode b_La_weight 1 = .ok (.iconst 0, 1) := by decide +kernel
theorem d_La_weight_2 : decode b_La_weight 2 = .ok (.aload_n 0, 1) := by decide +kernel
theorem d_La_weight_3 : decode b_La_weight 3 = .ok (.iload_n 1, 1) := by decide +kernel
theorem d_La_weight_4 : decode b_La_weight 4 = .ok (.iload_n 2, 1) := by decide +kernel
theorem d_La_weight_5 : decode b_La_weight 5 = .ok (.invokevirtual 72, 3) := by decide +kernel
theorem d_La_weight_8 : decode b_La_weight 8 = .ok (.i2l, 1) := by decide +kernel
theorem d_La_weight_9 : decode b_La_weight 9 = .ok (.lastore, 1) := by decide +kernel
theorem d_La_weight_10 : decode b_La_weight 10 = .ok (.goto 7, 3) := by decide +kernel
theorem d_La_weight_13 : decode b_La_weight 13 = .ok (.astore 4, 2) := by decide +kernel
theorem d_La_weight_15 : decode b_La_weight 15 = .ok (.iconst 1, 1) := by decide +kernel
theorem d_La_weight_16 : decode b_La_weight 16 = .ok (.ireturn, 1) := by decide +kernel
theorem d_La_weight_17 : decode b_La_weight 17 = .ok (.iconst 0, 1) := by decide +kernel
theorem d_La_weight_18 : decode b_La_weight 18 = .ok (.ireturn, 1) := by decide +kernel
theorem d_La_share_0 : decode b_La_share 0 = .ok (.aload_n 0, 1) := by decide +kernel
theorem d_La_share_1 : decode b_La_share 1 = .ok (.iload_n 1, 1) := by decide +kernel
theorem d_La_share_2 : decode b_La_share 2 = .ok (.iload_n 2, 1) := by decide +kernel
theorem d_La_share_3 : decode b_La_share 3 = .ok (.iload_n 3, 1) := by decide +kernel
theorem d_La_share_4 : decode b_La_share 4 = .ok (.invokevirtual 75, 3) := by decide +kernel
theorem d_La_share_7 : decode b_La_share 7 = .ok (.goto 15, 3) := by decide +kernel
theorem d_La_share_10 : decode b_La_share 10 = .ok (.astore 4, 2) := by decide +kernel
theorem d_La_share_12 : decode b_La_share 12 = .ok (.iconst 1, 1) := by decide +kernel
theorem d_La_share_13 : decode b_La_share 13 = .ok (.ireturn, 1) := by decide +kernel
theorem d_La_share_14 : decode b_La_share 14 = .ok (.astore 4, 2) := by decide +kernel
theorem d_La_share_16 : decode b_La_share 16 = .ok (.iconst 2, 1) := by decide +kernel
theorem d_La_share_17 : decode b_La_share 17 = .ok (.ireturn, 1) := by decide +kernel
theorem d_La_share_18 : decode b_La_share 18 = .ok (.astore 4, 2) := by decide +kernel
theorem d_La_share_20 : decode b_La_share 20 = .ok (.iconst 3, 1) := by decide +kernel
theorem d_La_share_21 : decode b_La_share 21 = .ok (.ireturn, 1) := by decide +kernel
theorem d_La_share_22 : decode b_La_share 22 = .ok (.iconst 0, 1) := by decide +kernel
theorem d_La_share_23 : decode b_La_share 23 = .ok (.ireturn, 1) := by decide +kernel
theorem d_La_law_0 : decode b_La_law 0 = .ok (.new 8, 3) := by decide +kernel
theorem d_La_law_3 : decode b_La_law 3 = .ok (.dup, 1) := by decide +kernel
theorem d_La_law_4 : decode b_La_law 4 = .ok (.invokespecial 78, 3) := by decide +kernel
theorem d_La_law_7 : decode b_La_law 7 = .ok (.astore_n 1, 1) := by decide +kernel
theorem d_La_law_8 : decode b_La_law 8 = .ok (.new 79, 3) := by decide +kernel
theorem d_La_law_11 : decode b_La_law 11 = .ok (.dup, 1) := by decide +kernel
theorem d_La_law_12 : decode b_La_law 12 = .ok (.invokespecial 81, 3) := by decide +kernel
theorem d_La_law_15 : decode b_La_law 15 = .ok (.astore_n 2, 1) := by decide +kernel
theorem d_La_law_16 : decode b_La_law 16 = .ok (.iconst 1, 1) := by decide +kernel
theorem d_La_law_17 : decode b_La_law 17 = .ok (.newarray .long, 2) := by decide +kernel
theorem d_La_law_19 : decode b_La_law 19 = .ok (.astore_n 3, 1) := by decide +kernel
theorem d_La_law_20 : decode b_La_law 20 = .ok (.iconst 0, 1) := by decide +kernel
theorem d_La_law_21 : decode b_La_law 21 = .ok (.istore 4, 2) := by decide +kernel
theorem d_La_law_23 : decode b_La_law 23 = .ok (.iload 4, 2) := by decide +kernel
theorem d_La_law_25 : decode b_La_law 25 = .ok (.aload_n 0, 1) := by decide +kernel
theorem d_La_law_26 : decode b_La_law 26 = .ok (.arraylength, 1) := by decide +kernel
theorem d_La_law_27 : decode b_La_law 27 = .ok (.bipush 6, 2) := by decide +kernel
theorem d_La_law_29 : decode b_La_law 29 = .ok (.isub, 1) := by decide +kernel
theorem d_La_law_30 : decode b_La_law 30 = .ok (.if_icmp .gt 1316, 3) := by decide +kernel
theorem d_La_law_33 : decode b_La_law 33 = .ok (.aload_n 0, 1) := by decide +kernel
theorem d_La_law_34 : decode b_La_law 34 = .ok (.iload 4, 2) := by decide +kernel
theorem d_La_law_36 : decode b_La_law 36 = .ok (.iaload, 1) := by decide +kernel
theorem d_La_law_37 : decode b_La_law 37 = .ok (.bipush 31, 2) := by decide +kernel
theorem d_La_law_39 : decode b_La_law 39 = .ok (.iand, 1) := by decide +kernel
theorem d_La_law_128 : decode b_La_law 128 = .ok (.aload_n 1, 1) := by decide +kernel
theorem d_La_law_129 : decode b_La_law 129 = .ok (.aload_n 0, 1) := by decide +kernel
theorem d_La_law_130 : decode b_La_law 130 = .ok (.iload 4, 2) := by decide +kernel
theorem d_La_law_132 : decode b_La_law 132 = .ok (.iconst 1, 1) := by decide +kernel
theorem d_La_law_133 : decode b_La_law 133 = .ok (.iadd, 1) := by decide +kernel
theorem d_La_law_134 : decode b_La_law 134 = .ok (.iaload, 1) := by decide +kernel
theorem d_La_law_135 : decode b_La_law 135 = .ok (.aload_n 0, 1) := by decide +kernel
theorem d_La_law_136 : decode b_La_law 136 = .ok (.iload 4, 2) := by decide +kernel
theorem d_La_law_138 : decode b_La_law 138 = .ok (.iconst 2, 1) := by decide +kernel
theorem d_La_law_139 : decode b_La_law 139 = .ok (.iadd, 1) := by decide +kernel
theorem d_La_law_140 : decode b_La_law 140 = .ok (.iaload, 1) := by decide +kernel
theorem d_La_law_141 : decode b_La_law 141 = .ok (.i2l, 1) := by decide +kernel
theorem d_La_law_142 : decode b_La_law 142 = .ok (.bipush 32, 2) := by decide +kernel
theorem d_La_law_144 : decode b_La_law 144 = .ok (.lshl, 1) := by decide +kernel
theorem d_La_law_145 : decode b_La_law 145 = .ok (.aload_n 0, 1) := by decide +kernel
theorem d_La_law_146 : decode b_La_law 146 = .ok (.iload 4, 2) := by decide +kernel
theorem d_La_law_148 : decode b_La_law 148 = .ok (.iconst 3, 1) := by decide +kernel
theorem d_La_law_149 : decode b_La_law 149 = .ok (.iadd, 1) := by decide +kernel
theorem d_La_law_150 : decode b_La_law 150 = .ok (.iaload, 1) := by decide +kernel
theorem d_La_law_151 : decode b_La_law 151 = .ok (.i2l, 1) := by decide +kernel
theorem d_La_law_152 : decode b_La_law 152 = .ok (.ldc2_w 82, 3) := by decide +kernel
theorem d_La_law_155 : decode b_La_law 155 = .ok (.land, 1) := by decide +kernel
theorem d_La_law_156 : decode b_La_law 156 = .ok (.lor, 1) := by decide +kernel
theorem d_La_law_157 : decode b_La_law 157 = .ok (.aload_n 0, 1) := by decide +kernel
theorem d_La_law_158 : decode b_La_law 158 = .ok (.iload 4, 2) := by decide +kernel
theorem d_La_law_160 : decode b_La_law 160 = .ok (.iconst 4, 1) := by decide +kernel
theorem d_La_law_161 : decode b_La_law 161 = .ok (.iadd, 1) := by decide +kernel
theorem d_La_law_162 : decode b_La_law 162 = .ok (.iaload, 1) := by decide +kernel
theorem d_La_law_163 : decode b_La_law 163 = .ok (.i2l, 1) := by decide +kernel
theorem d_La_law_164 : decode b_La_law 164 = .ok (.bipush 32, 2) := by decide +kernel
theorem d_La_law_166 : decode b_La_law 166 = .ok (.lshl, 1) := by decide +kernel
theorem d_La_law_167 : decode b_La_law 167 = .ok (.aload_n 0, 1) := by decide +kernel
theorem d_La_law_168 : decode b_La_law 168 = .ok (.iload 4, 2) := by decide +kernel
theorem d_La_law_170 : decode b_La_law 170 = .ok (.iconst 5, 1) := by decide +kernel
theorem d_La_law_171 : decode b_La_law 171 = .ok (.iadd, 1) := by decide +kernel
theorem d_La_law_172 : decode b_La_law 172 = .ok (.iaload, 1) := by decide +kernel
theorem d_La_law_173 : decode b_La_law 173 = .ok (.i2l, 1) := by decide +kernel
theorem d_La_law_174 : decode b_La_law 174 = .ok (.ldc2_w 82, 3) := by decide +kernel
theorem d_La_law_177 : decode b_La_law 177 = .ok (.land, 1) := by decide +kernel
theorem d_La_law_178 : decode b_La_law 178 = .ok (.lor, 1) := by decide +kernel
theorem d_La_law_179 : decode b_La_law 179 = .ok (.invokestatic 84, 3) := by decide +kernel
theorem d_La_law_182 : decode b_La_law 182 = .ok (.istore 5, 2) := by decide +kernel
theorem d_La_law_184 : decode b_La_law 184 = .ok (.aload_n 2, 1) := by decide +kernel
theorem d_La_law_185 : decode b_La_law 185 = .ok (.aload_n 0, 1) := by decide +kernel
theorem d_La_law_186 : decode b_La_law 186 = .ok (.iload 4, 2) := by decide +kernel
theorem d_La_law_188 : decode b_La_law 188 = .ok (.iconst 1, 1) := by decide +kernel
theorem d_La_law_189 : decode b_La_law 189 = .ok (.iadd, 1) := by decide +kernel
theorem d_La_law_190 : decode b_La_law 190 = .ok (.iaload, 1) := by decide +kernel
theorem d_La_law_191 : decode b_La_law 191 = .ok (.aload_n 0, 1) := by decide +kernel
theorem d_La_law_192 : decode b_La_law 192 = .ok (.iload 4, 2) := by decide +kernel
theorem d_La_law_194 : decode b_La_law 194 = .ok (.iconst 2, 1) := by decide +kernel
theorem d_La_law_195 : decode b_La_law 195 = .ok (.iadd, 1) := by decide +kernel
theorem d_La_law_196 : decode b_La_law 196 = .ok (.iaload, 1) := by decide +kernel
theorem d_La_law_197 : decode b_La_law 197 = .ok (.i2l, 1) := by decide +kernel
theorem d_La_law_198 : decode b_La_law 198 = .ok (.bipush 32, 2) := by decide +kernel
theorem d_La_law_200 : decode b_La_law 200 = .ok (.lshl, 1) := by decide +kernel
theorem d_La_law_201 : decode b_La_law 201 = .ok (.aload_n 0, 1) := by decide +kernel
theorem d_La_law_202 : decode b_La_law 202 = .ok (.iload 4, 2) := by decide +kernel
theorem d_La_law_204 : decode b_La_law 204 = .ok (.iconst 3, 1) := by decide +kernel
theorem d_La_law_205 : decode b_La_law 205 = .ok (.iadd, 1) := by decide +kernel
theorem d_La_law_206 : decode b_La_law 206 = .ok (.iaload, 1) := by decide +kernel
theorem d_La_law_207 : decode b_La_law 207 = .ok (.i2l, 1) := by decide +kernel
theorem d_La_law_208 : decode b_La_law 208 = .ok (.ldc2_w 82, 3) := by decide +kernel
theorem d_La_law_211 : decode b_La_law 211 = .ok (.land, 1) := by decide +kernel
theorem d_La_law_212 : decode b_La_law 212 = .ok (.lor, 1) := by decide +kernel
theorem d_La_law_213 : decode b_La_law 213 = .ok (.aload_n 0, 1) := by decide +kernel
theorem d_La_law_214 : decode b_La_law 214 = .ok (.iload 4, 2) := by decide +kernel
theorem d_La_law_216 : decode b_La_law 216 = .ok (.iconst 4, 1) := by decide +kernel
theorem d_La_law_217 : decode b_La_law 217 = .ok (.iadd, 1) := by decide +kernel
theorem d_La_law_218 : decode b_La_law 218 = .ok (.iaload, 1) := by decide +kernel
theorem d_La_law_219 : decode b_La_law 219 = .ok (.i2l, 1) := by decide +kernel
theorem d_La_law_220 : decode b_La_law 220 = .ok (.bipush 32, 2) := by decide +kernel
theorem d_La_law_222 : decode b_La_law 222 = .ok (.lshl, 1) := by decide +kernel
theorem d_La_law_223 : decode b_La_law 223 = .ok (.aload_n 0, 1) := by decide +kernel
theorem d_La_law_224 : decode b_La_law 224 = .ok (.iload 4, 2) := by decide +kernel
theorem d_La_law_226 : decode b_La_law 226 = .ok (.iconst 5, 1) := by decide +kernel
theorem d_La_law_227 : decode b_La_law 227 = .ok (.iadd, 1) := by decide +kernel
theorem d_La_law_228 : decode b_La_law 228 = .ok (.iaload, 1) := by decide +kernel
theorem d_La_law_229 : decode b_La_law 229 = .ok (.i2l, 1) := by decide +kernel
theorem d_La_law_230 : decode b_La_law 230 = .ok (.ldc2_w 82, 3) := by decide +kernel
theorem d_La_law_233 : decode b_La_law 233 = .ok (.land, 1) := by decide +kernel
theorem d_La_law_234 : decode b_La_law 234 = .ok (.lor, 1) := by decide +kernel
theorem d_La_law_235 : decode b_La_law 235 = .ok (.invokevirtual 89, 3) := by decide +kernel
theorem d_La_law_238 : decode b_La_law 238 = .ok (.aload_n 2, 1) := by decide +kernel
theorem d_La_law_239 : decode b_La_law 239 = .ok (.invokevirtual 90, 3) := by decide +kernel
theorem d_La_law_242 : decode b_La_law 242 = .ok (.iload 5, 2) := by decide +kernel
theorem d_La_law_244 : decode b_La_law 244 = .ok (.if_icmp .eq 5, 3) := by decide +kernel
theorem d_La_law_247 : decode b_La_law 247 = .ok (.iconst 0, 1) := by decide +kernel
theorem d_La_law_248 : decode b_La_law 248 = .ok (.ireturn, 1) := by decide +kernel
theorem d_La_law_249 : decode b_La_law 249 = .ok (.goto 1091, 3) := by decide +kernel
theorem d_La_law_252 : decode b_La_law 252 = .ok (.aload_n 1, 1) := by decide +kernel
theorem d_La_law_253 : decode b_La_law 253 = .ok (.aload_n 0, 1) := by decide +kernel
theorem d_La_law_254 : decode b_La_law 254 = .ok (.iload 4, 2) := by decide +kernel
theorem d_La_law_256 : decode b_La_law 256 = .ok (.iconst 1, 1) := by decide +kernel
theorem d_La_law_257 : decode b_La_law 257 = .ok (.iadd, 1) := by decide +kernel
theorem d_La_law_258 : decode b_La_law 258 = .ok (.iaload, 1) := by decide +kernel
theorem d_La_law_259 : decode b_La_law 259 = .ok (.aload_n 0, 1) := by decide +kernel
theorem d_La_law_260 : decode b_La_law 260 = .ok (.iload 4, 2) := by decide +kernel
theorem d_La_law_262 : decode b_La_law 262 = .ok (.iconst 2, 1) := by decide +kernel
theorem d_La_law_263 : decode b_La_law 263 = .ok (.iadd, 1) := by decide +kernel
theorem d_La_law_264 : decode b_La_law 264 = .ok (.iaload, 1) := by decide +kernel
theorem d_La_law_265 : decode b_La_law 265 = .ok (.invokestatic 94, 3) := by decide +kernel
theorem d_La_law_268 : decode b_La_law 268 = .ok (.istore 5, 2) := by decide +kernel
theorem d_La_law_270 : decode b_La_law 270 = .ok (.aload_n 2, 1) := by decide +kernel
theorem d_La_law_271 : decode b_La_law 271 = .ok (.aload_n 0, 1) := by decide +kernel
theorem d_La_law_272 : decode b_La_law 272 = .ok (.iload 4, 2) := by decide +kernel
theorem d_La_law_274 : decode b_La_law 274 = .ok (.iconst 1, 1) := by decide +kernel
theorem d_La_law_275 : decode b_La_law 275 = .ok (.iadd, 1) := by decide +kernel
theorem d_La_law_276 : decode b_La_law 276 = .ok (.iaload, 1) := by decide +kernel
theorem d_La_law_277 : decode b_La_law 277 = .ok (.aload_n 0, 1) := by decide +kernel
theorem d_La_law_278 : decode b_La_law 278 = .ok (.iload 4, 2) := by decide +kernel
theorem d_La_law_280 : decode b_La_law 280 = .ok (.iconst 2, 1) := by decide +kernel
theorem d_La_law_281 : decode b_La_law 281 = .ok (.iadd, 1) := by decide +kernel
theorem d_La_law_282 : decode b_La_law 282 = .ok (.iaload, 1) := by decide +kernel
theorem d_La_law_283 : decode b_La_law 283 = .ok (.invokevirtual 97, 3) := by decide +kernel
theorem d_La_law_286 : decode b_La_law 286 = .ok (.aload_n 2, 1) := by decide +kernel
theorem d_La_law_287 : decode b_La_law 287 = .ok (.invokevirtual 90, 3) := by decide +kernel
theorem d_La_law_290 : decode b_La_law 290 = .ok (.iload 5, 2) := by decide +kernel
theorem d_La_law_292 : decode b_La_law 292 = .ok (.if_icmp .eq 5, 3) := by decide +kernel
theorem d_La_law_295 : decode b_La_law 295 = .ok (.iconst 0, 1) := by decide +kernel
theorem d_La_law_296 : decode b_La_law 296 = .ok (.ireturn, 1) := by decide +kernel
theorem d_La_law_297 : decode b_La_law 297 = .ok (.goto 1043, 3) := by decide +kernel
theorem d_La_law_300 : decode b_La_law 300 = .ok (.aload_n 1, 1) := by decide +kernel
theorem d_La_law_301 : decode b_La_law 301 = .ok (.aload_n 0, 1) := by decide +kernel
theorem d_La_law_302 : decode b_La_law 302 = .ok (.iload 4, 2) := by decide +kernel
theorem d_La_law_304 : decode b_La_law 304 = .ok (.iconst 1, 1) := by decide +kernel
theorem d_La_law_305 : decode b_La_law 305 = .ok (.iadd, 1) := by decide +kernel
theorem d_La_law_306 : decode b_La_law 306 = .ok (.iaload, 1) := by decide +kernel
theorem d_La_law_307 : decode b_La_law 307 = .ok (.aload_n 0, 1) := by decide +kernel
theorem d_La_law_308 : decode b_La_law 308 = .ok (.iload 4, 2) := by decide +kernel
theorem d_La_law_310 : decode b_La_law 310 = .ok (.iconst 2, 1) := by decide +kernel
theorem d_La_law_311 : decode b_La_law 311 = .ok (.iadd, 1) := by decide +kernel
theorem d_La_law_312 : decode b_La_law 312 = .ok (.iaload, 1) := by decide +kernel
theorem d_La_law_313 : decode b_La_law 313 = .ok (.aload_n 0, 1) := by decide +kernel
theorem d_La_law_314 : decode b_La_law 314 = .ok (.iload 4, 2) := by decide +kernel
theorem d_La_law_316 : decode b_La_law 316 = .ok (.iconst 3, 1) := by decide +kernel
theorem d_La_law_317 : decode b_La_law 317 = .ok (.iadd, 1) := by decide +kernel
theorem d_La_law_318 : decode b_La_law 318 = .ok (.iaload, 1) := by decide +kernel
theorem d_La_law_319 : decode b_La_law 319 = .ok (.invokestatic 98, 3) := by decide +kernel
theorem d_La_law_322 : decode b_La_law 322 = .ok (.istore 5, 2) := by decide +kernel
theorem d_La_law_324 : decode b_La_law 324 = .ok (.aload_n 2, 1) := by decide +kernel
theorem d_La_law_325 : decode b_La_law 325 = .ok (.aload_n 0, 1) := by decide +kernel
theorem d_La_law_326 : decode b_La_law 326 = .ok (.iload 4, 2) := by decide +kernel
theorem d_La_law_328 : decode b_La_law 328 = .ok (.iconst 1, 1) := by decide +kernel
theorem d_La_law_329 : decode b_La_law 329 = .ok (.iadd, 1) := by decide +kernel
theorem d_La_law_330 : decode b_La_law 330 = .ok (.iaload, 1) := by decide +kernel
theorem d_La_law_331 : decode b_La_law 331 = .ok (.aload_n 0, 1) := by decide +kernel
theorem d_La_law_332 : decode b_La_law 332 = .ok (.iload 4, 2) := by decide +kernel
theorem d_La_law_334 : decode b_La_law 334 = .ok (.iconst 2, 1) := by decide +kernel
theorem d_La_law_335 : decode b_La_law 335 = .ok (.iadd, 1) := by decide +kernel
theorem d_La_law_336 : decode b_La_law 336 = .ok (.iaload, 1) := by decide +kernel
theorem d_La_law_337 : decode b_La_law 337 = .ok (.aload_n 0, 1) := by decide +kernel
theorem d_La_law_338 : decode b_La_law 338 = .ok (.iload 4, 2) := by decide +kernel
theorem d_La_law_340 : decode b_La_law 340 = .ok (.iconst 3, 1) := by decide +kernel
theorem d_La_law_341 : decode b_La_law 341 = .ok (.iadd, 1) := by decide +kernel
theorem d_La_law_342 : decode b_La_law 342 = .ok (.iaload, 1) := by decide +kernel
theorem d_La_law_343 : decode b_La_law 343 = .ok (.invokevirtual 101, 3) := by decide +kernel
theorem d_La_law_346 : decode b_La_law 346 = .ok (.aload_n 2, 1) := by decide +kernel
theorem d_La_law_347 : decode b_La_law 347 = .ok (.invokevirtual 90, 3) := by decide +kernel
theorem d_La_law_350 : decode b_La_law 350 = .ok (.iload 5, 2) := by decide +kernel
theorem d_La_law_352 : decode b_La_law 352 = .ok (.if_icmp .eq 5, 3) := by decide +kernel
theorem d_La_law_355 : decode b_La_law 355 = .ok (.iconst 0, 1) := by decide +kernel
theorem d_La_law_356 : decode b_La_law 356 = .ok (.ireturn, 1) := by decide +kernel
theorem d_La_law_357 : decode b_La_law 357 = .ok (.goto 983, 3) := by decide +kernel
theorem d_La_law_360 : decode b_La_law 360 = .ok (.aload_n 1, 1) := by decide +kernel
theorem d_La_law_361 : decode b_La_law 361 = .ok (.aload_n 0, 1) := by decide +kernel
theorem d_La_law_362 : decode b_La_law 362 = .ok (.iload 4, 2) := by decide +kernel
theorem d_La_law_364 : decode b_La_law 364 = .ok (.iconst 1, 1) := by decide +kernel
theorem d_La_law_365 : decode b_La_law 365 = .ok (.iadd, 1) := by decide +kernel
theorem d_La_law_366 : decode b_La_law 366 = .ok (.iaload, 1) := by decide +kernel
theorem d_La_law_367 : decode b_La_law 367 = .ok (.aload_n 0, 1) := by decide +kernel
theorem d_La_law_368 : decode b_La_law 368 = .ok (.iload 4, 2) := by decide +kernel
theorem d_La_law_370 : decode b_La_law 370 = .ok (.iconst 2, 1) := by decide +kernel
theorem d_La_law_371 : decode b_La_law 371 = .ok (.iadd, 1) := by decide +kernel
theorem d_La_law_372 : decode b_La_law 372 = .ok (.iaload, 1) := by decide +kernel
theorem d_La_law_373 : decode b_La_law 373 = .ok (.aload_n 0, 1) := by decide +kernel
theorem d_La_law_374 : decode b_La_law 374 = .ok (.iload 4, 2) := by decide +kernel
theorem d_La_law_376 : decode b_La_law 376 = .ok (.iconst 3, 1) := by decide +kernel
theorem d_La_law_377 : decode b_La_law 377 = .ok (.iadd, 1) := by decide +kernel
theorem d_La_law_378 : decode b_La_law 378 = .ok (.iaload, 1) := by decide +kernel
theorem d_La_law_379 : decode b_La_law 379 = .ok (.invokestatic 102, 3) := by decide +kernel
theorem d_La_law_382 : decode b_La_law 382 = .ok (.istore 5, 2) := by decide +kernel
theorem d_La_law_384 : decode b_La_law 384 = .ok (.aload_n 2, 1) := by decide +kernel
theorem d_La_law_385 : decode b_La_law 385 = .ok (.aload_n 0, 1) := by decide +kernel
theorem d_La_law_386 : decode b_La_law 386 = .ok (.iload 4, 2) := by decide +kernel
theorem d_La_law_388 : decode b_La_law 388 = .ok (.iconst 1, 1) := by decide +kernel
theorem d_La_law_389 : decode b_La_law 389 = .ok (.iadd, 1) := by decide +kernel
theorem d_La_law_390 : decode b_La_law 390 = .ok (.iaload, 1) := by decide +kernel
theorem d_La_law_391 : decode b_La_law 391 = .ok (.aload_n 0, 1) := by decide +kernel
theorem d_La_law_392 : decode b_La_law 392 = .ok (.iload 4, 2) := by decide +kernel
theorem d_La_law_394 : decode b_La_law 394 = .ok (.iconst 2, 1) := by decide +kernel
theorem d_La_law_395 : decode b_La_law 395 = .ok (.iadd, 1) := by decide +kernel
theorem d_La_law_396 : decode b_La_law 396 = .ok (.iaload, 1) := by decide +kernel
theorem d_La_law_397 : decode b_La_law 397 = .ok (.aload_n 0, 1) := by decide +kernel
theorem d_La_law_398 : decode b_La_law 398 = .ok (.iload 4, 2) := by decide +kernel
theorem d_La_law_400 : decode b_La_law 400 = .ok (.iconst 3, 1) := by decide +kernel
theorem d_La_law_401 : decode b_La_law 401 = .ok (.iadd, 1) := by decide +kernel
theorem d_La_law_402 : decode b_La_law 402 = .ok (.iaload, 1) := by decide +kernel
theorem d_La_law_403 : decode b_La_law 403 = .ok (.invokevirtual 104, 3) := by decide +kernel
theorem d_La_law_406 : decode b_La_law 406 = .ok (.aload_n 2, 1) := by decide +kernel
theorem d_La_law_407 : decode b_La_law 407 = .ok (.invokevirtual 90, 3) := by decide +kernel
theorem d_La_law_410 : decode b_La_law 410 = .ok (.iload 5, 2) := by decide +kernel
theorem d_La_law_412 : decode b_La_law 412 = .ok (.if_icmp .eq 5, 3) := by decide +kernel
theorem d_La_law_415 : decode b_La_law 415 = .ok (.iconst 0, 1) := by decide +kernel
theorem d_La_law_416 : decode b_La_law 416 = .ok (.ireturn, 1) := by decide +kernel
theorem d_La_law_417 : decode b_La_law 417 = .ok (.goto 923, 3) := by decide +kernel
theorem d_La_law_420 : decode b_La_law 420 = .ok (.aload_n 1, 1) := by decide +kernel
theorem d_La_law_421 : decode b_La_law 421 = .ok (.aload_n 0, 1) := by decide +kernel
theorem d_La_law_422 : decode b_La_law 422 = .ok (.iload 4, 2) := by decide +kernel
theorem d_La_law_424 : decode b_La_law 424 = .ok (.iconst 1, 1) := by decide +kernel
theorem d_La_law_425 : decode b_La_law 425 = .ok (.iadd, 1) := by decide +kernel
theorem d_La_law_426 : decode b_La_law 426 = .ok (.iaload, 1) := by decide +kernel
theorem d_La_law_427 : decode b_La_law 427 = .ok (.aload_n 0, 1) := by decide +kernel
theorem d_La_law_428 : decode b_La_law 428 = .ok (.iload 4, 2) := by decide +kernel
theorem d_La_law_430 : decode b_La_law 430 = .ok (.iconst 2, 1) := by decide +kernel
theorem d_La_law_431 : decode b_La_law 431 = .ok (.iadd, 1) := by decide +kernel
theorem d_La_law_432 : decode b_La_law 432 = .ok (.iaload, 1) := by decide +kernel
theorem d_La_law_433 : decode b_La_law 433 = .ok (.aload_n 0, 1) := by decide +kernel
theorem d_La_law_434 : decode b_La_law 434 = .ok (.iload 4, 2) := by decide +kernel
theorem d_La_law_436 : decode b_La_law 436 = .ok (.iconst 3, 1) := by decide +kernel
theorem d_La_law_437 : decode b_La_law 437 = .ok (.iadd, 1) := by decide +kernel
theorem d_La_law_438 : decode b_La_law 438 = .ok (.iaload, 1) := by decide +kernel
theorem d_La_law_439 : decode b_La_law 439 = .ok (.invokestatic 105, 3) := by decide +kernel
theorem d_La_law_442 : decode b_La_law 442 = .ok (.istore 5, 2) := by decide +kernel
theorem d_La_law_444 : decode b_La_law 444 = .ok (.aload_n 2, 1) := by decide +kernel
theorem d_La_law_445 : decode b_La_law 445 = .ok (.aload_n 0, 1) := by decide +kernel
theorem d_La_law_446 : decode b_La_law 446 = .ok (.iload 4, 2) := by decide +kernel
theorem d_La_law_448 : decode b_La_law 448 = .ok (.iconst 1, 1) := by decide +kernel
theorem d_La_law_449 : decode b_La_law 449 = .ok (.iadd, 1) := by decide +kernel
theorem d_La_law_450 : decode b_La_law 450 = .ok (.iaload, 1) := by decide +kernel
theorem d_La_law_451 : decode b_La_law 451 = .ok (.aload_n 0, 1) := by decide +kernel
theorem d_La_law_452 : decode b_La_law 452 = .ok (.iload 4, 2) := by decide +kernel
theorem d_La_law_454 : decode b_La_law 454 = .ok (.iconst 2, 1) := by decide +kernel
theorem d_La_law_455 : decode b_La_law 455 = .ok (.iadd, 1) := by decide +kernel
theorem d_La_law_456 : decode b_La_law 456 = .ok (.iaload, 1) := by decide +kernel
theorem d_La_law_457 : decode b_La_law 457 = .ok (.aload_n 0, 1) := by decide +kernel
theorem d_La_law_458 : decode b_La_law 458 = .ok (.iload 4, 2) := by decide +kernel
theorem d_La_law_460 : decode b_La_law 460 = .ok (.iconst 3, 1) := by decide +kernel
theorem d_La_law_461 : decode b_La_law 461 = .ok (.iadd, 1) := by decide +kernel
theorem d_La_law_462 : decode b_La_law 462 = .ok (.iaload, 1) := by decide +kernel
theorem d_La_law_463 : decode b_La_law 463 = .ok (.invokevirtual 107, 3) := by decide +kernel
theorem d_La_law_466 : decode b_La_law 466 = .ok (.aload_n 2, 1) := by decide +kernel
theorem d_La_law_467 : decode b_La_law 467 = .ok (.invokevirtual 90, 3) := by decide +kernel
theorem d_La_law_470 : decode b_La_law 470 = .ok (.iload 5, 2) := by decide +kernel
theorem d_La_law_472 : decode b_La_law 472 = .ok (.if_icmp .eq 5, 3) := by decide +kernel
theorem d_La_law_475 : decode b_La_law 475 = .ok (.iconst 0, 1) := by decide +kernel
theorem d_La_law_476 : decode b_La_law 476 = .ok (.ireturn, 1) := by decide +kernel
theorem d_La_law_477 : decode b_La_law 477 = .ok (.goto 863, 3) := by decide +kernel
theorem d_La_law_480 : decode b_La_law 480 = .ok (.aload_n 1, 1) := by decide +kernel
theorem d_La_law_481 : decode b_La_law 481 = .ok (.aload_n 0, 1) := by decide +kernel
theorem d_La_law_482 : decode b_La_law 482 = .ok (.iload 4, 2) := by decide +kernel
theorem d_La_law_484 : decode b_La_law 484 = .ok (.iconst 1, 1) := by decide +kernel
theorem d_La_law_485 : decode b_La_law 485 = .ok (.iadd, 1) := by decide +kernel
theorem d_La_law_486 : decode b_La_law 486 = .ok (.iaload, 1) := by decide +kernel
theorem d_La_law_487 : decode b_La_law 487 = .ok (.aload_n 0, 1) := by decide +kernel
theorem d_La_law_488 : decode b_La_law 488 = .ok (.iload 4, 2) := by decide +kernel
theorem d_La_law_490 : decode b_La_law 490 = .ok (.iconst 2, 1) := by decide +kernel
theorem d_La_law_491 : decode b_La_law 491 = .ok (.iadd, 1) := by decide +kernel
theorem d_La_law_492 : decode b_La_law 492 = .ok (.iaload, 1) := by decide +kernel
theorem d_La_law_493 : decode b_La_law 493 = .ok (.aload_n 0, 1) := by decide +kernel
theorem d_La_law_494 : decode b_La_law 494 = .ok (.iload 4, 2) := by decide +kernel
theorem d_La_law_496 : decode b_La_law 496 = .ok (.iconst 3, 1) := by decide +kernel
theorem d_La_law_497 : decode b_La_law 497 = .ok (.iadd, 1) := by decide +kernel
theorem d_La_law_498 : decode b_La_law 498 = .ok (.iaload, 1) := by decide +kernel
theorem d_La_law_499 : decode b_La_law 499 = .ok (.invokestatic 108, 3) := by decide +kernel
theorem d_La_law_502 : decode b_La_law 502 = .ok (.istore 5, 2) := by decide +kernel
theorem d_La_law_504 : decode b_La_law 504 = .ok (.aload_n 2, 1) := by decide +kernel
theorem d_La_law_505 : decode b_La_law 505 = .ok (.aload_n 0, 1) := by decide +kernel
theorem d_La_law_506 : decode b_La_law 506 = .ok (.iload 4, 2) := by decide +kernel
theorem d_La_law_508 : decode b_La_law 508 = .ok (.iconst 1, 1) := by decide +kernel
theorem d_La_law_509 : decode b_La_law 509 = .ok (.iadd, 1) := by decide +kernel
theorem d_La_law_510 : decode b_La_law 510 = .ok (.iaload, 1) := by decide +kernel
theorem d_La_law_511 : decode b_La_law 511 = .ok (.aload_n 0, 1) := by decide +kernel
theorem d_La_law_512 : decode b_La_law 512 = .ok (.iload 4, 2) := by decide +kernel
theorem d_La_law_514 : decode b_La_law 514 = .ok (.iconst 2, 1) := by decide +kernel
theorem d_La_law_515 : decode b_La_law 515 = .ok (.iadd, 1) := by decide +kernel
theorem d_La_law_516 : decode b_La_law 516 = .ok (.iaload, 1) := by decide +kernel
theorem d_La_law_517 : decode b_La_law 517 = .ok (.aload_n 0, 1) := by decide +kernel
theorem d_La_law_518 : decode b_La_law 518 = .ok (.iload 4, 2) := by decide +kernel
theorem d_La_law_520 : decode b_La_law 520 = .ok (.iconst 3, 1) := by decide +kernel
theorem d_La_law_521 : decode b_La_law 521 = .ok (.iadd, 1) := by decide +kernel
theorem d_La_law_522 : decode b_La_law 522 = .ok (.iaload, 1) := by decide +kernel
theorem d_La_law_523 : decode b_La_law 523 = .ok (.invokevirtual 110, 3) := by decide +kernel
theorem d_La_law_526 : decode b_La_law 526 = .ok (.aload_n 2, 1) := by decide +kernel
theorem d_La_law_527 : decode b_La_law 527 = .ok (.invokevirtual 90, 3) := by decide +kernel
theorem d_La_law_530 : decode b_La_law 530 = .ok (.iload 5, 2) := by decide +kernel
theorem d_La_law_532 : decode b_La_law 532 = .ok (.if_icmp .eq 5, 3) := by decide +kernel
theorem d_La_law_535 : decode b_La_law 535 = .ok (.iconst 0, 1) := by decide +kernel
theorem d_La_law_536 : decode b_La_law 536 = .ok (.ireturn, 1) := by decide +kernel
theorem d_La_law_537 : decode b_La_law 537 = .ok (.goto 803, 3) := by decide +kernel
theorem d_La_law_540 : decode b_La_law 540 = .ok (.aload_n 1, 1) := by decide +kernel
theorem d_La_law_541 : decode b_La_law 541 = .ok (.aload_n 0, 1) := by decide +kernel
theorem d_La_law_542 : decode b_La_law 542 = .ok (.iload 4, 2) := by decide +kernel
theorem d_La_law_544 : decode b_La_law 544 = .ok (.iconst 1, 1) := by decide +kernel
theorem d_La_law_545 : decode b_La_law 545 = .ok (.iadd, 1) := by decide +kernel
theorem d_La_law_546 : decode b_La_law 546 = .ok (.iaload, 1) := by decide +kernel
theorem d_La_law_547 : decode b_La_law 547 = .ok (.aload_n 0, 1) := by decide +kernel
theorem d_La_law_548 : decode b_La_law 548 = .ok (.iload 4, 2) := by decide +kernel
theorem d_La_law_550 : decode b_La_law 550 = .ok (.iconst 2, 1) := by decide +kernel
theorem d_La_law_551 : decode b_La_law 551 = .ok (.iadd, 1) := by decide +kernel
theorem d_La_law_552 : decode b_La_law 552 = .ok (.iaload, 1) := by decide +kernel
theorem d_La_law_553 : decode b_La_law 553 = .ok (.aload_n 0, 1) := by decide +kernel
theorem d_La_law_554 : decode b_La_law 554 = .ok (.iload 4, 2) := by decide +kernel
theorem d_La_law_556 : decode b_La_law 556 = .ok (.iconst 3, 1) := by decide +kernel
theorem d_La_law_557 : decode b_La_law 557 = .ok (.iadd, 1) := by decide +kernel
theorem d_La_law_558 : decode b_La_law 558 = .ok (.iaload, 1) := by decide +kernel
theorem d_La_law_559 : decode b_La_law 559 = .ok (.invokestatic 111, 3) := by decide +kernel
theorem d_La_law_562 : decode b_La_law 562 = .ok (.istore 5, 2) := by decide +kernel
theorem d_La_law_564 : decode b_La_law 564 = .ok (.aload_n 2, 1) := by decide +kernel
theorem d_La_law_565 : decode b_La_law 565 = .ok (.aload_n 0, 1) := by decide +kernel
theorem d_La_law_566 : decode b_La_law 566 = .ok (.iload 4, 2) := by decide +kernel
theorem d_La_law_568 : decode b_La_law 568 = .ok (.iconst 1, 1) := by decide +kernel
theorem d_La_law_569 : decode b_La_law 569 = .ok (.iadd, 1) := by decide +kernel
theorem d_La_law_570 : decode b_La_law 570 = .ok (.iaload, 1) := by decide +kernel
theorem d_La_law_571 : decode b_La_law 571 = .ok (.aload_n 0, 1) := by decide +kernel
theorem d_La_law_572 : decode b_La_law 572 = .ok (.iload 4, 2) := by decide +kernel
theorem d_La_law_574 : decode b_La_law 574 = .ok (.iconst 2, 1) := by decide +kernel
theorem d_La_law_575 : decode b_La_law 575 = .ok (.iadd, 1) := by decide +kernel
theorem d_La_law_576 : decode b_La_law 576 = .ok (.iaload, 1) := by decide +kernel
theorem d_La_law_577 : decode b_La_law 577 = .ok (.aload_n 0, 1) := by decide +kernel
theorem d_La_law_578 : decode b_La_law 578 = .ok (.iload 4, 2) := by decide +kernel
theorem d_La_law_580 : decode b_La_law 580 = .ok (.iconst 3, 1) := by decide +kernel
theorem d_La_law_581 : decode b_La_law 581 = .ok (.iadd, 1) := by decide +kernel
theorem d_La_law_582 : decode b_La_law 582 = .ok (.iaload, 1) := by decide +kernel
theorem d_La_law_583 : decode b_La_law 583 = .ok (.invokevirtual 113, 3) := by decide +kernel
theorem d_La_law_586 : decode b_La_law 586 = .ok (.aload_n 2, 1) := by decide +kernel
theorem d_La_law_587 : decode b_La_law 587 = .ok (.invokevirtual 90, 3) := by decide +kernel
theorem d_La_law_590 : decode b_La_law 590 = .ok (.iload 5, 2) := by decide +kernel
theorem d_La_law_592 : decode b_La_law 592 = .ok (.if_icmp .eq 5, 3) := by decide +kernel
theorem d_La_law_595 : decode b_La_law 595 = .ok (.iconst 0, 1) := by decide +kernel
theorem d_La_law_596 : decode b_La_law 596 = .ok (.ireturn, 1) := by decide +kernel
theorem d_La_law_597 : decode b_La_law 597 = .ok (.goto 743, 3) := by decide +kernel
theorem d_La_law_600 : decode b_La_law 600 = .ok (.aload_n 1, 1) := by decide +kernel
theorem d_La_law_601 : decode b_La_law 601 = .ok (.aload_n 0, 1) := by decide +kernel
theorem d_La_law_602 : decode b_La_law 602 = .ok (.iload 4, 2) := by decide +kernel
theorem d_La_law_604 : decode b_La_law 604 = .ok (.iconst 1, 1) := by decide +kernel
theorem d_La_law_605 : decode b_La_law 605 = .ok (.iadd, 1) := by decide +kernel
theorem d_La_law_606 : decode b_La_law 606 = .ok (.iaload, 1) := by decide +kernel
theorem d_La_law_607 : decode b_La_law 607 = .ok (.aload_n 0, 1) := by decide +kernel
theorem d_La_law_608 : decode b_La_law 608 = .ok (.iload 4, 2) := by decide +kernel
theorem d_La_law_610 : decode b_La_law 610 = .ok (.iconst 2, 1) := by decide +kernel
theorem d_La_law_611 : decode b_La_law 611 = .ok (.iadd, 1) := by decide +kernel
theorem d_La_law_612 : decode b_La_law 612 = .ok (.iaload, 1) := by decide +kernel
theorem d_La_law_613 : decode b_La_law 613 = .ok (.aload_n 0, 1) := by decide +kernel
theorem d_La_law_614 : decode b_La_law 614 = .ok (.iload 4, 2) := by decide +kernel
theorem d_La_law_616 : decode b_La_law 616 = .ok (.iconst 3, 1) := by decide +kernel
theorem d_La_law_617 : decode b_La_law 617 = .ok (.iadd, 1) := by decide +kernel
theorem d_La_law_618 : decode b_La_law 618 = .ok (.iaload, 1) := by decide +kernel
theorem d_La_law_619 : decode b_La_law 619 = .ok (.invokestatic 114, 3) := by decide +kernel
theorem d_La_law_622 : decode b_La_law 622 = .ok (.istore 5, 2) := by decide +kernel
theorem d_La_law_624 : decode b_La_law 624 = .ok (.aload_n 2, 1) := by decide +kernel
theorem d_La_law_625 : decode b_La_law 625 = .ok (.aload_n 0, 1) := by decide +kernel
theorem d_La_law_626 : decode b_La_law 626 = .ok (.iload 4, 2) := by decide +kernel
theorem d_La_law_628 : decode b_La_law 628 = .ok (.iconst 1, 1) := by decide +kernel
theorem d_La_law_629 : decode b_La_law 629 = .ok (.iadd, 1) := by decide +kernel
theorem d_La_law_630 : decode b_La_law 630 = .ok (.iaload, 1) := by decide +kernel
theorem d_La_law_631 : decode b_La_law 631 = .ok (.aload_n 0, 1) := by decide +kernel
theorem d_La_law_632 : decode b_La_law 632 = .ok (.iload 4, 2) := by decide +kernel
theorem d_La_law_634 : decode b_La_law 634 = .ok (.iconst 2, 1) := by decide +kernel
theorem d_La_law_635 : decode b_La_law 635 = .ok (.iadd, 1) := by decide +kernel
theorem d_La_law_636 : decode b_La_law 636 = .ok (.iaload, 1) := by decide +kernel
theorem d_La_law_637 : decode b_La_law 637 = .ok (.aload_n 0, 1) := by decide +kernel
theorem d_La_law_638 : decode b_La_law 638 = .ok (.iload 4, 2) := by decide +kernel
theorem d_La_law_640 : decode b_La_law 640 = .ok (.iconst 3, 1) := by decide +kernel
theorem d_La_law_641 : decode b_La_law 641 = .ok (.iadd, 1) := by decide +kernel
theorem d_La_law_642 : decode b_La_law 642 = .ok (.iaload, 1) := by decide +kernel
theorem d_La_law_643 : decode b_La_law 643 = .ok (.invokevirtual 116, 3) := by decide +kernel
theorem d_La_law_646 : decode b_La_law 646 = .ok (.aload_n 2, 1) := by decide +kernel
theorem d_La_law_647 : decode b_La_law 647 = .ok (.invokevirtual 90, 3) := by decide +kernel
theorem d_La_law_650 : decode b_La_law 650 = .ok (.iload 5, 2) := by decide +kernel
theorem d_La_law_652 : decode b_La_law 652 = .ok (.if_icmp .eq 5, 3) := by decide +kernel
theorem d_La_law_655 : decode b_La_law 655 = .ok (.iconst 0, 1) := by decide +kernel
theorem d_La_law_656 : decode b_La_law 656 = .ok (.ireturn, 1) := by decide +kernel
theorem d_La_law_657 : decode b_La_law 657 = .ok (.goto 683, 3) := by decide +kernel
theorem d_La_law_660 : decode b_La_law 660 = .ok (.aload_n 1, 1) := by decide +kernel
theorem d_La_law_661 : decode b_La_law 661 = .ok (.aload_n 0, 1) := by decide +kernel
theorem d_La_law_662 : decode b_La_law 662 = .ok (.iload 4, 2) := by decide +kernel
theorem d_La_law_664 : decode b_La_law 664 = .ok (.iconst 1, 1) := by decide +kernel
theorem d_La_law_665 : decode b_La_law 665 = .ok (.iadd, 1) := by decide +kernel
theorem d_La_law_666 : decode b_La_law 666 = .ok (.iaload, 1) := by decide +kernel
theorem d_La_law_667 : decode b_La_law 667 = .ok (.aload_n 0, 1) := by decide +kernel
theorem d_La_law_668 : decode b_La_law 668 = .ok (.iload 4, 2) := by decide +kernel
theorem d_La_law_670 : decode b_La_law 670 = .ok (.iconst 2, 1) := by decide +kernel
theorem d_La_law_671 : decode b_La_law 671 = .ok (.iadd, 1) := by decide +kernel
theorem d_La_law_672 : decode b_La_law 672 = .ok (.iaload, 1) := by decide +kernel
theorem d_La_law_673 : decode b_La_law 673 = .ok (.aload_n 0, 1) := by decide +kernel
theorem d_La_law_674 : decode b_La_law 674 = .ok (.iload 4, 2) := by decide +kernel
theorem d_La_law_676 : decode b_La_law 676 = .ok (.iconst 3, 1) := by decide +kernel
theorem d_La_law_677 : decode b_La_law 677 = .ok (.iadd, 1) := by decide +kernel
theorem d_La_law_678 : decode b_La_law 678 = .ok (.iaload, 1) := by decide +kernel
theorem d_La_law_679 : decode b_La_law 679 = .ok (.aload_n 0, 1) := by decide +kernel
theorem d_La_law_680 : decode b_La_law 680 = .ok (.iload 4, 2) := by decide +kernel
theorem d_La_law_682 : decode b_La_law 682 = .ok (.iconst 4, 1) := by decide +kernel
theorem d_La_law_683 : decode b_La_law 683 = .ok (.iadd, 1) := by decide +kernel
theorem d_La_law_684 : decode b_La_law 684 = .ok (.iaload, 1) := by decide +kernel
theorem d_La_law_685 : decode b_La_law 685 = .ok (.invokestatic 117, 3) := by decide +kernel
theorem d_La_law_688 : decode b_La_law 688 = .ok (.istore 5, 2) := by decide +kernel
theorem d_La_law_690 : decode b_La_law 690 = .ok (.aload_n 2, 1) := by decide +kernel
theorem d_La_law_691 : decode b_La_law 691 = .ok (.aload_n 0, 1) := by decide +kernel
theorem d_La_law_692 : decode b_La_law 692 = .ok (.iload 4, 2) := by decide +kernel
theorem d_La_law_694 : decode b_La_law 694 = .ok (.iconst 1, 1) := by decide +kernel
theorem d_La_law_695 : decode b_La_law 695 = .ok (.iadd, 1) := by decide +kernel
theorem d_La_law_696 : decode b_La_law 696 = .ok (.iaload, 1) := by decide +kernel
theorem d_La_law_697 : decode b_La_law 697 = .ok (.aload_n 0, 1) := by decide +kernel
theorem d_La_law_698 : decode b_La_law 698 = .ok (.iload 4, 2) := by decide +kernel
theorem d_La_law_700 : decode b_La_law 700 = .ok (.iconst 2, 1) := by decide +kernel
theorem d_La_law_701 : decode b_La_law 701 = .ok (.iadd, 1) := by decide +kernel
theorem d_La_law_702 : decode b_La_law 702 = .ok (.iaload, 1) := by decide +kernel
theorem d_La_law_703 : decode b_La_law 703 = .ok (.aload_n 0, 1) := by decide +kernel
theorem d_La_law_704 : decode b_La_law 704 = .ok (.iload 4, 2) := by decide +kernel
theorem d_La_law_706 : decode b_La_law 706 = .ok (.iconst 3, 1) := by decide +kernel
theorem d_La_law_707 : decode b_La_law 707 = .ok (.iadd, 1) := by decide +kernel
theorem d_La_law_708 : decode b_La_law 708 = .ok (.iaload, 1) := by decide +kernel
theorem d_La_law_709 : decode b_La_law 709 = .ok (.aload_n 0, 1) := by decide +kernel
theorem d_La_law_710 : decode b_La_law 710 = .ok (.iload 4, 2) := by decide +kernel
theorem d_La_law_712 : decode b_La_law 712 = .ok (.iconst 4, 1) := by decide +kernel
theorem d_La_law_713 : decode b_La_law 713 = .ok (.iadd, 1) := by decide +kernel
theorem d_La_law_714 : decode b_La_law 714 = .ok (.iaload, 1) := by decide +kernel
theorem d_La_law_715 : decode b_La_law 715 = .ok (.invokevirtual 120, 3) := by decide +kernel
theorem d_La_law_718 : decode b_La_law 718 = .ok (.aload_n 2, 1) := by decide +kernel
theorem d_La_law_719 : decode b_La_law 719 = .ok (.invokevirtual 90, 3) := by decide +kernel
theorem d_La_law_722 : decode b_La_law 722 = .ok (.iload 5, 2) := by decide +kernel
theorem d_La_law_724 : decode b_La_law 724 = .ok (.if_icmp .eq 5, 3) := by decide +kernel
theorem d_La_law_727 : decode b_La_law 727 = .ok (.iconst 0, 1) := by decide +kernel
theorem d_La_law_728 : decode b_La_law 728 = .ok (.ireturn, 1) := by decide +kernel
theorem d_La_law_729 : decode b_La_law 729 = .ok (.goto 611, 3) := by decide +kernel
theorem d_La_law_732 : decode b_La_law 732 = .ok (.aload_n 1, 1) := by decide +kernel
theorem d_La_law_733 : decode b_La_law 733 = .ok (.aload_n 0, 1) := by decide +kernel
theorem d_La_law_734 : decode b_La_law 734 = .ok (.iload 4, 2) := by decide +kernel
theorem d_La_law_736 : decode b_La_law 736 = .ok (.iconst 1, 1) := by decide +kernel
theorem d_La_law_737 : decode b_La_law 737 = .ok (.iadd, 1) := by decide +kernel
theorem d_La_law_738 : decode b_La_law 738 = .ok (.iaload, 1) := by decide +kernel
theorem d_La_law_739 : decode b_La_law 739 = .ok (.aload_n 0, 1) := by decide +kernel
theorem d_La_law_740 : decode b_La_law 740 = .ok (.iload 4, 2) := by decide +kernel
theorem d_La_law_742 : decode b_La_law 742 = .ok (.iconst 2, 1) := by decide +kernel
theorem d_La_law_743 : decode b_La_law 743 = .ok (.iadd, 1) := by decide +kernel
theorem d_La_law_744 : decode b_La_law 744 = .ok (.iaload, 1) := by decide +kernel
theorem d_La_law_745 : decode b_La_law 745 = .ok (.aload_n 0, 1) := by decide +kernel
theorem d_La_law_746 : decode b_La_law 746 = .ok (.iload 4, 2) := by decide +kernel
theorem d_La_law_748 : decode b_La_law 748 = .ok (.iconst 3, 1) := by decide +kernel
theorem d_La_law_749 : decode b_La_law 749 = .ok (.iadd, 1) := by decide +kernel
theorem d_La_law_750 : decode b_La_law 750 = .ok (.iaload, 1) := by decide +kernel
theorem d_La_law_751 : decode b_La_law 751 = .ok (.invokestatic 121, 3) := by decide +kernel
theorem d_La_law_754 : decode b_La_law 754 = .ok (.istore 5, 2) := by decide +kernel
theorem d_La_law_756 : decode b_La_law 756 = .ok (.aload_n 2, 1) := by decide +kernel
theorem d_La_law_757 : decode b_La_law 757 = .ok (.aload_n 0, 1) := by decide +kernel
theorem d_La_law_758 : decode b_La_law 758 = .ok (.iload 4, 2) := by decide +kernel
theorem d_La_law_760 : decode b_La_law 760 = .ok (.iconst 1, 1) := by decide +kernel
theorem d_La_law_761 : decode b_La_law 761 = .ok (.iadd, 1) := by decide +kernel
theorem d_La_law_762 : decode b_La_law 762 = .ok (.iaload, 1) := by decide +kernel
theorem d_La_law_763 : decode b_La_law 763 = .ok (.aload_n 0, 1) := by decide +kernel
theorem d_La_law_764 : decode b_La_law 764 = .ok (.iload 4, 2) := by decide +kernel
theorem d_La_law_766 : decode b_La_law 766 = .ok (.iconst 2, 1) := by decide +kernel
theorem d_La_law_767 : decode b_La_law 767 = .ok (.iadd, 1) := by decide +kernel
theorem d_La_law_768 : decode b_La_law 768 = .ok (.iaload, 1) := by decide +kernel
theorem d_La_law_769 : decode b_La_law 769 = .ok (.aload_n 0, 1) := by decide +kernel
theorem d_La_law_770 : decode b_La_law 770 = .ok (.iload 4, 2) := by decide +kernel
theorem d_La_law_772 : decode b_La_law 772 = .ok (.iconst 3, 1) := by decide +kernel
theorem d_La_law_773 : decode b_La_law 773 = .ok (.iadd, 1) := by decide +kernel
theorem d_La_law_774 : decode b_La_law 774 = .ok (.iaload, 1) := by decide +kernel
theorem d_La_law_775 : decode b_La_law 775 = .ok (.invokevirtual 123, 3) := by decide +kernel
theorem d_La_law_778 : decode b_La_law 778 = .ok (.aload_n 2, 1) := by decide +kernel
theorem d_La_law_779 : decode b_La_law 779 = .ok (.invokevirtual 90, 3) := by decide +kernel
theorem d_La_law_782 : decode b_La_law 782 = .ok (.iload 5, 2) := by decide +kernel
theorem d_La_law_784 : decode b_La_law 784 = .ok (.if_icmp .eq 5, 3) := by decide +kernel
theorem d_La_law_787 : decode b_La_law 787 = .ok (.iconst 0, 1) := by decide +kernel
theorem d_La_law_788 : decode b_La_law 788 = .ok (.ireturn, 1) := by decide +kernel
theorem d_La_law_789 : decode b_La_law 789 = .ok (.goto 551, 3) := by decide +kernel
theorem d_La_law_792 : decode b_La_law 792 = .ok (.aload_n 1, 1) := by decide +kernel
theorem d_La_law_793 : decode b_La_law 793 = .ok (.aload_n 0, 1) := by decide +kernel
theorem d_La_law_794 : decode b_La_law 794 = .ok (.iload 4, 2) := by decide +kernel
theorem d_La_law_796 : decode b_La_law 796 = .ok (.iconst 1, 1) := by decide +kernel
theorem d_La_law_797 : decode b_La_law 797 = .ok (.iadd, 1) := by decide +kernel
theorem d_La_law_798 : decode b_La_law 798 = .ok (.iaload, 1) := by decide +kernel
theorem d_La_law_799 : decode b_La_law 799 = .ok (.aload_n 0, 1) := by decide +kernel
theorem d_La_law_800 : decode b_La_law 800 = .ok (.iload 4, 2) := by decide +kernel
theorem d_La_law_802 : decode b_La_law 802 = .ok (.iconst 2, 1) := by decide +kernel
theorem d_La_law_803 : decode b_La_law 803 = .ok (.iadd, 1) := by decide +kernel
theorem d_La_law_804 : decode b_La_law 804 = .ok (.iaload, 1) := by decide +kernel
theorem d_La_law_805 : decode b_La_law 805 = .ok (.aload_n 3, 1) := by decide +kernel
theorem d_La_law_806 : decode b_La_law 806 = .ok (.invokestatic 124, 3) := by decide +kernel
theorem d_La_law_809 : decode b_La_law 809 = .ok (.istore 5, 2) := by decide +kernel
theorem d_La_law_811 : decode b_La_law 811 = .ok (.aload_n 2, 1) := by decide +kernel
theorem d_La_law_812 : decode b_La_law 812 = .ok (.aload_n 0, 1) := by decide +kernel
theorem d_La_law_813 : decode b_La_law 813 = .ok (.iload 4, 2) := by decide +kernel
theorem d_La_law_815 : decode b_La_law 815 = .ok (.iconst 1, 1) := by decide +kernel
theorem d_La_law_816 : decode b_La_law 816 = .ok (.iadd, 1) := by decide +kernel
theorem d_La_law_817 : decode b_La_law 817 = .ok (.iaload, 1) := by decide +kernel
theorem d_La_law_818 : decode b_La_law 818 = .ok (.aload_n 0, 1) := by decide +kernel
theorem d_La_law_819 : decode b_La_law 819 = .ok (.iload 4, 2) := by decide +kernel
theorem d_La_law_821 : decode b_La_law 821 = .ok (.iconst 2, 1) := by decide +kernel
theorem d_La_law_822 : decode b_La_law 822 = .ok (.iadd, 1) := by decide +kernel
theorem d_La_law_823 : decode b_La_law 823 = .ok (.iaload, 1) := by decide +kernel
theorem d_La_law_824 : decode b_La_law 824 = .ok (.invokevirtual 127, 3) := by decide +kernel
theorem d_La_law_827 : decode b_La_law 827 = .ok (.istore 6, 2) := by decide +kernel
theorem d_La_law_829 : decode b_La_law 829 = .ok (.aload_n 2, 1) := by decide +kernel
theorem d_La_law_830 : decode b_La_law 830 = .ok (.invokevirtual 90, 3) := by decide +kernel
theorem d_La_law_833 : decode b_La_law 833 = .ok (.iload 5, 2) := by decide +kernel
theorem d_La_law_835 : decode b_La_law 835 = .ok (.if_icmp .eq 5, 3) := by decide +kernel
theorem d_La_law_838 : decode b_La_law 838 = .ok (.iconst 0, 1) := by decide +kernel
theorem d_La_law_839 : decode b_La_law 839 = .ok (.ireturn, 1) := by decide +kernel
theorem d_La_law_840 : decode b_La_law 840 = .ok (.iload 5, 2) := by decide +kernel
theorem d_La_law_842 : decode b_La_law 842 = .ok (.ifCond .ne 15, 3) := by decide +kernel
theorem d_La_law_845 : decode b_La_law 845 = .ok (.aload_n 3, 1) := by decide +kernel
theorem d_La_law_846 : decode b_La_law 846 = .ok (.iconst 0, 1) := by decide +kernel
theorem d_La_law_847 : decode b_La_law 847 = .ok (.laload, 1) := by decide +kernel
theorem d_La_law_848 : decode b_La_law 848 = .ok (.iload 6, 2) := by decide +kernel
theorem d_La_law_850 : decode b_La_law 850 = .ok (.i2l, 1) := by decide +kernel
theorem d_La_law_851 : decode b_La_law 851 = .ok (.lcmp, 1) := by decide +kernel
theorem d_La_law_852 : decode b_La_law 852 = .ok (.ifCond .eq 5, 3) := by decide +kernel
theorem d_La_law_855 : decode b_La_law 855 = .ok (.iconst 0, 1) := by decide +kernel
theorem d_La_law_856 : decode b_La_law 856 = .ok (.ireturn, 1) := by decide +kernel
theorem d_La_law_857 : decode b_La_law 857 = .ok (.goto 483, 3) := by decide +kernel
theorem d_La_law_860 : decode b_La_law 860 = .ok (.aload_n 1, 1) := by decide +kernel
theorem d_La_law_861 : decode b_La_law 861 = .ok (.aload_n 0, 1) := by decide +kernel
theorem d_La_law_862 : decode b_La_law 862 = .ok (.iload 4, 2) := by decide +kernel
theorem d_La_law_864 : decode b_La_law 864 = .ok (.iconst 1, 1) := by decide +kernel
theorem d_La_law_865 : decode b_La_law 865 = .ok (.iadd, 1) := by decide +kernel
theorem d_La_law_866 : decode b_La_law 866 = .ok (.iaload, 1) := by decide +kernel
theorem d_La_law_867 : decode b_La_law 867 = .ok (.aload_n 3, 1) := by decide +kernel
theorem d_La_law_868 : decode b_La_law 868 = .ok (.invokestatic 128, 3) := by decide +kernel
theorem d_La_law_871 : decode b_La_law 871 = .ok (.istore 5, 2) := by decide +kernel
theorem d_La_law_873 : decode b_La_law 873 = .ok (.aload_n 2, 1) := by decide +kernel
theorem d_La_law_874 : decode b_La_law 874 = .ok (.aload_n 0, 1) := by decide +kernel
theorem d_La_law_875 : decode b_La_law 875 = .ok (.iload 4, 2) := by decide +kernel
theorem d_La_law_877 : decode b_La_law 877 = .ok (.iconst 1, 1) := by decide +kernel
theorem d_La_law_878 : decode b_La_law 878 = .ok (.iadd, 1) := by decide +kernel
theorem d_La_law_879 : decode b_La_law 879 = .ok (.iaload, 1) := by decide +kernel
theorem d_La_law_880 : decode b_La_law 880 = .ok (.invokevirtual 131, 3) := by decide +kernel
theorem d_La_law_883 : decode b_La_law 883 = .ok (.istore 6, 2) := by decide +kernel
theorem d_La_law_885 : decode b_La_law 885 = .ok (.aload_n 2, 1) := by decide +kernel
theorem d_La_law_886 : decode b_La_law 886 = .ok (.invokevirtual 90, 3) := by decide +kernel
theorem d_La_law_889 : decode b_La_law 889 = .ok (.iload 5, 2) := by decide +kernel
theorem d_La_law_891 : decode b_La_law 891 = .ok (.if_icmp .eq 5, 3) := by decide +kernel
theorem d_La_law_894 : decode b_La_law 894 = .ok (.iconst 0, 1) := by decide +kernel
theorem d_La_law_895 : decode b_La_law 895 = .ok (.ireturn, 1) := by decide +kernel
theorem d_La_law_896 : decode b_La_law 896 = .ok (.iload 5, 2) := by decide +kernel
theorem d_La_law_898 : decode b_La_law 898 = .ok (.ifCond .ne 15, 3) := by decide +kernel
theorem d_La_law_901 : decode b_La_law 901 = .ok (.aload_n 3, 1) := by decide +kernel
theorem d_La_law_902 : decode b_La_law 902 = .ok (.iconst 0, 1) := by decide +kernel
theorem d_La_law_903 : decode b_La_law 903 = .ok (.laload, 1) := by decide +kernel
theorem d_La_law_904 : decode b_La_law 904 = .ok (.iload 6, 2) := by decide +kernel
theorem d_La_law_906 : decode b_La_law 906 = .ok (.i2l, 1) := by decide +kernel
theorem d_La_law_907 : decode b_La_law 907 = .ok (.lcmp, 1) := by decide +kernel
theorem d_La_law_908 : decode b_La_law 908 = .ok (.ifCond .eq 5, 3) := by decide +kernel
theorem d_La_law_911 : decode b_La_law 911 = .ok (.iconst 0, 1) := by decide +kernel
theorem d_La_law_912 : decode b_La_law 912 = .ok (.ireturn, 1) := by decide +kernel
theorem d_La_law_913 : decode b_La_law 913 = .ok (.goto 427, 3) := by decide +kernel
theorem d_La_law_916 : decode b_La_law 916 = .ok (.aload_n 1, 1) := by decide +kernel
theorem d_La_law_917 : decode b_La_law 917 = .ok (.aload_n 0, 1) := by decide +kernel
theorem d_La_law_918 : decode b_La_law 918 = .ok (.iload 4, 2) := by decide +kernel
theorem d_La_law_920 : decode b_La_law 920 = .ok (.iconst 1, 1) := by decide +kernel
theorem d_La_law_921 : decode b_La_law 921 = .ok (.iadd, 1) := by decide +kernel
theorem d_La_law_922 : decode b_La_law 922 = .ok (.iaload, 1) := by decide +kernel
theorem d_La_law_923 : decode b_La_law 923 = .ok (.aload_n 0, 1) := by decide +kernel
theorem d_La_law_924 : decode b_La_law 924 = .ok (.iload 4, 2) := by decide +kernel
theorem d_La_law_926 : decode b_La_law 926 = .ok (.iconst 2, 1) := by decide +kernel
theorem d_La_law_927 : decode b_La_law 927 = .ok (.iadd, 1) := by decide +kernel
theorem d_La_law_928 : decode b_La_law 928 = .ok (.iaload, 1) := by decide +kernel
theorem d_La_law_929 : decode b_La_law 929 = .ok (.aload_n 3, 1) := by decide +kernel
theorem d_La_law_930 : decode b_La_law 930 = .ok (.invokestatic 132, 3) := by decide +kernel
theorem d_La_law_933 : decode b_La_law 933 = .ok (.istore 5, 2) := by decide +kernel
theorem d_La_law_935 : decode b_La_law 935 = .ok (.aload_n 2, 1) := by decide +kernel
theorem d_La_law_936 : decode b_La_law 936 = .ok (.aload_n 0, 1) := by decide +kernel
theorem d_La_law_937 : decode b_La_law 937 = .ok (.iload 4, 2) := by decide +kernel
theorem d_La_law_939 : decode b_La_law 939 = .ok (.iconst 1, 1) := by decide +kernel
theorem d_La_law_940 : decode b_La_law 940 = .ok (.iadd, 1) := by decide +kernel
theorem d_La_law_941 : decode b_La_law 941 = .ok (.iaload, 1) := by decide +kernel
theorem d_La_law_942 : decode b_La_law 942 = .ok (.aload_n 0, 1) := by decide +kernel
theorem d_La_law_943 : decode b_La_law 943 = .ok (.iload 4, 2) := by decide +kernel
theorem d_La_law_945 : decode b_La_law 945 = .ok (.iconst 2, 1) := by decide +kernel
theorem d_La_law_946 : decode b_La_law 946 = .ok (.iadd, 1) := by decide +kernel
theorem d_La_law_947 : decode b_La_law 947 = .ok (.iaload, 1) := by decide +kernel
theorem d_La_law_948 : decode b_La_law 948 = .ok (.invokevirtual 134, 3) := by decide +kernel
theorem d_La_law_951 : decode b_La_law 951 = .ok (.istore 6, 2) := by decide +kernel
theorem d_La_law_953 : decode b_La_law 953 = .ok (.aload_n 2, 1) := by decide +kernel
theorem d_La_law_954 : decode b_La_law 954 = .ok (.invokevirtual 90, 3) := by decide +kernel
theorem d_La_law_957 : decode b_La_law 957 = .ok (.iload 5, 2) := by decide +kernel
theorem d_La_law_959 : decode b_La_law 959 = .ok (.if_icmp .eq 5, 3) := by decide +kernel
theorem d_La_law_962 : decode b_La_law 962 = .ok (.iconst 0, 1) := by decide +kernel
theorem d_La_law_963 : decode b_La_law 963 = .ok (.ireturn, 1) := by decide +kernel
theorem d_La_law_964 : decode b_La_law 964 = .ok (.iload 5, 2) := by decide +kernel
theorem d_La_law_966 : decode b_La_law 966 = .ok (.ifCond .ne 15, 3) := by decide +kernel
theorem d_La_law_969 : decode b_La_law 969 = .ok (.aload_n 3, 1) := by decide +kernel
theorem d_La_law_970 : decode b_La_law 970 = .ok (.iconst 0, 1) := by decide +kernel
theorem d_La_law_971 : decode b_La_law 971 = .ok (.laload, 1) := by decide +kernel
theorem d_La_law_972 : decode b_La_law 972 = .ok (.iload 6, 2) := by decide +kernel
theorem d_La_law_974 : decode b_La_law 974 = .ok (.i2l, 1) := by decide +kernel
theorem d_La_law_975 : decode b_La_law 975 = .ok (.lcmp, 1) := by decide +kernel
theorem d_La_law_976 : decode b_La_law 976 = .ok (.ifCond .eq 5, 3) := by decide +kernel
theorem d_La_law_979 : decode b_La_law 979 = .ok (.iconst 0, 1) := by decide +kernel
theorem d_La_law_980 : decode b_La_law 980 = .ok (.ireturn, 1) := by decide +kernel
theorem d_La_law_981 : decode b_La_law 981 = .ok (.goto 359, 3) := by decide +kernel
theorem d_La_law_984 : decode b_La_law 984 = .ok (.aload_n 1, 1) := by decide +kernel
theorem d_La_law_985 : decode b_La_law 985 = .ok (.aload_n 0, 1) := by decide +kernel
theorem d_La_law_986 : decode b_La_law 986 = .ok (.iload 4, 2) := by decide +kernel
theorem d_La_law_988 : decode b_La_law 988 = .ok (.iconst 1, 1) := by decide +kernel
theorem d_La_law_989 : decode b_La_law 989 = .ok (.iadd, 1) := by decide +kernel
theorem d_La_law_990 : decode b_La_law 990 = .ok (.iaload, 1) := by decide +kernel
theorem d_La_law_991 : decode b_La_law 991 = .ok (.aload_n 0, 1) := by decide +kernel
theorem d_La_law_992 : decode b_La_law 992 = .ok (.iload 4, 2) := by decide +kernel
theorem d_La_law_994 : decode b_La_law 994 = .ok (.iconst 2, 1) := by decide +kernel
theorem d_La_law_995 : decode b_La_law 995 = .ok (.iadd, 1) := by decide +kernel
theorem d_La_law_996 : decode b_La_law 996 = .ok (.iaload, 1) := by decide +kernel
theorem d_La_law_997 : decode b_La_law 997 = .ok (.aload_n 0, 1) := by decide +kernel
theorem d_La_law_998 : decode b_La_law 998 = .ok (.iload 4, 2) := by decide +kernel
theorem d_La_law_1000 : decode b_La_law 1000 = .ok (.iconst 3, 1) := by decide +kernel
theorem d_La_law_1001 : decode b_La_law 1001 = .ok (.iadd, 1) := by decide +kernel
theorem d_La_law_1002 : decode b_La_law 1002 = .ok (.iaload, 1) := by decide +kernel
theorem d_La_law_1003 : decode b_La_law 1003 = .ok (.aload_n 3, 1) := by decide +kernel
theorem d_La_law_1004 : decode b_La_law 1004 = .ok (.invokestatic 135, 3) := by decide +kernel
theorem d_La_law_1007 : decode b_La_law 1007 = .ok (.istore 5, 2) := by decide +kernel
theorem d_La_law_1009 : decode b_La_law 1009 = .ok (.aload_n 2, 1) := by decide +kernel
theorem d_La_law_1010 : decode b_La_law 1010 = .ok (.aload_n 0, 1) := by decide +kernel
theorem d_La_law_1011 : decode b_La_law 1011 = .ok (.iload 4, 2) := by decide +kernel
theorem d_La_law_1013 : decode b_La_law 1013 = .ok (.iconst 1, 1) := by decide +kernel
theorem d_La_law_1014 : decode b_La_law 1014 = .ok (.iadd, 1) := by decide +kernel
theorem d_La_law_1015 : decode b_La_law 1015 = .ok (.iaload, 1) := by decide +kernel
theorem d_La_law_1016 : decode b_La_law 1016 = .ok (.aload_n 0, 1) := by decide +kernel
theorem d_La_law_1017 : decode b_La_law 1017 = .ok (.iload 4, 2) := by decide +kernel
theorem d_La_law_1019 : decode b_La_law 1019 = .ok (.iconst 2, 1) := by decide +kernel
theorem d_La_law_1020 : decode b_La_law 1020 = .ok (.iadd, 1) := by decide +kernel
theorem d_La_law_1021 : decode b_La_law 1021 = .ok (.iaload, 1) := by decide +kernel
theorem d_La_law_1022 : decode b_La_law 1022 = .ok (.aload_n 0, 1) := by decide +kernel
theorem d_La_law_1023 : decode b_La_law 1023 = .ok (.iload 4, 2) := by decide +kernel
theorem d_La_law_1025 : decode b_La_law 1025 = .ok (.iconst 3, 1) := by decide +kernel
theorem d_La_law_1026 : decode b_La_law 1026 = .ok (.iadd, 1) := by decide +kernel
theorem d_La_law_1027 : decode b_La_law 1027 = .ok (.iaload, 1) := by decide +kernel
theorem d_La_law_1028 : decode b_La_law 1028 = .ok (.invokevirtual 138, 3) := by decide +kernel
theorem d_La_law_1031 : decode b_La_law 1031 = .ok (.istore 6, 2) := by decide +kernel
theorem d_La_law_1033 : decode b_La_law 1033 = .ok (.aload_n 2, 1) := by decide +kernel
theorem d_La_law_1034 : decode b_La_law 1034 = .ok (.invokevirtual 90, 3) := by decide +kernel
theorem d_La_law_1037 : decode b_La_law 1037 = .ok (.iload 5, 2) := by decide +kernel
theorem d_La_law_1039 : decode b_La_law 1039 = .ok (.if_icmp .eq 5, 3) := by decide +kernel
theorem d_La_law_1042 : decode b_La_law 1042 = .ok (.iconst 0, 1) := by decide +kernel
theorem d_La_law_1043 : decode b_La_law 1043 = .ok (.ireturn, 1) := by decide +kernel
theorem d_La_law_1044 : decode b_La_law 1044 = .ok (.iload 5, 2) := by decide +kernel
theorem d_La_law_1046 : decode b_La_law 1046 = .ok (.ifCond .ne 15, 3) := by decide +kernel
theorem d_La_law_1049 : decode b_La_law 1049 = .ok (.aload_n 3, 1) := by decide +kernel
theorem d_La_law_1050 : decode b_La_law 1050 = .ok (.iconst 0, 1) := by decide +kernel
theorem d_La_law_1051 : decode b_La_law 1051 = .ok (.laload, 1) := by decide +kernel
theorem d_La_law_1052 : decode b_La_law 1052 = .ok (.iload 6, 2) := by decide +kernel
theorem d_La_law_1054 : decode b_La_law 1054 = .ok (.i2l, 1) := by decide +kernel
theorem d_La_law_1055 : decode b_La_law 1055 = .ok (.lcmp, 1) := by decide +kernel
theorem d_La_law_1056 : decode b_La_law 1056 = .ok (.ifCond .eq 5, 3) := by decide +kernel
theorem d_La_law_1059 : decode b_La_law 1059 = .ok (.iconst 0, 1) := by decide +kernel
theorem d_La_law_1060 : decode b_La_law 1060 = .ok (.ireturn, 1) := by decide +kernel
theorem d_La_law_1061 : decode b_La_law 1061 = .ok (.goto 279, 3) := by decide +kernel
theorem d_La_law_1064 : decode b_La_law 1064 = .ok (.aload_n 1, 1) := by decide +kernel
theorem d_La_law_1065 : decode b_La_law 1065 = .ok (.aload_n 0, 1) := by decide +kernel
theorem d_La_law_1066 : decode b_La_law 1066 = .ok (.iload 4, 2) := by decide +kernel
theorem d_La_law_1068 : decode b_La_law 1068 = .ok (.iconst 1, 1) := by decide +kernel
theorem d_La_law_1069 : decode b_La_law 1069 = .ok (.iadd, 1) := by decide +kernel
theorem d_La_law_1070 : decode b_La_law 1070 = .ok (.iaload, 1) := by decide +kernel
theorem d_La_law_1071 : decode b_La_law 1071 = .ok (.aload_n 0, 1) := by decide +kernel
theorem d_La_law_1072 : decode b_La_law 1072 = .ok (.iload 4, 2) := by decide +kernel
theorem d_La_law_1074 : decode b_La_law 1074 = .ok (.iconst 2, 1) := by decide +kernel
theorem d_La_law_1075 : decode b_La_law 1075 = .ok (.iadd, 1) := by decide +kernel
theorem d_La_law_1076 : decode b_La_law 1076 = .ok (.iaload, 1) := by decide +kernel
theorem d_La_law_1077 : decode b_La_law 1077 = .ok (.aload_n 3, 1) := by decide +kernel
theorem d_La_law_1078 : decode b_La_law 1078 = .ok (.invokestatic 139, 3) := by decide +kernel
theorem d_La_law_1081 : decode b_La_law 1081 = .ok (.istore 5, 2) := by decide +kernel
theorem d_La_law_1083 : decode b_La_law 1083 = .ok (.aload_n 2, 1) := by decide +kernel
theorem d_La_law_1084 : decode b_La_law 1084 = .ok (.aload_n 0, 1) := by decide +kernel
theorem d_La_law_1085 : decode b_La_law 1085 = .ok (.iload 4, 2) := by decide +kernel
theorem d_La_law_1087 : decode b_La_law 1087 = .ok (.iconst 1, 1) := by decide +kernel
theorem d_La_law_1088 : decode b_La_law 1088 = .ok (.iadd, 1) := by decide +kernel
theorem d_La_law_1089 : decode b_La_law 1089 = .ok (.iaload, 1) := by decide +kernel
theorem d_La_law_1090 : decode b_La_law 1090 = .ok (.aload_n 0, 1) := by decide +kernel
theorem d_La_law_1091 : decode b_La_law 1091 = .ok (.iload 4, 2) := by decide +kernel
theorem d_La_law_1093 : decode b_La_law 1093 = .ok (.iconst 2, 1) := by decide +kernel
theorem d_La_law_1094 : decode b_La_law 1094 = .ok (.iadd, 1) := by decide +kernel
theorem d_La_law_1095 : decode b_La_law 1095 = .ok (.iaload, 1) := by decide +kernel
theorem d_La_law_1096 : decode b_La_law 1096 = .ok (.invokevirtual 141, 3) := by decide +kernel
theorem d_La_law_1099 : decode b_La_law 1099 = .ok (.istore 6, 2) := by decide +kernel
theorem d_La_law_1101 : decode b_La_law 1101 = .ok (.aload_n 2, 1) := by decide +kernel
theorem d_La_law_1102 : decode b_La_law 1102 = .ok (.invokevirtual 90, 3) := by decide +kernel
theorem d_La_law_1105 : decode b_La_law 1105 = .ok (.iload 5, 2) := by decide +kernel
theorem d_La_law_1107 : decode b_La_law 1107 = .ok (.if_icmp .eq 5, 3) := by decide +kernel
theorem d_La_law_1110 : decode b_La_law 1110 = .ok (.iconst 0, 1) := by decide +kernel
theorem d_La_law_1111 : decode b_La_law 1111 = .ok (.ireturn, 1) := by decide +kernel
theorem d_La_law_1112 : decode b_La_law 1112 = .ok (.iload 5, 2) := by decide +kernel
theorem d_La_law_1114 : decode b_La_law 1114 = .ok (.ifCond .ne 15, 3) := by decide +kernel
theorem d_La_law_1117 : decode b_La_law 1117 = .ok (.aload_n 3, 1) := by decide +kernel
theorem d_La_law_1118 : decode b_La_law 1118 = .ok (.iconst 0, 1) := by decide +kernel
theorem d_La_law_1119 : decode b_La_law 1119 = .ok (.laload, 1) := by decide +kernel
theorem d_La_law_1120 : decode b_La_law 1120 = .ok (.iload 6, 2) := by decide +kernel
theorem d_La_law_1122 : decode b_La_law 1122 = .ok (.i2l, 1) := by decide +kernel
theorem d_La_law_1123 : decode b_La_law 1123 = .ok (.lcmp, 1) := by decide +kernel
theorem d_La_law_1124 : decode b_La_law 1124 = .ok (.ifCond .eq 5, 3) := by decide +kernel
theorem d_La_law_1127 : decode b_La_law 1127 = .ok (.iconst 0, 1) := by decide +kernel
theorem d_La_law_1128 : decode b_La_law 1128 = .ok (.ireturn, 1) := by decide +kernel
theorem d_La_law_1129 : decode b_La_law 1129 = .ok (.goto 211, 3) := by decide +kernel
theorem d_La_law_1132 : decode b_La_law 1132 = .ok (.aload_n 1, 1) := by decide +kernel
theorem d_La_law_1133 : decode b_La_law 1133 = .ok (.aload_n 0, 1) := by decide +kernel
theorem d_La_law_1134 : decode b_La_law 1134 = .ok (.iload 4, 2) := by decide +kernel
theorem d_La_law_1136 : decode b_La_law 1136 = .ok (.iconst 1, 1) := by decide +kernel
theorem d_La_law_1137 : decode b_La_law 1137 = .ok (.iadd, 1) := by decide +kernel
theorem d_La_law_1138 : decode b_La_law 1138 = .ok (.iaload, 1) := by decide +kernel
theorem d_La_law_1139 : decode b_La_law 1139 = .ok (.aload_n 0, 1) := by decide +kernel
theorem d_La_law_1140 : decode b_La_law 1140 = .ok (.iload 4, 2) := by decide +kernel
theorem d_La_law_1142 : decode b_La_law 1142 = .ok (.iconst 2, 1) := by decide +kernel
theorem d_La_law_1143 : decode b_La_law 1143 = .ok (.iadd, 1) := by decide +kernel
theorem d_La_law_1144 : decode b_La_law 1144 = .ok (.iaload, 1) := by decide +kernel
theorem d_La_law_1145 : decode b_La_law 1145 = .ok (.aload_n 0, 1) := by decide +kernel
theorem d_La_law_1146 : decode b_La_law 1146 = .ok (.iload 4, 2) := by decide +kernel
theorem d_La_law_1148 : decode b_La_law 1148 = .ok (.iconst 3, 1) := by decide +kernel
theorem d_La_law_1149 : decode b_La_law 1149 = .ok (.iadd, 1) := by decide +kernel
theorem d_La_law_1150 : decode b_La_law 1150 = .ok (.iaload, 1) := by decide +kernel
theorem d_La_law_1151 : decode b_La_law 1151 = .ok (.aload_n 3, 1) := by decide +kernel
theorem d_La_law_1152 : decode b_La_law 1152 = .ok (.invokestatic 142, 3) := by decide +kernel
theorem d_La_law_1155 : decode b_La_law 1155 = .ok (.istore 5, 2) := by decide +kernel
theorem d_La_law_1157 : decode b_La_law 1157 = .ok (.aload_n 2, 1) := by decide +kernel
theorem d_La_law_1158 : decode b_La_law 1158 = .ok (.aload_n 0, 1) := by decide +kernel
theorem d_La_law_1159 : decode b_La_law 1159 = .ok (.iload 4, 2) := by decide +kernel
theorem d_La_law_1161 : decode b_La_law 1161 = .ok (.iconst 1, 1) := by decide +kernel
theorem d_La_law_1162 : decode b_La_law 1162 = .ok (.iadd, 1) := by decide +kernel
theorem d_La_law_1163 : decode b_La_law 1163 = .ok (.iaload, 1) := by decide +kernel
theorem d_La_law_1164 : decode b_La_law 1164 = .ok (.aload_n 0, 1) := by decide +kernel
theorem d_La_law_1165 : decode b_La_law 1165 = .ok (.iload 4, 2) := by decide +kernel
theorem d_La_law_1167 : decode b_La_law 1167 = .ok (.iconst 2, 1) := by decide +kernel
theorem d_La_law_1168 : decode b_La_law 1168 = .ok (.iadd, 1) := by decide +kernel
theorem d_La_law_1169 : decode b_La_law 1169 = .ok (.iaload, 1) := by decide +kernel
theorem d_La_law_1170 : decode b_La_law 1170 = .ok (.aload_n 0, 1) := by decide +kernel
theorem d_La_law_1171 : decode b_La_law 1171 = .ok (.iload 4, 2) := by decide +kernel
theorem d_La_law_1173 : decode b_La_law 1173 = .ok (.iconst 3, 1) := by decide +kernel
theorem d_La_law_1174 : decode b_La_law 1174 = .ok (.iadd, 1) := by decide +kernel
theorem d_La_law_1175 : decode b_La_law 1175 = .ok (.iaload, 1) := by decide +kernel
theorem d_La_law_1176 : decode b_La_law 1176 = .ok (.invokevirtual 144, 3) := by decide +kernel
theorem d_La_law_1179 : decode b_La_law 1179 = .ok (.istore 6, 2) := by decide +kernel
theorem d_La_law_1181 : decode b_La_law 1181 = .ok (.aload_n 2, 1) := by decide +kernel
theorem d_La_law_1182 : decode b_La_law 1182 = .ok (.invokevirtual 90, 3) := by decide +kernel
theorem d_La_law_1185 : decode b_La_law 1185 = .ok (.iload 5, 2) := by decide +kernel
theorem d_La_law_1187 : decode b_La_law 1187 = .ok (.if_icmp .eq 5, 3) := by decide +kernel
theorem d_La_law_1190 : decode b_La_law 1190 = .ok (.iconst 0, 1) := by decide +kernel
theorem d_La_law_1191 : decode b_La_law 1191 = .ok (.ireturn, 1) := by decide +kernel
theorem d_La_law_1192 : decode b_La_law 1192 = .ok (.iload 5, 2) := by decide +kernel
theorem d_La_law_1194 : decode b_La_law 1194 = .ok (.ifCond .ne 15, 3) := by decide +kernel
theorem d_La_law_1197 : decode b_La_law 1197 = .ok (.aload_n 3, 1) := by decide +kernel
theorem d_La_law_1198 : decode b_La_law 1198 = .ok (.iconst 0, 1) := by decide +kernel
theorem d_La_law_1199 : decode b_La_law 1199 = .ok (.laload, 1) := by decide +kernel
theorem d_La_law_1200 : decode b_La_law 1200 = .ok (.iload 6, 2) := by decide +kernel
theorem d_La_law_1202 : decode b_La_law 1202 = .ok (.i2l, 1) := by decide +kernel
theorem d_La_law_1203 : decode b_La_law 1203 = .ok (.lcmp, 1) := by decide +kernel
theorem d_La_law_1204 : decode b_La_law 1204 = .ok (.ifCond .eq 5, 3) := by decide +kernel
theorem d_La_law_1207 : decode b_La_law 1207 = .ok (.iconst 0, 1) := by decide +kernel
theorem d_La_law_1208 : decode b_La_law 1208 = .ok (.ireturn, 1) := by decide +kernel
theorem d_La_law_1209 : decode b_La_law 1209 = .ok (.goto 131, 3) := by decide +kernel
theorem d_La_law_1212 : decode b_La_law 1212 = .ok (.aload_n 1, 1) := by decide +kernel
theorem d_La_law_1213 : decode b_La_law 1213 = .ok (.aload_n 0, 1) := by decide +kernel
theorem d_La_law_1214 : decode b_La_law 1214 = .ok (.iload 4, 2) := by decide +kernel
theorem d_La_law_1216 : decode b_La_law 1216 = .ok (.iconst 1, 1) := by decide +kernel
theorem d_La_law_1217 : decode b_La_law 1217 = .ok (.iadd, 1) := by decide +kernel
theorem d_La_law_1218 : decode b_La_law 1218 = .ok (.iaload, 1) := by decide +kernel
theorem d_La_law_1219 : decode b_La_law 1219 = .ok (.aload_n 0, 1) := by decide +kernel
theorem d_La_law_1220 : decode b_La_law 1220 = .ok (.iload 4, 2) := by decide +kernel
theorem d_La_law_1222 : decode b_La_law 1222 = .ok (.iconst 2, 1) := by decide +kernel
theorem d_La_law_1223 : decode b_La_law 1223 = .ok (.iadd, 1) := by decide +kernel
theorem d_La_law_1224 : decode b_La_law 1224 = .ok (.iaload, 1) := by decide +kernel
theorem d_La_law_1225 : decode b_La_law 1225 = .ok (.aload_n 3, 1) := by decide +kernel
theorem d_La_law_1226 : decode b_La_law 1226 = .ok (.invokestatic 145, 3) := by decide +kernel
theorem d_La_law_1229 : decode b_La_law 1229 = .ok (.istore 5, 2) := by decide +kernel
theorem d_La_law_1231 : decode b_La_law 1231 = .ok (.aload_n 2, 1) := by decide +kernel
theorem d_La_law_1232 : decode b_La_law 1232 = .ok (.aload_n 0, 1) := by decide +kernel
theorem d_La_law_1233 : decode b_La_law 1233 = .ok (.iload 4, 2) := by decide +kernel
theorem d_La_law_1235 : decode b_La_law 1235 = .ok (.iconst 1, 1) := by decide +kernel
theorem d_La_law_1236 : decode b_La_law 1236 = .ok (.iadd, 1) := by decide +kernel
theorem d_La_law_1237 : decode b_La_law 1237 = .ok (.iaload, 1) := by decide +kernel
theorem d_La_law_1238 : decode b_La_law 1238 = .ok (.aload_n 0, 1) := by decide +kernel
theorem d_La_law_1239 : decode b_La_law 1239 = .ok (.iload 4, 2) := by decide +kernel
theorem d_La_law_1241 : decode b_La_law 1241 = .ok (.iconst 2, 1) := by decide +kernel
theorem d_La_law_1242 : decode b_La_law 1242 = .ok (.iadd, 1) := by decide +kernel
theorem d_La_law_1243 : decode b_La_law 1243 = .ok (.iaload, 1) := by decide +kernel
theorem d_La_law_1244 : decode b_La_law 1244 = .ok (.invokevirtual 147, 3) := by decide +kernel
theorem d_La_law_1247 : decode b_La_law 1247 = .ok (.istore 6, 2) := by decide +kernel
theorem d_La_law_1249 : decode b_La_law 1249 = .ok (.aload_n 2, 1) := by decide +kernel
theorem d_La_law_1250 : decode b_La_law 1250 = .ok (.invokevirtual 90, 3) := by decide +kernel
theorem d_La_law_1253 : decode b_La_law 1253 = .ok (.iload 5, 2) := by decide +kernel
theorem d_La_law_1255 : decode b_La_law 1255 = .ok (.if_icmp .eq 5, 3) := by decide +kernel
theorem d_La_law_1258 : decode b_La_law 1258 = .ok (.iconst 0, 1) := by decide +kernel
theorem d_La_law_1259 : decode b_La_law 1259 = .ok (.ireturn, 1) := by decide +kernel
theorem d_La_law_1260 : decode b_La_law 1260 = .ok (.iload 5, 2) := by decide +kernel
theorem d_La_law_1262 : decode b_La_law 1262 = .ok (.ifCond .ne 15, 3) := by decide +kernel
theorem d_La_law_1265 : decode b_La_law 1265 = .ok (.aload_n 3, 1) := by decide +kernel
theorem d_La_law_1266 : decode b_La_law 1266 = .ok (.iconst 0, 1) := by decide +kernel
theorem d_La_law_1267 : decode b_La_law 1267 = .ok (.laload, 1) := by decide +kernel
theorem d_La_law_1268 : decode b_La_law 1268 = .ok (.iload 6, 2) := by decide +kernel
theorem d_La_law_1270 : decode b_La_law 1270 = .ok (.i2l, 1) := by decide +kernel
theorem d_La_law_1271 : decode b_La_law 1271 = .ok (.lcmp, 1) := by decide +kernel
theorem d_La_law_1272 : decode b_La_law 1272 = .ok (.ifCond .eq 5, 3) := by decide +kernel
theorem d_La_law_1275 : decode b_La_law 1275 = .ok (.iconst 0, 1) := by decide +kernel
theorem d_La_law_1276 : decode b_La_law 1276 = .ok (.ireturn, 1) := by decide +kernel
theorem d_La_law_1277 : decode b_La_law 1277 = .ok (.goto 63, 3) := by decide +kernel
theorem d_La_law_1280 : decode b_La_law 1280 = .ok (.aload_n 1, 1) := by decide +kernel
theorem d_La_law_1281 : decode b_La_law 1281 = .ok (.aload_n 0, 1) := by decide +kernel
theorem d_La_law_1282 : decode b_La_law 1282 = .ok (.iload 4, 2) := by decide +kernel
theorem d_La_law_1284 : decode b_La_law 1284 = .ok (.iconst 1, 1) := by decide +kernel
theorem d_La_law_1285 : decode b_La_law 1285 = .ok (.iadd, 1) := by decide +kernel
theorem d_La_law_1286 : decode b_La_law 1286 = .ok (.iaload, 1) := by decide +kernel
theorem d_La_law_1287 : decode b_La_law 1287 = .ok (.aload_n 0, 1) := by decide +kernel
theorem d_La_law_1288 : decode b_La_law 1288 = .ok (.iload 4, 2) := by decide +kernel
theorem d_La_law_1290 : decode b_La_law 1290 = .ok (.iconst 2, 1) := by decide +kernel
theorem d_La_law_1291 : decode b_La_law 1291 = .ok (.iadd, 1) := by decide +kernel
theorem d_La_law_1292 : decode b_La_law 1292 = .ok (.iaload, 1) := by decide +kernel
theorem d_La_law_1293 : decode b_La_law 1293 = .ok (.aload_n 0, 1) := by decide +kernel
theorem d_La_law_1294 : decode b_La_law 1294 = .ok (.iload 4, 2) := by decide +kernel
theorem d_La_law_1296 : decode b_La_law 1296 = .ok (.iconst 3, 1) := by decide +kernel
theorem d_La_law_1297 : decode b_La_law 1297 = .ok (.iadd, 1) := by decide +kernel
theorem d_La_law_1298 : decode b_La_law 1298 = .ok (.iaload, 1) := by decide +kernel
theorem d_La_law_1299 : decode b_La_law 1299 = .ok (.invokestatic 148, 3) := by decide +kernel
theorem d_La_law_1302 : decode b_La_law 1302 = .ok (.istore 5, 2) := by decide +kernel
theorem d_La_law_1304 : decode b_La_law 1304 = .ok (.aload_n 2, 1) := by decide +kernel
theorem d_La_law_1305 : decode b_La_law 1305 = .ok (.aload_n 0, 1) := by decide +kernel
theorem d_La_law_1306 : decode b_La_law 1306 = .ok (.iload 4, 2) := by decide +kernel
theorem d_La_law_1308 : decode b_La_law 1308 = .ok (.iconst 1, 1) := by decide +kernel
theorem d_La_law_1309 : decode b_La_law 1309 = .ok (.iadd, 1) := by decide +kernel
theorem d_La_law_1310 : decode b_La_law 1310 = .ok (.iaload, 1) := by decide +kernel
theorem d_La_law_1311 : decode b_La_law 1311 = .ok (.aload_n 0, 1) := by decide +kernel
theorem d_La_law_1312 : decode b_La_law 1312 = .ok (.iload 4, 2) := by decide +kernel
theorem d_La_law_1314 : decode b_La_law 1314 = .ok (.iconst 2, 1) := by decide +kernel
theorem d_La_law_1315 : decode b_La_law 1315 = .ok (.iadd, 1) := by decide +kernel
theorem d_La_law_1316 : decode b_La_law 1316 = .ok (.iaload, 1) := by decide +kernel
theorem d_La_law_1317 : decode b_La_law 1317 = .ok (.aload_n 0, 1) := by decide +kernel
theorem d_La_law_1318 : decode b_La_law 1318 = .ok (.iload 4, 2) := by decide +kernel
theorem d_La_law_1320 : decode b_La_law 1320 = .ok (.iconst 3, 1) := by decide +kernel
theorem d_La_law_1321 : decode b_La_law 1321 = .ok (.iadd, 1) := by decide +kernel
theorem d_La_law_1322 : decode b_La_law 1322 = .ok (.iaload, 1) := by decide +kernel
theorem d_La_law_1323 : decode b_La_law 1323 = .ok (.invokevirtual 150, 3) := by decide +kernel
theorem d_La_law_1326 : decode b_La_law 1326 = .ok (.aload_n 2, 1) := by decide +kernel
theorem d_La_law_1327 : decode b_La_law 1327 = .ok (.invokevirtual 90, 3) := by decide +kernel
theorem d_La_law_1330 : decode b_La_law 1330 = .ok (.iload 5, 2) := by decide +kernel
theorem d_La_law_1332 : decode b_La_law 1332 = .ok (.if_icmp .eq 5, 3) := by decide +kernel
theorem d_La_law_1335 : decode b_La_law 1335 = .ok (.iconst 0, 1) := by decide +kernel
theorem d_La_law_1336 : decode b_La_law 1336 = .ok (.ireturn, 1) := by decide +kernel
theorem d_La_law_1337 : decode b_La_law 1337 = .ok (.goto 3, 3) := by decide +kernel
theorem d_La_law_1340 : decode b_La_law 1340 = .ok (.iinc 4 6, 3) := by decide +kernel
theorem d_La_law_1343 : decode b_La_law 1343 = .ok (.goto (-1320), 3) := by decide +kernel
theorem d_La_law_1346 : decode b_La_law 1346 = .ok (.iconst 1, 1) := by decide +kernel
theorem d_La_law_1347 : decode b_La_law 1347 = .ok (.ireturn, 1) := by decide +kernel
theorem d_La_law_40 : decode b_La_law 40 = .ok (.tableswitch 1300 0 17 #[88, 212, 260, 320, 380, 440, 500, 560, 620, 692, 752, 820, 876, 944, 1024, 1092, 1172, 1240], 88) := by decide +kernel
