theorem dX0_init_0 : decode cX0_init 0 = .ok (.aload_n 0, 1) := by decide +kernel
theorem dX0_init_1 : decode cX0_init 1 = .ok (.invokespecial 3, 3) := by decide +kernel
theorem dX0_init_4 : decode cX0_init 4 = .ok (.aload_n 0, 1) := by decide +kernel
theorem dX0_init_5 : decode cX0_init 5 = .ok (.bipush 10, 2) := by decide +kernel
theorem dX0_init_7 : decode cX0_init 7 = .ok (.newarray .int, 2) := by decide +kernel
theorem dX0_init_9 : decode cX0_init 9 = .ok (.putfield 9, 3) := by decide +kernel
theorem dX0_init_12 : decode cX0_init 12 = .ok (.aload_n 0, 1) := by decide +kernel
theorem dX0_init_13 : decode cX0_init 13 = .ok (.bipush 60, 2) := by decide +kernel
theorem dX0_init_15 : decode cX0_init 15 = .ok (.newarray .int, 2) := by decide +kernel
theorem dX0_init_17 : decode cX0_init 17 = .ok (.putfield 15, 3) := by decide +kernel
theorem dX0_init_20 : decode cX0_init 20 = .ok (.aload_n 0, 1) := by decide +kernel
theorem dX0_init_21 : decode cX0_init 21 = .ok (.bipush 60, 2) := by decide +kernel
theorem dX0_init_23 : decode cX0_init 23 = .ok (.newarray .int, 2) := by decide +kernel
theorem dX0_init_25 : decode cX0_init 25 = .ok (.putfield 18, 3) := by decide +kernel
theorem dX0_init_28 : decode cX0_init 28 = .ok (.aload_n 0, 1) := by decide +kernel
theorem dX0_init_29 : decode cX0_init 29 = .ok (.bipush 60, 2) := by decide +kernel
theorem dX0_init_31 : decode cX0_init 31 = .ok (.newarray .int, 2) := by decide +kernel
theorem dX0_init_33 : decode cX0_init 33 = .ok (.putfield 21, 3) := by decide +kernel
theorem dX0_init_36 : decode cX0_init 36 = .ok (.return_, 1) := by decide +kernel
theorem dX0_length_0 : decode cX0_length 0 = .ok (.aload_n 0, 1) := by decide +kernel
theorem dX0_length_1 : decode cX0_length 1 = .ok (.getfield 9, 3) := by decide +kernel
theorem dX0_length_4 : decode cX0_length 4 = .ok (.iload_n 1, 1) := by decide +kernel
theorem dX0_length_5 : decode cX0_length 5 = .ok (.iaload, 1) := by decide +kernel
theorem dX0_length_6 : decode cX0_length 6 = .ok (.ireturn, 1) := by decide +kernel
theorem dX0_code_0 : decode cX0_code 0 = .ok (.aload_n 0, 1) := by decide +kernel
theorem dX0_code_1 : decode cX0_code 1 = .ok (.getfield 15, 3) := by decide +kernel
theorem dX0_code_4 : decode cX0_code 4 = .ok (.iload_n 1, 1) := by decide +kernel
theorem dX0_code_5 : decode cX0_code 5 = .ok (.bipush 6, 2) := by decide +kernel
theorem dX0_code_7 : decode cX0_code 7 = .ok (.imul, 1) := by decide +kernel
theorem dX0_code_8 : decode cX0_code 8 = .ok (.iload_n 2, 1) := by decide +kernel
theorem dX0_code_9 : decode cX0_code 9 = .ok (.iadd, 1) := by decide +kernel
theorem dX0_code_10 : decode cX0_code 10 = .ok (.iaload, 1) := by decide +kernel
theorem dX0_code_11 : decode cX0_code 11 = .ok (.ireturn, 1) := by decide +kernel
theorem dX0_a_0 : decode cX0_a 0 = .ok (.aload_n 0, 1) := by decide +kernel
theorem dX0_a_1 : decode cX0_a 1 = .ok (.getfield 18, 3) := by decide +kernel
theorem dX0_a_4 : decode cX0_a 4 = .ok (.iload_n 1, 1) := by decide +kernel
theorem dX0_a_5 : decode cX0_a 5 = .ok (.bipush 6, 2) := by decide +kernel
theorem dX0_a_7 : decode cX0_a 7 = .ok (.imul, 1) := by decide +kernel
theorem dX0_a_8 : decode cX0_a 8 = .ok (.iload_n 2, 1) := by decide +kernel
theorem dX0_a_9 : decode cX0_a 9 = .ok (.iadd, 1) := by decide +kernel
theorem dX0_a_10 : decode cX0_a 10 = .ok (.iaload, 1) := by decide +kernel
theorem dX0_a_11 : decode cX0_a 11 = .ok (.ireturn, 1) := by decide +kernel
theorem dX0_b_0 : decode cX0_b 0 = .ok (.aload_n 0, 1) := by decide +kernel
theorem dX0_b_1 : decode cX0_b 1 = .ok (.getfield 21, 3) := by decide +kernel
theorem dX0_b_4 : decode cX0_b 4 = .ok (.iload_n 1, 1) := by decide +kernel
theorem dX0_b_5 : decode cX0_b 5 = .ok (.bipush 6, 2) := by decide +kernel
theorem dX0_b_7 : decode cX0_b 7 = .ok (.imul, 1) := by decide +kernel
theorem dX0_b_8 : decode cX0_b 8 = .ok (.iload_n 2, 1) := by decide +kernel
theorem dX0_b_9 : decode cX0_b 9 = .ok (.iadd, 1) := by decide +kernel
theorem dX0_b_10 : decode cX0_b 10 = .ok (.iaload, 1) := by decide +kernel
theorem dX0_b_11 : decode cX0_b 11 = .ok (.ireturn, 1) := by decide +kernel
theorem dX0_empty_0 : decode cX0_empty 0 = .ok (.aload_n 0, 1) := by decide +kernel
theorem dX0_empty_1 : decode cX0_empty 1 = .ok (.getfield 9, 3) := by decide +kernel
theorem dX0_empty_4 : decode cX0_empty 4 = .ok (.iload_n 1, 1) := by decide +kernel
theorem dX0_empty_5 : decode cX0_empty 5 = .ok (.iconst 0, 1) := by decide +kernel
theorem dX0_empty_6 : decode cX0_empty 6 = .ok (.iastore, 1) := by decide +kernel
theorem dX0_empty_7 : decode cX0_empty 7 = .ok (.return_, 1) := by decide +kernel
theorem dX0_add_0 : decode cX0_add 0 = .ok (.aload_n 0, 1) := by decide +kernel
theorem dX0_add_1 : decode cX0_add 1 = .ok (.getfield 9, 3) := by decide +kernel
theorem dX0_add_4 : decode cX0_add 4 = .ok (.iload_n 1, 1) := by decide +kernel
theorem dX0_add_5 : decode cX0_add 5 = .ok (.iaload, 1) := by decide +kernel
theorem dX0_add_6 : decode cX0_add 6 = .ok (.bipush 6, 2) := by decide +kernel
theorem dX0_add_8 : decode cX0_add 8 = .ok (.if_icmp .lt 4, 3) := by decide +kernel
theorem dX0_add_11 : decode cX0_add 11 = .ok (.return_, 1) := by decide +kernel
theorem dX0_add_12 : decode cX0_add 12 = .ok (.iload_n 1, 1) := by decide +kernel
theorem dX0_add_13 : decode cX0_add 13 = .ok (.bipush 6, 2) := by decide +kernel
theorem dX0_add_15 : decode cX0_add 15 = .ok (.imul, 1) := by decide +kernel
theorem dX0_add_16 : decode cX0_add 16 = .ok (.aload_n 0, 1) := by decide +kernel
theorem dX0_add_17 : decode cX0_add 17 = .ok (.getfield 9, 3) := by decide +kernel
theorem dX0_add_20 : decode cX0_add 20 = .ok (.iload_n 1, 1) := by decide +kernel
theorem dX0_add_21 : decode cX0_add 21 = .ok (.iaload, 1) := by decide +kernel
theorem dX0_add_22 : decode cX0_add 22 = .ok (.iadd, 1) := by decide +kernel
theorem dX0_add_23 : decode cX0_add 23 = .ok (.istore 5, 2) := by decide +kernel
theorem dX0_add_25 : decode cX0_add 25 = .ok (.aload_n 0, 1) := by decide +kernel
theorem dX0_add_26 : decode cX0_add 26 = .ok (.getfield 15, 3) := by decide +kernel
theorem dX0_add_29 : decode cX0_add 29 = .ok (.iload 5, 2) := by decide +kernel
theorem dX0_add_31 : decode cX0_add 31 = .ok (.iload_n 2, 1) := by decide +kernel
theorem dX0_add_32 : decode cX0_add 32 = .ok (.iastore, 1) := by decide +kernel
theorem dX0_add_33 : decode cX0_add 33 = .ok (.aload_n 0, 1) := by decide +kernel
theorem dX0_add_34 : decode cX0_add 34 = .ok (.getfield 18, 3) := by decide +kernel
theorem dX0_add_37 : decode cX0_add 37 = .ok (.iload 5, 2) := by decide +kernel
theorem dX0_add_39 : decode cX0_add 39 = .ok (.iload_n 3, 1) := by decide +kernel
theorem dX0_add_40 : decode cX0_add 40 = .ok (.iastore, 1) := by decide +kernel
theorem dX0_add_41 : decode cX0_add 41 = .ok (.aload_n 0, 1) := by decide +kernel
theorem dX0_add_42 : decode cX0_add 42 = .ok (.getfield 21, 3) := by decide +kernel
theorem dX0_add_45 : decode cX0_add 45 = .ok (.iload 5, 2) := by decide +kernel
theorem dX0_add_47 : decode cX0_add 47 = .ok (.iload 4, 2) := by decide +kernel
theorem dX0_add_49 : decode cX0_add 49 = .ok (.iastore, 1) := by decide +kernel
theorem dX0_add_50 : decode cX0_add 50 = .ok (.aload_n 0, 1) := by decide +kernel
theorem dX0_add_51 : decode cX0_add 51 = .ok (.getfield 9, 3) := by decide +kernel
theorem dX0_add_54 : decode cX0_add 54 = .ok (.iload_n 1, 1) := by decide +kernel
theorem dX0_add_55 : decode cX0_add 55 = .ok (.dup2, 1) := by decide +kernel
theorem dX0_add_56 : decode cX0_add 56 = .ok (.iaload, 1) := by decide +kernel
theorem dX0_add_57 : decode cX0_add 57 = .ok (.iconst 1, 1) := by decide +kernel
theorem dX0_add_58 : decode cX0_add 58 = .ok (.iadd, 1) := by decide +kernel
theorem dX0_add_59 : decode cX0_add 59 = .ok (.iastore, 1) := by decide +kernel
theorem dX0_add_60 : decode cX0_add 60 = .ok (.return_, 1) := by decide +kernel
theorem dX1_init_0 : decode cX1_init 0 = .ok (.aload_n 0, 1) := by decide +kernel
theorem dX1_init_1 : decode cX1_init 1 = .ok (.invokespecial 3, 3) := by decide +kernel
theorem dX1_init_4 : decode cX1_init 4 = .ok (.aload_n 0, 1) := by decide +kernel
theorem dX1_init_5 : decode cX1_init 5 = .ok (.sipush 200, 3) := by decide +kernel
theorem dX1_init_8 : decode cX1_init 8 = .ok (.newarray .int, 2) := by decide +kernel
theorem dX1_init_10 : decode cX1_init 10 = .ok (.putfield 9, 3) := by decide +kernel
theorem dX1_init_13 : decode cX1_init 13 = .ok (.aload_n 0, 1) := by decide +kernel
theorem dX1_init_14 : decode cX1_init 14 = .ok (.iconst 0, 1) := by decide +kernel
theorem dX1_init_15 : decode cX1_init 15 = .ok (.putfield 15, 3) := by decide +kernel
theorem dX1_init_18 : decode cX1_init 18 = .ok (.return_, 1) := by decide +kernel
theorem dX1_size_0 : decode cX1_size 0 = .ok (.aload_n 0, 1) := by decide +kernel
theorem dX1_size_1 : decode cX1_size 1 = .ok (.getfield 15, 3) := by decide +kernel
theorem dX1_size_4 : decode cX1_size 4 = .ok (.ireturn, 1) := by decide +kernel
theorem dX1_has_0 : decode cX1_has 0 = .ok (.iload_n 1, 1) := by decide +kernel
theorem dX1_has_1 : decode cX1_has 1 = .ok (.ifCond .lt 15, 3) := by decide +kernel
theorem dX1_has_4 : decode cX1_has 4 = .ok (.iload_n 1, 1) := by decide +kernel
theorem dX1_has_5 : decode cX1_has 5 = .ok (.aload_n 0, 1) := by decide +kernel
theorem dX1_has_6 : decode cX1_has 6 = .ok (.getfield 15, 3) := by decide +kernel
theorem dX1_has_9 : decode cX1_has 9 = .ok (.if_icmp .ge 7, 3) := by decide +kernel
theorem dX1_has_12 : decode cX1_has 12 = .ok (.iconst 1, 1) := by decide +kernel
theorem dX1_has_13 : decode cX1_has 13 = .ok (.goto 4, 3) := by decide +kernel
theorem dX1_has_16 : decode cX1_has 16 = .ok (.iconst 0, 1) := by decide +kernel
theorem dX1_has_17 : decode cX1_has 17 = .ok (.ireturn, 1) := by decide +kernel
theorem dX1_at_0 : decode cX1_at 0 = .ok (.aload_n 0, 1) := by decide +kernel
theorem dX1_at_1 : decode cX1_at 1 = .ok (.getfield 9, 3) := by decide +kernel
theorem dX1_at_4 : decode cX1_at 4 = .ok (.iload_n 1, 1) := by decide +kernel
theorem dX1_at_5 : decode cX1_at 5 = .ok (.iaload, 1) := by decide +kernel
theorem dX1_at_6 : decode cX1_at 6 = .ok (.ireturn, 1) := by decide +kernel
theorem dX1_keep_0 : decode cX1_keep 0 = .ok (.aload_n 0, 1) := by decide +kernel
theorem dX1_keep_1 : decode cX1_keep 1 = .ok (.getfield 15, 3) := by decide +kernel
theorem dX1_keep_4 : decode cX1_keep 4 = .ok (.sipush 200, 3) := by decide +kernel
theorem dX1_keep_7 : decode cX1_keep 7 = .ok (.if_icmp .ge 23, 3) := by decide +kernel
theorem dX1_keep_10 : decode cX1_keep 10 = .ok (.aload_n 0, 1) := by decide +kernel
theorem dX1_keep_11 : decode cX1_keep 11 = .ok (.getfield 9, 3) := by decide +kernel
theorem dX1_keep_14 : decode cX1_keep 14 = .ok (.aload_n 0, 1) := by decide +kernel
theorem dX1_keep_15 : decode cX1_keep 15 = .ok (.getfield 15, 3) := by decide +kernel
theorem dX1_keep_18 : decode cX1_keep 18 = .ok (.iload_n 1, 1) := by decide +kernel
theorem dX1_keep_19 : decode cX1_keep 19 = .ok (.iastore, 1) := by decide +kernel
theorem dX1_keep_20 : decode cX1_keep 20 = .ok (.aload_n 0, 1) := by decide +kernel
theorem dX1_keep_21 : decode cX1_keep 21 = .ok (.dup, 1) := by decide +kernel
theorem dX1_keep_22 : decode cX1_keep 22 = .ok (.getfield 15, 3) := by decide +kernel
theorem dX1_keep_25 : decode cX1_keep 25 = .ok (.iconst 1, 1) := by decide +kernel
theorem dX1_keep_26 : decode cX1_keep 26 = .ok (.iadd, 1) := by decide +kernel
theorem dX1_keep_27 : decode cX1_keep 27 = .ok (.putfield 15, 3) := by decide +kernel
theorem dX1_keep_30 : decode cX1_keep 30 = .ok (.return_, 1) := by decide +kernel
theorem dX2_init_0 : decode cX2_init 0 = .ok (.aload_n 0, 1) := by decide +kernel
theorem dX2_init_1 : decode cX2_init 1 = .ok (.invokespecial 1, 3) := by decide +kernel
theorem dX2_init_4 : decode cX2_init 4 = .ok (.aload_n 0, 1) := by decide +kernel
theorem dX2_init_5 : decode cX2_init 5 = .ok (.iconst 0, 1) := by decide +kernel
theorem dX2_init_6 : decode cX2_init 6 = .ok (.putfield 7, 3) := by decide +kernel
theorem dX2_init_9 : decode cX2_init 9 = .ok (.aload_n 0, 1) := by decide +kernel
theorem dX2_init_10 : decode cX2_init 10 = .ok (.iconst 0, 1) := by decide +kernel
theorem dX2_init_11 : decode cX2_init 11 = .ok (.putfield 13, 3) := by decide +kernel
theorem dX2_init_14 : decode cX2_init 14 = .ok (.aload_n 0, 1) := by decide +kernel
theorem dX2_init_15 : decode cX2_init 15 = .ok (.iload_n 1, 1) := by decide +kernel
theorem dX2_init_16 : decode cX2_init 16 = .ok (.putfield 16, 3) := by decide +kernel
theorem dX2_init_19 : decode cX2_init 19 = .ok (.aload_n 0, 1) := by decide +kernel
theorem dX2_init_20 : decode cX2_init 20 = .ok (.iload_n 1, 1) := by decide +kernel
theorem dX2_init_21 : decode cX2_init 21 = .ok (.newarray .int, 2) := by decide +kernel
theorem dX2_init_23 : decode cX2_init 23 = .ok (.putfield 19, 3) := by decide +kernel
theorem dX2_init_26 : decode cX2_init 26 = .ok (.aload_n 0, 1) := by decide +kernel
theorem dX2_init_27 : decode cX2_init 27 = .ok (.iload_n 1, 1) := by decide +kernel
theorem dX2_init_28 : decode cX2_init 28 = .ok (.newarray .int, 2) := by decide +kernel
theorem dX2_init_30 : decode cX2_init 30 = .ok (.putfield 23, 3) := by decide +kernel
theorem dX2_init_33 : decode cX2_init 33 = .ok (.aload_n 0, 1) := by decide +kernel
theorem dX2_init_34 : decode cX2_init 34 = .ok (.iload_n 1, 1) := by decide +kernel
theorem dX2_init_35 : decode cX2_init 35 = .ok (.newarray .int, 2) := by decide +kernel
theorem dX2_init_37 : decode cX2_init 37 = .ok (.putfield 26, 3) := by decide +kernel
theorem dX2_init_40 : decode cX2_init 40 = .ok (.return_, 1) := by decide +kernel
theorem dX2_size_0 : decode cX2_size 0 = .ok (.aload_n 0, 1) := by decide +kernel
theorem dX2_size_1 : decode cX2_size 1 = .ok (.getfield 13, 3) := by decide +kernel
theorem dX2_size_4 : decode cX2_size 4 = .ok (.ireturn, 1) := by decide +kernel
theorem dX2_kind_0 : decode cX2_kind 0 = .ok (.aload_n 0, 1) := by decide +kernel
theorem dX2_kind_1 : decode cX2_kind 1 = .ok (.getfield 19, 3) := by decide +kernel
theorem dX2_kind_4 : decode cX2_kind 4 = .ok (.aload_n 0, 1) := by decide +kernel
theorem dX2_kind_5 : decode cX2_kind 5 = .ok (.getfield 7, 3) := by decide +kernel
theorem dX2_kind_8 : decode cX2_kind 8 = .ok (.iaload, 1) := by decide +kernel
theorem dX2_kind_9 : decode cX2_kind 9 = .ok (.ireturn, 1) := by decide +kernel
theorem dX2_subject_0 : decode cX2_subject 0 = .ok (.aload_n 0, 1) := by decide +kernel
theorem dX2_subject_1 : decode cX2_subject 1 = .ok (.getfield 23, 3) := by decide +kernel
theorem dX2_subject_4 : decode cX2_subject 4 = .ok (.aload_n 0, 1) := by decide +kernel
theorem dX2_subject_5 : decode cX2_subject 5 = .ok (.getfield 7, 3) := by decide +kernel
theorem dX2_subject_8 : decode cX2_subject 8 = .ok (.iaload, 1) := by decide +kernel
theorem dX2_subject_9 : decode cX2_subject 9 = .ok (.ireturn, 1) := by decide +kernel
theorem dX2_number_0 : decode cX2_number 0 = .ok (.aload_n 0, 1) := by decide +kernel
theorem dX2_number_1 : decode cX2_number 1 = .ok (.getfield 26, 3) := by decide +kernel
theorem dX2_number_4 : decode cX2_number 4 = .ok (.aload_n 0, 1) := by decide +kernel
theorem dX2_number_5 : decode cX2_number 5 = .ok (.getfield 7, 3) := by decide +kernel
theorem dX2_number_8 : decode cX2_number 8 = .ok (.iaload, 1) := by decide +kernel
theorem dX2_number_9 : decode cX2_number 9 = .ok (.ireturn, 1) := by decide +kernel
theorem dX2_put_0 : decode cX2_put 0 = .ok (.aload_n 0, 1) := by decide +kernel
theorem dX2_put_1 : decode cX2_put 1 = .ok (.getfield 13, 3) := by decide +kernel
theorem dX2_put_4 : decode cX2_put 4 = .ok (.aload_n 0, 1) := by decide +kernel
theorem dX2_put_5 : decode cX2_put 5 = .ok (.getfield 16, 3) := by decide +kernel
theorem dX2_put_8 : decode cX2_put 8 = .ok (.if_icmp .lt 4, 3) := by decide +kernel
theorem dX2_put_11 : decode cX2_put 11 = .ok (.return_, 1) := by decide +kernel
theorem dX2_put_12 : decode cX2_put 12 = .ok (.aload_n 0, 1) := by decide +kernel
theorem dX2_put_13 : decode cX2_put 13 = .ok (.getfield 7, 3) := by decide +kernel
theorem dX2_put_16 : decode cX2_put 16 = .ok (.aload_n 0, 1) := by decide +kernel
theorem dX2_put_17 : decode cX2_put 17 = .ok (.getfield 13, 3) := by decide +kernel
theorem dX2_put_20 : decode cX2_put 20 = .ok (.iadd, 1) := by decide +kernel
theorem dX2_put_21 : decode cX2_put 21 = .ok (.aload_n 0, 1) := by decide +kernel
theorem dX2_put_22 : decode cX2_put 22 = .ok (.getfield 16, 3) := by decide +kernel
theorem dX2_put_25 : decode cX2_put 25 = .ok (.if_icmp .ge 15, 3) := by decide +kernel
theorem dX2_put_28 : decode cX2_put 28 = .ok (.aload_n 0, 1) := by decide +kernel
theorem dX2_put_29 : decode cX2_put 29 = .ok (.getfield 7, 3) := by decide +kernel
theorem dX2_put_32 : decode cX2_put 32 = .ok (.aload_n 0, 1) := by decide +kernel
theorem dX2_put_33 : decode cX2_put 33 = .ok (.getfield 13, 3) := by decide +kernel
theorem dX2_put_36 : decode cX2_put 36 = .ok (.iadd, 1) := by decide +kernel
theorem dX2_put_37 : decode cX2_put 37 = .ok (.goto 17, 3) := by decide +kernel
theorem dX2_put_40 : decode cX2_put 40 = .ok (.aload_n 0, 1) := by decide +kernel
theorem dX2_put_41 : decode cX2_put 41 = .ok (.getfield 7, 3) := by decide +kernel
theorem dX2_put_44 : decode cX2_put 44 = .ok (.aload_n 0, 1) := by decide +kernel
theorem dX2_put_45 : decode cX2_put 45 = .ok (.getfield 13, 3) := by decide +kernel
theorem dX2_put_48 : decode cX2_put 48 = .ok (.iadd, 1) := by decide +kernel
theorem dX2_put_49 : decode cX2_put 49 = .ok (.aload_n 0, 1) := by decide +kernel
theorem dX2_put_50 : decode cX2_put 50 = .ok (.getfield 16, 3) := by decide +kernel
theorem dX2_put_53 : decode cX2_put 53 = .ok (.isub, 1) := by decide +kernel
theorem dX2_put_54 : decode cX2_put 54 = .ok (.istore 4, 2) := by decide +kernel
theorem dX2_put_56 : decode cX2_put 56 = .ok (.aload_n 0, 1) := by decide +kernel
theorem dX2_put_57 : decode cX2_put 57 = .ok (.getfield 19, 3) := by decide +kernel
theorem dX2_put_60 : decode cX2_put 60 = .ok (.iload 4, 2) := by decide +kernel
theorem dX2_put_62 : decode cX2_put 62 = .ok (.iload_n 1, 1) := by decide +kernel
theorem dX2_put_63 : decode cX2_put 63 = .ok (.iastore, 1) := by decide +kernel
theorem dX2_put_64 : decode cX2_put 64 = .ok (.aload_n 0, 1) := by decide +kernel
theorem dX2_put_65 : decode cX2_put 65 = .ok (.getfield 23, 3) := by decide +kernel
theorem dX2_put_68 : decode cX2_put 68 = .ok (.iload 4, 2) := by decide +kernel
theorem dX2_put_70 : decode cX2_put 70 = .ok (.iload_n 2, 1) := by decide +kernel
theorem dX2_put_71 : decode cX2_put 71 = .ok (.iastore, 1) := by decide +kernel
theorem dX2_put_72 : decode cX2_put 72 = .ok (.aload_n 0, 1) := by decide +kernel
theorem dX2_put_73 : decode cX2_put 73 = .ok (.getfield 26, 3) := by decide +kernel
theorem dX2_put_76 : decode cX2_put 76 = .ok (.iload 4, 2) := by decide +kernel
theorem dX2_put_78 : decode cX2_put 78 = .ok (.iload_n 3, 1) := by decide +kernel
theorem dX2_put_79 : decode cX2_put 79 = .ok (.iastore, 1) := by decide +kernel
theorem dX2_put_80 : decode cX2_put 80 = .ok (.aload_n 0, 1) := by decide +kernel
theorem dX2_put_81 : decode cX2_put 81 = .ok (.dup, 1) := by decide +kernel
theorem dX2_put_82 : decode cX2_put 82 = .ok (.getfield 13, 3) := by decide +kernel
theorem dX2_put_85 : decode cX2_put 85 = .ok (.iconst 1, 1) := by decide +kernel
theorem dX2_put_86 : decode cX2_put 86 = .ok (.iadd, 1) := by decide +kernel
theorem dX2_put_87 : decode cX2_put 87 = .ok (.putfield 13, 3) := by decide +kernel
theorem dX2_put_90 : decode cX2_put 90 = .ok (.return_, 1) := by decide +kernel
theorem dX2_drop_0 : decode cX2_drop 0 = .ok (.aload_n 0, 1) := by decide +kernel
theorem dX2_drop_1 : decode cX2_drop 1 = .ok (.getfield 13, 3) := by decide +kernel
theorem dX2_drop_4 : decode cX2_drop 4 = .ok (.ifCond .le 40, 3) := by decide +kernel
theorem dX2_drop_7 : decode cX2_drop 7 = .ok (.aload_n 0, 1) := by decide +kernel
theorem dX2_drop_8 : decode cX2_drop 8 = .ok (.aload_n 0, 1) := by decide +kernel
theorem dX2_drop_9 : decode cX2_drop 9 = .ok (.getfield 7, 3) := by decide +kernel
theorem dX2_drop_12 : decode cX2_drop 12 = .ok (.iconst 1, 1) := by decide +kernel
theorem dX2_drop_13 : decode cX2_drop 13 = .ok (.iadd, 1) := by decide +kernel
theorem dX2_drop_14 : decode cX2_drop 14 = .ok (.aload_n 0, 1) := by decide +kernel
theorem dX2_drop_15 : decode cX2_drop 15 = .ok (.getfield 16, 3) := by decide +kernel
theorem dX2_drop_18 : decode cX2_drop 18 = .ok (.if_icmp .ge 12, 3) := by decide +kernel
theorem dX2_drop_21 : decode cX2_drop 21 = .ok (.aload_n 0, 1) := by decide +kernel
theorem dX2_drop_22 : decode cX2_drop 22 = .ok (.getfield 7, 3) := by decide +kernel
theorem dX2_drop_25 : decode cX2_drop 25 = .ok (.iconst 1, 1) := by decide +kernel
theorem dX2_drop_26 : decode cX2_drop 26 = .ok (.iadd, 1) := by decide +kernel
theorem dX2_drop_27 : decode cX2_drop 27 = .ok (.goto 4, 3) := by decide +kernel
theorem dX2_drop_30 : decode cX2_drop 30 = .ok (.iconst 0, 1) := by decide +kernel
theorem dX2_drop_31 : decode cX2_drop 31 = .ok (.putfield 7, 3) := by decide +kernel
theorem dX2_drop_34 : decode cX2_drop 34 = .ok (.aload_n 0, 1) := by decide +kernel
theorem dX2_drop_35 : decode cX2_drop 35 = .ok (.dup, 1) := by decide +kernel
theorem dX2_drop_36 : decode cX2_drop 36 = .ok (.getfield 13, 3) := by decide +kernel
theorem dX2_drop_39 : decode cX2_drop 39 = .ok (.iconst 1, 1) := by decide +kernel
theorem dX2_drop_40 : decode cX2_drop 40 = .ok (.isub, 1) := by decide +kernel
theorem dX2_drop_41 : decode cX2_drop 41 = .ok (.putfield 13, 3) := by decide +kernel
theorem dX2_drop_44 : decode cX2_drop 44 = .ok (.return_, 1) := by decide +kernel
theorem dX3_init_0 : decode cX3_init 0 = .ok (.aload_n 0, 1) := by decide +kernel
theorem dX3_init_1 : decode cX3_init 1 = .ok (.invokespecial 3, 3) := by decide +kernel
theorem dX3_init_4 : decode cX3_init 4 = .ok (.aload_n 0, 1) := by decide +kernel
theorem dX3_init_5 : decode cX3_init 5 = .ok (.bipush 40, 2) := by decide +kernel
theorem dX3_init_7 : decode cX3_init 7 = .ok (.newarray .int, 2) := by decide +kernel
theorem dX3_init_9 : decode cX3_init 9 = .ok (.putfield 9, 3) := by decide +kernel
theorem dX3_init_12 : decode cX3_init 12 = .ok (.aload_n 0, 1) := by decide +kernel
theorem dX3_init_13 : decode cX3_init 13 = .ok (.bipush 40, 2) := by decide +kernel
theorem dX3_init_15 : decode cX3_init 15 = .ok (.newarray .int, 2) := by decide +kernel
theorem dX3_init_17 : decode cX3_init 17 = .ok (.putfield 15, 3) := by decide +kernel
theorem dX3_init_20 : decode cX3_init 20 = .ok (.aload_n 0, 1) := by decide +kernel
theorem dX3_init_21 : decode cX3_init 21 = .ok (.bipush 40, 2) := by decide +kernel
theorem dX3_init_23 : decode cX3_init 23 = .ok (.newarray .boolean, 2) := by decide +kernel
theorem dX3_init_25 : decode cX3_init 25 = .ok (.putfield 18, 3) := by decide +kernel
theorem dX3_init_28 : decode cX3_init 28 = .ok (.aload_n 0, 1) := by decide +kernel
theorem dX3_init_29 : decode cX3_init 29 = .ok (.bipush 40, 2) := by decide +kernel
theorem dX3_init_31 : decode cX3_init 31 = .ok (.newarray .boolean, 2) := by decide +kernel
theorem dX3_init_33 : decode cX3_init 33 = .ok (.putfield 22, 3) := by decide +kernel
theorem dX3_init_36 : decode cX3_init 36 = .ok (.aload_n 0, 1) := by decide +kernel
theorem dX3_init_37 : decode cX3_init 37 = .ok (.bipush 40, 2) := by decide +kernel
theorem dX3_init_39 : decode cX3_init 39 = .ok (.newarray .boolean, 2) := by decide +kernel
theorem dX3_init_41 : decode cX3_init 41 = .ok (.putfield 25, 3) := by decide +kernel
theorem dX3_init_44 : decode cX3_init 44 = .ok (.aload_n 0, 1) := by decide +kernel
theorem dX3_init_45 : decode cX3_init 45 = .ok (.iconst 0, 1) := by decide +kernel
theorem dX3_init_46 : decode cX3_init 46 = .ok (.putfield 28, 3) := by decide +kernel
theorem dX3_init_49 : decode cX3_init 49 = .ok (.aload_n 0, 1) := by decide +kernel
theorem dX3_init_50 : decode cX3_init 50 = .ok (.bipush 40, 2) := by decide +kernel
theorem dX3_init_52 : decode cX3_init 52 = .ok (.newarray .int, 2) := by decide +kernel
theorem dX3_init_54 : decode cX3_init 54 = .ok (.putfield 32, 3) := by decide +kernel
theorem dX3_init_57 : decode cX3_init 57 = .ok (.aload_n 0, 1) := by decide +kernel
theorem dX3_init_58 : decode cX3_init 58 = .ok (.iconst 0, 1) := by decide +kernel
theorem dX3_init_59 : decode cX3_init 59 = .ok (.putfield 35, 3) := by decide +kernel
theorem dX3_init_62 : decode cX3_init 62 = .ok (.aload_n 0, 1) := by decide +kernel
theorem dX3_init_63 : decode cX3_init 63 = .ok (.bipush 80, 2) := by decide +kernel
theorem dX3_init_65 : decode cX3_init 65 = .ok (.newarray .int, 2) := by decide +kernel
theorem dX3_init_67 : decode cX3_init 67 = .ok (.putfield 38, 3) := by decide +kernel
theorem dX3_init_70 : decode cX3_init 70 = .ok (.aload_n 0, 1) := by decide +kernel
theorem dX3_init_71 : decode cX3_init 71 = .ok (.bipush 80, 2) := by decide +kernel
theorem dX3_init_73 : decode cX3_init 73 = .ok (.newarray .int, 2) := by decide +kernel
theorem dX3_init_75 : decode cX3_init 75 = .ok (.putfield 41, 3) := by decide +kernel
theorem dX3_init_78 : decode cX3_init 78 = .ok (.aload_n 0, 1) := by decide +kernel
theorem dX3_init_79 : decode cX3_init 79 = .ok (.bipush 80, 2) := by decide +kernel
theorem dX3_init_81 : decode cX3_init 81 = .ok (.newarray .int, 2) := by decide +kernel
theorem dX3_init_83 : decode cX3_init 83 = .ok (.putfield 44, 3) := by decide +kernel
theorem dX3_init_86 : decode cX3_init 86 = .ok (.aload_n 0, 1) := by decide +kernel
theorem dX3_init_87 : decode cX3_init 87 = .ok (.bipush 80, 2) := by decide +kernel
theorem dX3_init_89 : decode cX3_init 89 = .ok (.newarray .int, 2) := by decide +kernel
theorem dX3_init_91 : decode cX3_init 91 = .ok (.putfield 47, 3) := by decide +kernel
theorem dX3_init_94 : decode cX3_init 94 = .ok (.aload_n 0, 1) := by decide +kernel
theorem dX3_init_95 : decode cX3_init 95 = .ok (.iconst 0, 1) := by decide +kernel
theorem dX3_init_96 : decode cX3_init 96 = .ok (.putfield 50, 3) := by decide +kernel
theorem dX3_init_99 : decode cX3_init 99 = .ok (.aload_n 0, 1) := by decide +kernel
theorem dX3_init_100 : decode cX3_init 100 = .ok (.aload_n 1, 1) := by decide +kernel
theorem dX3_init_101 : decode cX3_init 101 = .ok (.putfield 53, 3) := by decide +kernel
theorem dX3_init_104 : decode cX3_init 104 = .ok (.aload_n 0, 1) := by decide +kernel
theorem dX3_init_105 : decode cX3_init 105 = .ok (.aload_n 2, 1) := by decide +kernel
theorem dX3_init_106 : decode cX3_init 106 = .ok (.putfield 57, 3) := by decide +kernel
theorem dX3_init_109 : decode cX3_init 109 = .ok (.return_, 1) := by decide +kernel
theorem dX3_size_0 : decode cX3_size 0 = .ok (.aload_n 0, 1) := by decide +kernel
theorem dX3_size_1 : decode cX3_size 1 = .ok (.getfield 28, 3) := by decide +kernel
theorem dX3_size_4 : decode cX3_size 4 = .ok (.ireturn, 1) := by decide +kernel
theorem dX3_has_0 : decode cX3_has 0 = .ok (.iload_n 1, 1) := by decide +kernel
theorem dX3_has_1 : decode cX3_has 1 = .ok (.ifCond .lt 15, 3) := by decide +kernel
theorem dX3_has_4 : decode cX3_has 4 = .ok (.iload_n 1, 1) := by decide +kernel
theorem dX3_has_5 : decode cX3_has 5 = .ok (.aload_n 0, 1) := by decide +kernel
theorem dX3_has_6 : decode cX3_has 6 = .ok (.getfield 28, 3) := by decide +kernel
theorem dX3_has_9 : decode cX3_has 9 = .ok (.if_icmp .ge 7, 3) := by decide +kernel
theorem dX3_has_12 : decode cX3_has 12 = .ok (.iconst 1, 1) := by decide +kernel
theorem dX3_has_13 : decode cX3_has 13 = .ok (.goto 4, 3) := by decide +kernel
theorem dX3_has_16 : decode cX3_has 16 = .ok (.iconst 0, 1) := by decide +kernel
theorem dX3_has_17 : decode cX3_has 17 = .ok (.ireturn, 1) := by decide +kernel
theorem dX3_isFull_0 : decode cX3_isFull 0 = .ok (.aload_n 0, 1) := by decide +kernel
theorem dX3_isFull_1 : decode cX3_isFull 1 = .ok (.getfield 28, 3) := by decide +kernel
theorem dX3_isFull_4 : decode cX3_isFull 4 = .ok (.bipush 40, 2) := by decide +kernel
theorem dX3_isFull_6 : decode cX3_isFull 6 = .ok (.if_icmp .lt 7, 3) := by decide +kernel
theorem dX3_isFull_9 : decode cX3_isFull 9 = .ok (.iconst 1, 1) := by decide +kernel
theorem dX3_isFull_10 : decode cX3_isFull 10 = .ok (.goto 4, 3) := by decide +kernel
theorem dX3_isFull_13 : decode cX3_isFull 13 = .ok (.iconst 0, 1) := by decide +kernel
theorem dX3_isFull_14 : decode cX3_isFull 14 = .ok (.ireturn, 1) := by decide +kernel
theorem dX3_stateOf_0 : decode cX3_stateOf 0 = .ok (.aload_n 0, 1) := by decide +kernel
theorem dX3_stateOf_1 : decode cX3_stateOf 1 = .ok (.getfield 9, 3) := by decide +kernel
theorem dX3_stateOf_4 : decode cX3_stateOf 4 = .ok (.iload_n 1, 1) := by decide +kernel
theorem dX3_stateOf_5 : decode cX3_stateOf 5 = .ok (.iaload, 1) := by decide +kernel
theorem dX3_stateOf_6 : decode cX3_stateOf 6 = .ok (.ireturn, 1) := by decide +kernel
theorem dX3_numberOf_0 : decode cX3_numberOf 0 = .ok (.aload_n 0, 1) := by decide +kernel
theorem dX3_numberOf_1 : decode cX3_numberOf 1 = .ok (.getfield 15, 3) := by decide +kernel
theorem dX3_numberOf_4 : decode cX3_numberOf 4 = .ok (.iload_n 1, 1) := by decide +kernel
theorem dX3_numberOf_5 : decode cX3_numberOf 5 = .ok (.iaload, 1) := by decide +kernel
theorem dX3_numberOf_6 : decode cX3_numberOf 6 = .ok (.ireturn, 1) := by decide +kernel
theorem dX3_stateWithFlags_0 : decode cX3_stateWithFlags 0 = .ok (.aload_n 0, 1) := by decide +kernel
theorem dX3_stateWithFlags_1 : decode cX3_stateWithFlags 1 = .ok (.getfield 9, 3) := by decide +kernel
theorem dX3_stateWithFlags_4 : decode cX3_stateWithFlags 4 = .ok (.iload_n 1, 1) := by decide +kernel
theorem dX3_stateWithFlags_5 : decode cX3_stateWithFlags 5 = .ok (.iaload, 1) := by decide +kernel
theorem dX3_stateWithFlags_6 : decode cX3_stateWithFlags 6 = .ok (.aload_n 0, 1) := by decide +kernel
theorem dX3_stateWithFlags_7 : decode cX3_stateWithFlags 7 = .ok (.getfield 18, 3) := by decide +kernel
theorem dX3_stateWithFlags_10 : decode cX3_stateWithFlags 10 = .ok (.iload_n 1, 1) := by decide +kernel
theorem dX3_stateWithFlags_11 : decode cX3_stateWithFlags 11 = .ok (.baload, 1) := by decide +kernel
theorem dX3_stateWithFlags_12 : decode cX3_stateWithFlags 12 = .ok (.ifCond .eq 7, 3) := by decide +kernel
theorem dX3_stateWithFlags_15 : decode cX3_stateWithFlags 15 = .ok (.iconst 4, 1) := by decide +kernel
theorem dX3_stateWithFlags_16 : decode cX3_stateWithFlags 16 = .ok (.goto 4, 3) := by decide +kernel
theorem dX3_stateWithFlags_19 : decode cX3_stateWithFlags 19 = .ok (.iconst 0, 1) := by decide +kernel
theorem dX3_stateWithFlags_20 : decode cX3_stateWithFlags 20 = .ok (.iadd, 1) := by decide +kernel
theorem dX3_stateWithFlags_21 : decode cX3_stateWithFlags 21 = .ok (.aload_n 0, 1) := by decide +kernel
theorem dX3_stateWithFlags_22 : decode cX3_stateWithFlags 22 = .ok (.getfield 22, 3) := by decide +kernel
theorem dX3_stateWithFlags_25 : decode cX3_stateWithFlags 25 = .ok (.iload_n 1, 1) := by decide +kernel
theorem dX3_stateWithFlags_26 : decode cX3_stateWithFlags 26 = .ok (.baload, 1) := by decide +kernel
theorem dX3_stateWithFlags_27 : decode cX3_stateWithFlags 27 = .ok (.ifCond .eq 8, 3) := by decide +kernel
theorem dX3_stateWithFlags_30 : decode cX3_stateWithFlags 30 = .ok (.bipush 8, 2) := by decide +kernel
theorem dX3_stateWithFlags_32 : decode cX3_stateWithFlags 32 = .ok (.goto 4, 3) := by decide +kernel
theorem dX3_stateWithFlags_35 : decode cX3_stateWithFlags 35 = .ok (.iconst 0, 1) := by decide +kernel
theorem dX3_stateWithFlags_36 : decode cX3_stateWithFlags 36 = .ok (.iadd, 1) := by decide +kernel
theorem dX3_stateWithFlags_37 : decode cX3_stateWithFlags 37 = .ok (.ireturn, 1) := by decide +kernel
theorem dX3_sourceOf_0 : decode cX3_sourceOf 0 = .ok (.aload_n 0, 1) := by decide +kernel
theorem dX3_sourceOf_1 : decode cX3_sourceOf 1 = .ok (.getfield 38, 3) := by decide +kernel
theorem dX3_sourceOf_4 : decode cX3_sourceOf 4 = .ok (.iload_n 1, 1) := by decide +kernel
theorem dX3_sourceOf_5 : decode cX3_sourceOf 5 = .ok (.iaload, 1) := by decide +kernel
theorem dX3_sourceOf_6 : decode cX3_sourceOf 6 = .ok (.ireturn, 1) := by decide +kernel
theorem dX3_targetOf_0 : decode cX3_targetOf 0 = .ok (.aload_n 0, 1) := by decide +kernel
theorem dX3_targetOf_1 : decode cX3_targetOf 1 = .ok (.getfield 41, 3) := by decide +kernel
theorem dX3_targetOf_4 : decode cX3_targetOf 4 = .ok (.iload_n 1, 1) := by decide +kernel
theorem dX3_targetOf_5 : decode cX3_targetOf 5 = .ok (.iaload, 1) := by decide +kernel
theorem dX3_targetOf_6 : decode cX3_targetOf 6 = .ok (.ireturn, 1) := by decide +kernel
theorem dX3_functionOf_0 : decode cX3_functionOf 0 = .ok (.aload_n 0, 1) := by decide +kernel
theorem dX3_functionOf_1 : decode cX3_functionOf 1 = .ok (.getfield 9, 3) := by decide +kernel
theorem dX3_functionOf_4 : decode cX3_functionOf 4 = .ok (.aload_n 0, 1) := by decide +kernel
theorem dX3_functionOf_5 : decode cX3_functionOf 5 = .ok (.getfield 38, 3) := by decide +kernel
theorem dX3_functionOf_8 : decode cX3_functionOf 8 = .ok (.iload_n 1, 1) := by decide +kernel
theorem dX3_functionOf_9 : decode cX3_functionOf 9 = .ok (.iaload, 1) := by decide +kernel
theorem dX3_functionOf_10 : decode cX3_functionOf 10 = .ok (.iaload, 1) := by decide +kernel
theorem dX3_functionOf_11 : decode cX3_functionOf 11 = .ok (.iconst 1, 1) := by decide +kernel
theorem dX3_functionOf_12 : decode cX3_functionOf 12 = .ok (.if_icmp .ne 7, 3) := by decide +kernel
theorem dX3_functionOf_15 : decode cX3_functionOf 15 = .ok (.iconst 1, 1) := by decide +kernel
theorem dX3_functionOf_16 : decode cX3_functionOf 16 = .ok (.goto 4, 3) := by decide +kernel
theorem dX3_functionOf_19 : decode cX3_functionOf 19 = .ok (.iconst 0, 1) := by decide +kernel
theorem dX3_functionOf_20 : decode cX3_functionOf 20 = .ok (.istore_n 2, 1) := by decide +kernel
theorem dX3_functionOf_21 : decode cX3_functionOf 21 = .ok (.iload_n 2, 1) := by decide +kernel
theorem dX3_functionOf_22 : decode cX3_functionOf 22 = .ok (.ifCond .eq 12, 3) := by decide +kernel
theorem dX3_functionOf_25 : decode cX3_functionOf 25 = .ok (.aload_n 0, 1) := by decide +kernel
theorem dX3_functionOf_26 : decode cX3_functionOf 26 = .ok (.getfield 44, 3) := by decide +kernel
theorem dX3_functionOf_29 : decode cX3_functionOf 29 = .ok (.iload_n 1, 1) := by decide +kernel
theorem dX3_functionOf_30 : decode cX3_functionOf 30 = .ok (.iaload, 1) := by decide +kernel
theorem dX3_functionOf_31 : decode cX3_functionOf 31 = .ok (.goto 9, 3) := by decide +kernel
theorem dX3_functionOf_34 : decode cX3_functionOf 34 = .ok (.aload_n 0, 1) := by decide +kernel
theorem dX3_functionOf_35 : decode cX3_functionOf 35 = .ok (.getfield 47, 3) := by decide +kernel
theorem dX3_functionOf_38 : decode cX3_functionOf 38 = .ok (.iload_n 1, 1) := by decide +kernel
theorem dX3_functionOf_39 : decode cX3_functionOf 39 = .ok (.iaload, 1) := by decide +kernel
theorem dX3_functionOf_40 : decode cX3_functionOf 40 = .ok (.ireturn, 1) := by decide +kernel
theorem dX3_make_0 : decode cX3_make 0 = .ok (.aload_n 0, 1) := by decide +kernel
theorem dX3_make_1 : decode cX3_make 1 = .ok (.getfield 28, 3) := by decide +kernel
theorem dX3_make_4 : decode cX3_make 4 = .ok (.bipush 40, 2) := by decide +kernel
theorem dX3_make_6 : decode cX3_make 6 = .ok (.if_icmp .lt 5, 3) := by decide +kernel
theorem dX3_make_9 : decode cX3_make 9 = .ok (.iconst (-1), 1) := by decide +kernel
theorem dX3_make_10 : decode cX3_make 10 = .ok (.ireturn, 1) := by decide +kernel
theorem dX3_make_11 : decode cX3_make 11 = .ok (.aload_n 0, 1) := by decide +kernel
theorem dX3_make_12 : decode cX3_make 12 = .ok (.dup, 1) := by decide +kernel
theorem dX3_make_13 : decode cX3_make 13 = .ok (.getfield 28, 3) := by decide +kernel
theorem dX3_make_16 : decode cX3_make 16 = .ok (.iconst 1, 1) := by decide +kernel
theorem dX3_make_17 : decode cX3_make 17 = .ok (.iadd, 1) := by decide +kernel
theorem dX3_make_18 : decode cX3_make 18 = .ok (.putfield 28, 3) := by decide +kernel
theorem dX3_make_21 : decode cX3_make 21 = .ok (.aload_n 0, 1) := by decide +kernel
theorem dX3_make_22 : decode cX3_make 22 = .ok (.getfield 28, 3) := by decide +kernel
theorem dX3_make_25 : decode cX3_make 25 = .ok (.iconst 1, 1) := by decide +kernel
theorem dX3_make_26 : decode cX3_make 26 = .ok (.isub, 1) := by decide +kernel
theorem dX3_make_27 : decode cX3_make 27 = .ok (.ireturn, 1) := by decide +kernel
theorem dX3_resolveOrReject_0 : decode cX3_resolveOrReject 0 = .ok (.aload_n 0, 1) := by decide +kernel
theorem dX3_resolveOrReject_1 : decode cX3_resolveOrReject 1 = .ok (.iload_n 1, 1) := by decide +kernel
theorem dX3_resolveOrReject_2 : decode cX3_resolveOrReject 2 = .ok (.invokevirtual 61, 3) := by decide +kernel
theorem dX3_resolveOrReject_5 : decode cX3_resolveOrReject 5 = .ok (.ifCond .eq 26, 3) := by decide +kernel
theorem dX3_resolveOrReject_8 : decode cX3_resolveOrReject 8 = .ok (.aload_n 0, 1) := by decide +kernel
theorem dX3_resolveOrReject_9 : decode cX3_resolveOrReject 9 = .ok (.getfield 18, 3) := by decide +kernel
theorem dX3_resolveOrReject_12 : decode cX3_resolveOrReject 12 = .ok (.iload_n 1, 1) := by decide +kernel
theorem dX3_resolveOrReject_13 : decode cX3_resolveOrReject 13 = .ok (.baload, 1) := by decide +kernel
theorem dX3_resolveOrReject_14 : decode cX3_resolveOrReject 14 = .ok (.ifCond .ne 17, 3) := by decide +kernel
theorem dX3_resolveOrReject_17 : decode cX3_resolveOrReject 17 = .ok (.aload_n 0, 1) := by decide +kernel
theorem dX3_resolveOrReject_18 : decode cX3_resolveOrReject 18 = .ok (.getfield 18, 3) := by decide +kernel
theorem dX3_resolveOrReject_21 : decode cX3_resolveOrReject 21 = .ok (.iload_n 1, 1) := by decide +kernel
theorem dX3_resolveOrReject_22 : decode cX3_resolveOrReject 22 = .ok (.iconst 1, 1) := by decide +kernel
theorem dX3_resolveOrReject_23 : decode cX3_resolveOrReject 23 = .ok (.bastore, 1) := by decide +kernel
theorem dX3_resolveOrReject_24 : decode cX3_resolveOrReject 24 = .ok (.aload_n 0, 1) := by decide +kernel
theorem dX3_resolveOrReject_25 : decode cX3_resolveOrReject 25 = .ok (.iload_n 1, 1) := by decide +kernel
theorem dX3_resolveOrReject_26 : decode cX3_resolveOrReject 26 = .ok (.iload_n 2, 1) := by decide +kernel
theorem dX3_resolveOrReject_27 : decode cX3_resolveOrReject 27 = .ok (.iload_n 3, 1) := by decide +kernel
theorem dX3_resolveOrReject_28 : decode cX3_resolveOrReject 28 = .ok (.invokevirtual 65, 3) := by decide +kernel
theorem dX3_resolveOrReject_31 : decode cX3_resolveOrReject 31 = .ok (.return_, 1) := by decide +kernel
theorem dX3_follow_0 : decode cX3_follow 0 = .ok (.aload_n 0, 1) := by decide +kernel
theorem dX3_follow_1 : decode cX3_follow 1 = .ok (.iload_n 1, 1) := by decide +kernel
theorem dX3_follow_2 : decode cX3_follow 2 = .ok (.invokevirtual 61, 3) := by decide +kernel
theorem dX3_follow_5 : decode cX3_follow 5 = .ok (.ifCond .eq 20, 3) := by decide +kernel
theorem dX3_follow_8 : decode cX3_follow 8 = .ok (.aload_n 0, 1) := by decide +kernel
theorem dX3_follow_9 : decode cX3_follow 9 = .ok (.iload_n 2, 1) := by decide +kernel
theorem dX3_follow_10 : decode cX3_follow 10 = .ok (.invokevirtual 61, 3) := by decide +kernel
theorem dX3_follow_13 : decode cX3_follow 13 = .ok (.ifCond .eq 12, 3) := by decide +kernel
theorem dX3_follow_16 : decode cX3_follow 16 = .ok (.aload_n 0, 1) := by decide +kernel
theorem dX3_follow_17 : decode cX3_follow 17 = .ok (.getfield 18, 3) := by decide +kernel
theorem dX3_follow_20 : decode cX3_follow 20 = .ok (.iload_n 1, 1) := by decide +kernel
theorem dX3_follow_21 : decode cX3_follow 21 = .ok (.baload, 1) := by decide +kernel
theorem dX3_follow_22 : decode cX3_follow 22 = .ok (.ifCond .eq 4, 3) := by decide +kernel
theorem dX3_follow_25 : decode cX3_follow 25 = .ok (.return_, 1) := by decide +kernel
theorem dX3_follow_26 : decode cX3_follow 26 = .ok (.aload_n 0, 1) := by decide +kernel
theorem dX3_follow_27 : decode cX3_follow 27 = .ok (.getfield 18, 3) := by decide +kernel
theorem dX3_follow_30 : decode cX3_follow 30 = .ok (.iload_n 1, 1) := by decide +kernel
theorem dX3_follow_31 : decode cX3_follow 31 = .ok (.iconst 1, 1) := by decide +kernel
theorem dX3_follow_32 : decode cX3_follow 32 = .ok (.bastore, 1) := by decide +kernel
theorem dX3_follow_33 : decode cX3_follow 33 = .ok (.iload_n 1, 1) := by decide +kernel
theorem dX3_follow_34 : decode cX3_follow 34 = .ok (.iload_n 2, 1) := by decide +kernel
theorem dX3_follow_35 : decode cX3_follow 35 = .ok (.if_icmp .ne 14, 3) := by decide +kernel
theorem dX3_follow_38 : decode cX3_follow 38 = .ok (.aload_n 0, 1) := by decide +kernel
theorem dX3_follow_39 : decode cX3_follow 39 = .ok (.iload_n 1, 1) := by decide +kernel
theorem dX3_follow_40 : decode cX3_follow 40 = .ok (.iconst 2, 1) := by decide +kernel
theorem dX3_follow_41 : decode cX3_follow 41 = .ok (.bipush (-3), 2) := by decide +kernel
theorem dX3_follow_43 : decode cX3_follow 43 = .ok (.invokevirtual 65, 3) := by decide +kernel
theorem dX3_follow_46 : decode cX3_follow 46 = .ok (.goto 13, 3) := by decide +kernel
theorem dX3_follow_49 : decode cX3_follow 49 = .ok (.aload_n 0, 1) := by decide +kernel
theorem dX3_follow_50 : decode cX3_follow 50 = .ok (.getfield 53, 3) := by decide +kernel
theorem dX3_follow_53 : decode cX3_follow 53 = .ok (.iconst 3, 1) := by decide +kernel
theorem dX3_follow_54 : decode cX3_follow 54 = .ok (.iload_n 1, 1) := by decide +kernel
theorem dX3_follow_55 : decode cX3_follow 55 = .ok (.iload_n 2, 1) := by decide +kernel
theorem dX3_follow_56 : decode cX3_follow 56 = .ok (.invokevirtual 69, 3) := by decide +kernel
theorem dX3_follow_59 : decode cX3_follow 59 = .ok (.return_, 1) := by decide +kernel
theorem dX3_settle_0 : decode cX3_settle 0 = .ok (.aload_n 0, 1) := by decide +kernel
theorem dX3_settle_1 : decode cX3_settle 1 = .ok (.getfield 9, 3) := by decide +kernel
theorem dX3_settle_4 : decode cX3_settle 4 = .ok (.iload_n 1, 1) := by decide +kernel
theorem dX3_settle_5 : decode cX3_settle 5 = .ok (.iload_n 2, 1) := by decide +kernel
theorem dX3_settle_6 : decode cX3_settle 6 = .ok (.iastore, 1) := by decide +kernel
theorem dX3_settle_7 : decode cX3_settle 7 = .ok (.aload_n 0, 1) := by decide +kernel
theorem dX3_settle_8 : decode cX3_settle 8 = .ok (.getfield 15, 3) := by decide +kernel
theorem dX3_settle_11 : decode cX3_settle 11 = .ok (.iload_n 1, 1) := by decide +kernel
theorem dX3_settle_12 : decode cX3_settle 12 = .ok (.iload_n 3, 1) := by decide +kernel
theorem dX3_settle_13 : decode cX3_settle 13 = .ok (.iastore, 1) := by decide +kernel
theorem dX3_settle_14 : decode cX3_settle 14 = .ok (.iconst 0, 1) := by decide +kernel
theorem dX3_settle_15 : decode cX3_settle 15 = .ok (.istore 4, 2) := by decide +kernel
theorem dX3_settle_17 : decode cX3_settle 17 = .ok (.iload 4, 2) := by decide +kernel
theorem dX3_settle_19 : decode cX3_settle 19 = .ok (.aload_n 0, 1) := by decide +kernel
theorem dX3_settle_20 : decode cX3_settle 20 = .ok (.getfield 50, 3) := by decide +kernel
theorem dX3_settle_23 : decode cX3_settle 23 = .ok (.if_icmp .ge 31, 3) := by decide +kernel
theorem dX3_settle_26 : decode cX3_settle 26 = .ok (.aload_n 0, 1) := by decide +kernel
theorem dX3_settle_27 : decode cX3_settle 27 = .ok (.getfield 38, 3) := by decide +kernel
theorem dX3_settle_30 : decode cX3_settle 30 = .ok (.iload 4, 2) := by decide +kernel
theorem dX3_settle_32 : decode cX3_settle 32 = .ok (.iaload, 1) := by decide +kernel
theorem dX3_settle_33 : decode cX3_settle 33 = .ok (.iload_n 1, 1) := by decide +kernel
theorem dX3_settle_34 : decode cX3_settle 34 = .ok (.if_icmp .ne 14, 3) := by decide +kernel
theorem dX3_settle_37 : decode cX3_settle 37 = .ok (.aload_n 0, 1) := by decide +kernel
theorem dX3_settle_38 : decode cX3_settle 38 = .ok (.getfield 53, 3) := by decide +kernel
theorem dX3_settle_41 : decode cX3_settle 41 = .ok (.iconst 2, 1) := by decide +kernel
theorem dX3_settle_42 : decode cX3_settle 42 = .ok (.iload 4, 2) := by decide +kernel
theorem dX3_settle_44 : decode cX3_settle 44 = .ok (.iconst 0, 1) := by decide +kernel
theorem dX3_settle_45 : decode cX3_settle 45 = .ok (.invokevirtual 69, 3) := by decide +kernel
theorem dX3_settle_48 : decode cX3_settle 48 = .ok (.iinc 4 1, 3) := by decide +kernel
theorem dX3_settle_51 : decode cX3_settle 51 = .ok (.goto (-34), 3) := by decide +kernel
theorem dX3_settle_54 : decode cX3_settle 54 = .ok (.iload_n 2, 1) := by decide +kernel
theorem dX3_settle_55 : decode cX3_settle 55 = .ok (.iconst 2, 1) := by decide +kernel
theorem dX3_settle_56 : decode cX3_settle 56 = .ok (.if_icmp .ne 41, 3) := by decide +kernel
theorem dX3_settle_59 : decode cX3_settle 59 = .ok (.aload_n 0, 1) := by decide +kernel
theorem dX3_settle_60 : decode cX3_settle 60 = .ok (.getfield 22, 3) := by decide +kernel
theorem dX3_settle_63 : decode cX3_settle 63 = .ok (.iload_n 1, 1) := by decide +kernel
theorem dX3_settle_64 : decode cX3_settle 64 = .ok (.baload, 1) := by decide +kernel
theorem dX3_settle_65 : decode cX3_settle 65 = .ok (.ifCond .ne 32, 3) := by decide +kernel
theorem dX3_settle_68 : decode cX3_settle 68 = .ok (.aload_n 0, 1) := by decide +kernel
theorem dX3_settle_69 : decode cX3_settle 69 = .ok (.getfield 35, 3) := by decide +kernel
theorem dX3_settle_72 : decode cX3_settle 72 = .ok (.bipush 40, 2) := by decide +kernel
theorem dX3_settle_74 : decode cX3_settle 74 = .ok (.if_icmp .ge 23, 3) := by decide +kernel
theorem dX3_settle_77 : decode cX3_settle 77 = .ok (.aload_n 0, 1) := by decide +kernel
theorem dX3_settle_78 : decode cX3_settle 78 = .ok (.getfield 32, 3) := by decide +kernel
theorem dX3_settle_81 : decode cX3_settle 81 = .ok (.aload_n 0, 1) := by decide +kernel
theorem dX3_settle_82 : decode cX3_settle 82 = .ok (.getfield 35, 3) := by decide +kernel
theorem dX3_settle_85 : decode cX3_settle 85 = .ok (.iload_n 1, 1) := by decide +kernel
theorem dX3_settle_86 : decode cX3_settle 86 = .ok (.iastore, 1) := by decide +kernel
theorem dX3_settle_87 : decode cX3_settle 87 = .ok (.aload_n 0, 1) := by decide +kernel
theorem dX3_settle_88 : decode cX3_settle 88 = .ok (.dup, 1) := by decide +kernel
theorem dX3_settle_89 : decode cX3_settle 89 = .ok (.getfield 35, 3) := by decide +kernel
theorem dX3_settle_92 : decode cX3_settle 92 = .ok (.iconst 1, 1) := by decide +kernel
theorem dX3_settle_93 : decode cX3_settle 93 = .ok (.iadd, 1) := by decide +kernel
theorem dX3_settle_94 : decode cX3_settle 94 = .ok (.putfield 35, 3) := by decide +kernel
theorem dX3_settle_97 : decode cX3_settle 97 = .ok (.return_, 1) := by decide +kernel
theorem dX3_react_0 : decode cX3_react 0 = .ok (.aload_n 0, 1) := by decide +kernel
theorem dX3_react_1 : decode cX3_react 1 = .ok (.iload_n 1, 1) := by decide +kernel
theorem dX3_react_2 : decode cX3_react 2 = .ok (.invokevirtual 61, 3) := by decide +kernel
theorem dX3_react_5 : decode cX3_react 5 = .ok (.ifCond .eq 12, 3) := by decide +kernel
theorem dX3_react_8 : decode cX3_react 8 = .ok (.aload_n 0, 1) := by decide +kernel
theorem dX3_react_9 : decode cX3_react 9 = .ok (.getfield 50, 3) := by decide +kernel
theorem dX3_react_12 : decode cX3_react 12 = .ok (.bipush 80, 2) := by decide +kernel
theorem dX3_react_14 : decode cX3_react 14 = .ok (.if_icmp .lt 4, 3) := by decide +kernel
theorem dX3_react_17 : decode cX3_react 17 = .ok (.return_, 1) := by decide +kernel
theorem dX3_react_18 : decode cX3_react 18 = .ok (.aload_n 0, 1) := by decide +kernel
theorem dX3_react_19 : decode cX3_react 19 = .ok (.getfield 25, 3) := by decide +kernel
theorem dX3_react_22 : decode cX3_react 22 = .ok (.iload_n 1, 1) := by decide +kernel
theorem dX3_react_23 : decode cX3_react 23 = .ok (.baload, 1) := by decide +kernel
theorem dX3_react_24 : decode cX3_react 24 = .ok (.ifCond .eq 24, 3) := by decide +kernel
theorem dX3_react_27 : decode cX3_react 27 = .ok (.aload_n 0, 1) := by decide +kernel
theorem dX3_react_28 : decode cX3_react 28 = .ok (.getfield 22, 3) := by decide +kernel
theorem dX3_react_31 : decode cX3_react 31 = .ok (.iload_n 1, 1) := by decide +kernel
theorem dX3_react_32 : decode cX3_react 32 = .ok (.baload, 1) := by decide +kernel
theorem dX3_react_33 : decode cX3_react 33 = .ok (.ifCond .ne 15, 3) := by decide +kernel
theorem dX3_react_36 : decode cX3_react 36 = .ok (.aload_n 0, 1) := by decide +kernel
theorem dX3_react_37 : decode cX3_react 37 = .ok (.getfield 57, 3) := by decide +kernel
theorem dX3_react_40 : decode cX3_react 40 = .ok (.sipush 30000, 3) := by decide +kernel
theorem dX3_react_43 : decode cX3_react 43 = .ok (.iload_n 1, 1) := by decide +kernel
theorem dX3_react_44 : decode cX3_react 44 = .ok (.iadd, 1) := by decide +kernel
theorem dX3_react_45 : decode cX3_react 45 = .ok (.invokevirtual 74, 3) := by decide +kernel
theorem dX3_react_48 : decode cX3_react 48 = .ok (.aload_n 0, 1) := by decide +kernel
theorem dX3_react_49 : decode cX3_react 49 = .ok (.getfield 22, 3) := by decide +kernel
theorem dX3_react_52 : decode cX3_react 52 = .ok (.iload_n 1, 1) := by decide +kernel
theorem dX3_react_53 : decode cX3_react 53 = .ok (.iconst 1, 1) := by decide +kernel
theorem dX3_react_54 : decode cX3_react 54 = .ok (.bastore, 1) := by decide +kernel
theorem dX3_react_55 : decode cX3_react 55 = .ok (.aload_n 0, 1) := by decide +kernel
theorem dX3_react_56 : decode cX3_react 56 = .ok (.getfield 38, 3) := by decide +kernel
theorem dX3_react_59 : decode cX3_react 59 = .ok (.aload_n 0, 1) := by decide +kernel
theorem dX3_react_60 : decode cX3_react 60 = .ok (.getfield 50, 3) := by decide +kernel
theorem dX3_react_63 : decode cX3_react 63 = .ok (.iload_n 1, 1) := by decide +kernel
theorem dX3_react_64 : decode cX3_react 64 = .ok (.iastore, 1) := by decide +kernel
theorem dX3_react_65 : decode cX3_react 65 = .ok (.aload_n 0, 1) := by decide +kernel
theorem dX3_react_66 : decode cX3_react 66 = .ok (.getfield 41, 3) := by decide +kernel
theorem dX3_react_69 : decode cX3_react 69 = .ok (.aload_n 0, 1) := by decide +kernel
theorem dX3_react_70 : decode cX3_react 70 = .ok (.getfield 50, 3) := by decide +kernel
theorem dX3_react_73 : decode cX3_react 73 = .ok (.iload 4, 2) := by decide +kernel
theorem dX3_react_75 : decode cX3_react 75 = .ok (.iastore, 1) := by decide +kernel
theorem dX3_react_76 : decode cX3_react 76 = .ok (.aload_n 0, 1) := by decide +kernel
theorem dX3_react_77 : decode cX3_react 77 = .ok (.getfield 44, 3) := by decide +kernel
theorem dX3_react_80 : decode cX3_react 80 = .ok (.aload_n 0, 1) := by decide +kernel
theorem dX3_react_81 : decode cX3_react 81 = .ok (.getfield 50, 3) := by decide +kernel
theorem dX3_react_84 : decode cX3_react 84 = .ok (.iload_n 2, 1) := by decide +kernel
theorem dX3_react_85 : decode cX3_react 85 = .ok (.iastore, 1) := by decide +kernel
theorem dX3_react_86 : decode cX3_react 86 = .ok (.aload_n 0, 1) := by decide +kernel
theorem dX3_react_87 : decode cX3_react 87 = .ok (.getfield 47, 3) := by decide +kernel
theorem dX3_react_90 : decode cX3_react 90 = .ok (.aload_n 0, 1) := by decide +kernel
theorem dX3_react_91 : decode cX3_react 91 = .ok (.getfield 50, 3) := by decide +kernel
theorem dX3_react_94 : decode cX3_react 94 = .ok (.iload_n 3, 1) := by decide +kernel
theorem dX3_react_95 : decode cX3_react 95 = .ok (.iastore, 1) := by decide +kernel
theorem dX3_react_96 : decode cX3_react 96 = .ok (.aload_n 0, 1) := by decide +kernel
theorem dX3_react_97 : decode cX3_react 97 = .ok (.getfield 9, 3) := by decide +kernel
theorem dX3_react_100 : decode cX3_react 100 = .ok (.iload_n 1, 1) := by decide +kernel
theorem dX3_react_101 : decode cX3_react 101 = .ok (.iaload, 1) := by decide +kernel
theorem dX3_react_102 : decode cX3_react 102 = .ok (.ifCond .eq 16, 3) := by decide +kernel
theorem dX3_react_105 : decode cX3_react 105 = .ok (.aload_n 0, 1) := by decide +kernel
theorem dX3_react_106 : decode cX3_react 106 = .ok (.getfield 53, 3) := by decide +kernel
theorem dX3_react_109 : decode cX3_react 109 = .ok (.iconst 2, 1) := by decide +kernel
theorem dX3_react_110 : decode cX3_react 110 = .ok (.aload_n 0, 1) := by decide +kernel
theorem dX3_react_111 : decode cX3_react 111 = .ok (.getfield 50, 3) := by decide +kernel
theorem dX3_react_114 : decode cX3_react 114 = .ok (.iconst 0, 1) := by decide +kernel
theorem dX3_react_115 : decode cX3_react 115 = .ok (.invokevirtual 69, 3) := by decide +kernel
theorem dX3_react_118 : decode cX3_react 118 = .ok (.aload_n 0, 1) := by decide +kernel
theorem dX3_react_119 : decode cX3_react 119 = .ok (.dup, 1) := by decide +kernel
theorem dX3_react_120 : decode cX3_react 120 = .ok (.getfield 50, 3) := by decide +kernel
theorem dX3_react_123 : decode cX3_react 123 = .ok (.iconst 1, 1) := by decide +kernel
theorem dX3_react_124 : decode cX3_react 124 = .ok (.iadd, 1) := by decide +kernel
theorem dX3_react_125 : decode cX3_react 125 = .ok (.putfield 50, 3) := by decide +kernel
theorem dX3_react_128 : decode cX3_react 128 = .ok (.return_, 1) := by decide +kernel
theorem dX3_reportUnhandled_0 : decode cX3_reportUnhandled 0 = .ok (.iconst 0, 1) := by decide +kernel
theorem dX3_reportUnhandled_1 : decode cX3_reportUnhandled 1 = .ok (.istore_n 1, 1) := by decide +kernel
theorem dX3_reportUnhandled_2 : decode cX3_reportUnhandled 2 = .ok (.iload_n 1, 1) := by decide +kernel
theorem dX3_reportUnhandled_3 : decode cX3_reportUnhandled 3 = .ok (.aload_n 0, 1) := by decide +kernel
theorem dX3_reportUnhandled_4 : decode cX3_reportUnhandled 4 = .ok (.getfield 35, 3) := by decide +kernel
theorem dX3_reportUnhandled_7 : decode cX3_reportUnhandled 7 = .ok (.if_icmp .ge 44, 3) := by decide +kernel
theorem dX3_reportUnhandled_10 : decode cX3_reportUnhandled 10 = .ok (.aload_n 0, 1) := by decide +kernel
theorem dX3_reportUnhandled_11 : decode cX3_reportUnhandled 11 = .ok (.getfield 32, 3) := by decide +kernel
theorem dX3_reportUnhandled_14 : decode cX3_reportUnhandled 14 = .ok (.iload_n 1, 1) := by decide +kernel
theorem dX3_reportUnhandled_15 : decode cX3_reportUnhandled 15 = .ok (.iaload, 1) := by decide +kernel
theorem dX3_reportUnhandled_16 : decode cX3_reportUnhandled 16 = .ok (.istore_n 2, 1) := by decide +kernel
theorem dX3_reportUnhandled_17 : decode cX3_reportUnhandled 17 = .ok (.aload_n 0, 1) := by decide +kernel
theorem dX3_reportUnhandled_18 : decode cX3_reportUnhandled 18 = .ok (.getfield 22, 3) := by decide +kernel
theorem dX3_reportUnhandled_21 : decode cX3_reportUnhandled 21 = .ok (.iload_n 2, 1) := by decide +kernel
theorem dX3_reportUnhandled_22 : decode cX3_reportUnhandled 22 = .ok (.baload, 1) := by decide +kernel
theorem dX3_reportUnhandled_23 : decode cX3_reportUnhandled 23 = .ok (.ifCond .ne 22, 3) := by decide +kernel
theorem dX3_reportUnhandled_26 : decode cX3_reportUnhandled 26 = .ok (.aload_n 0, 1) := by decide +kernel
theorem dX3_reportUnhandled_27 : decode cX3_reportUnhandled 27 = .ok (.getfield 25, 3) := by decide +kernel
theorem dX3_reportUnhandled_30 : decode cX3_reportUnhandled 30 = .ok (.iload_n 2, 1) := by decide +kernel
theorem dX3_reportUnhandled_31 : decode cX3_reportUnhandled 31 = .ok (.iconst 1, 1) := by decide +kernel
theorem dX3_reportUnhandled_32 : decode cX3_reportUnhandled 32 = .ok (.bastore, 1) := by decide +kernel
theorem dX3_reportUnhandled_33 : decode cX3_reportUnhandled 33 = .ok (.aload_n 0, 1) := by decide +kernel
theorem dX3_reportUnhandled_34 : decode cX3_reportUnhandled 34 = .ok (.getfield 57, 3) := by decide +kernel
theorem dX3_reportUnhandled_37 : decode cX3_reportUnhandled 37 = .ok (.sipush 20000, 3) := by decide +kernel
theorem dX3_reportUnhandled_40 : decode cX3_reportUnhandled 40 = .ok (.iload_n 2, 1) := by decide +kernel
theorem dX3_reportUnhandled_41 : decode cX3_reportUnhandled 41 = .ok (.iadd, 1) := by decide +kernel
theorem dX3_reportUnhandled_42 : decode cX3_reportUnhandled 42 = .ok (.invokevirtual 74, 3) := by decide +kernel
theorem dX3_reportUnhandled_45 : decode cX3_reportUnhandled 45 = .ok (.iinc 1 1, 3) := by decide +kernel
theorem dX3_reportUnhandled_48 : decode cX3_reportUnhandled 48 = .ok (.goto (-46), 3) := by decide +kernel
theorem dX3_reportUnhandled_51 : decode cX3_reportUnhandled 51 = .ok (.aload_n 0, 1) := by decide +kernel
theorem dX3_reportUnhandled_52 : decode cX3_reportUnhandled 52 = .ok (.iconst 0, 1) := by decide +kernel
theorem dX3_reportUnhandled_53 : decode cX3_reportUnhandled 53 = .ok (.putfield 35, 3) := by decide +kernel
theorem dX3_reportUnhandled_56 : decode cX3_reportUnhandled 56 = .ok (.return_, 1) := by decide +kernel
theorem dX4_init_0 : decode cX4_init 0 = .ok (.aload_n 0, 1) := by decide +kernel
theorem dX4_init_1 : decode cX4_init 1 = .ok (.invokespecial 3, 3) := by decide +kernel
theorem dX4_init_4 : decode cX4_init 4 = .ok (.aload_n 0, 1) := by decide +kernel
theorem dX4_init_5 : decode cX4_init 5 = .ok (.bipush 12, 2) := by decide +kernel
theorem dX4_init_7 : decode cX4_init 7 = .ok (.newarray .int, 2) := by decide +kernel
theorem dX4_init_9 : decode cX4_init 9 = .ok (.putfield 9, 3) := by decide +kernel
theorem dX4_init_12 : decode cX4_init 12 = .ok (.aload_n 0, 1) := by decide +kernel
theorem dX4_init_13 : decode cX4_init 13 = .ok (.bipush 12, 2) := by decide +kernel
theorem dX4_init_15 : decode cX4_init 15 = .ok (.newarray .int, 2) := by decide +kernel
theorem dX4_init_17 : decode cX4_init 17 = .ok (.putfield 15, 3) := by decide +kernel
theorem dX4_init_20 : decode cX4_init 20 = .ok (.aload_n 0, 1) := by decide +kernel
theorem dX4_init_21 : decode cX4_init 21 = .ok (.bipush 12, 2) := by decide +kernel
theorem dX4_init_23 : decode cX4_init 23 = .ok (.newarray .int, 2) := by decide +kernel
theorem dX4_init_25 : decode cX4_init 25 = .ok (.putfield 18, 3) := by decide +kernel
theorem dX4_init_28 : decode cX4_init 28 = .ok (.aload_n 0, 1) := by decide +kernel
theorem dX4_init_29 : decode cX4_init 29 = .ok (.bipush 12, 2) := by decide +kernel
theorem dX4_init_31 : decode cX4_init 31 = .ok (.newarray .int, 2) := by decide +kernel
theorem dX4_init_33 : decode cX4_init 33 = .ok (.putfield 21, 3) := by decide +kernel
theorem dX4_init_36 : decode cX4_init 36 = .ok (.aload_n 0, 1) := by decide +kernel
theorem dX4_init_37 : decode cX4_init 37 = .ok (.bipush 12, 2) := by decide +kernel
theorem dX4_init_39 : decode cX4_init 39 = .ok (.newarray .int, 2) := by decide +kernel
theorem dX4_init_41 : decode cX4_init 41 = .ok (.putfield 24, 3) := by decide +kernel
theorem dX4_init_44 : decode cX4_init 44 = .ok (.aload_n 0, 1) := by decide +kernel
theorem dX4_init_45 : decode cX4_init 45 = .ok (.bipush 12, 2) := by decide +kernel
theorem dX4_init_47 : decode cX4_init 47 = .ok (.newarray .int, 2) := by decide +kernel
theorem dX4_init_49 : decode cX4_init 49 = .ok (.putfield 27, 3) := by decide +kernel
theorem dX4_init_52 : decode cX4_init 52 = .ok (.aload_n 0, 1) := by decide +kernel
theorem dX4_init_53 : decode cX4_init 53 = .ok (.bipush 12, 2) := by decide +kernel
theorem dX4_init_55 : decode cX4_init 55 = .ok (.newarray .boolean, 2) := by decide +kernel
theorem dX4_init_57 : decode cX4_init 57 = .ok (.putfield 30, 3) := by decide +kernel
theorem dX4_init_60 : decode cX4_init 60 = .ok (.aload_n 0, 1) := by decide +kernel
theorem dX4_init_61 : decode cX4_init 61 = .ok (.bipush 12, 2) := by decide +kernel
theorem dX4_init_63 : decode cX4_init 63 = .ok (.newarray .boolean, 2) := by decide +kernel
theorem dX4_init_65 : decode cX4_init 65 = .ok (.putfield 34, 3) := by decide +kernel
theorem dX4_init_68 : decode cX4_init 68 = .ok (.aload_n 0, 1) := by decide +kernel
theorem dX4_init_69 : decode cX4_init 69 = .ok (.iconst 0, 1) := by decide +kernel
theorem dX4_init_70 : decode cX4_init 70 = .ok (.putfield 37, 3) := by decide +kernel
theorem dX4_init_73 : decode cX4_init 73 = .ok (.aload_n 0, 1) := by decide +kernel
theorem dX4_init_74 : decode cX4_init 74 = .ok (.iconst 0, 1) := by decide +kernel
theorem dX4_init_75 : decode cX4_init 75 = .ok (.putfield 41, 3) := by decide +kernel
theorem dX4_init_78 : decode cX4_init 78 = .ok (.return_, 1) := by decide +kernel
theorem dX4_size_0 : decode cX4_size 0 = .ok (.aload_n 0, 1) := by decide +kernel
theorem dX4_size_1 : decode cX4_size 1 = .ok (.getfield 41, 3) := by decide +kernel
theorem dX4_size_4 : decode cX4_size 4 = .ok (.ireturn, 1) := by decide +kernel
theorem dX4_isFull_0 : decode cX4_isFull 0 = .ok (.aload_n 0, 1) := by decide +kernel
theorem dX4_isFull_1 : decode cX4_isFull 1 = .ok (.getfield 41, 3) := by decide +kernel
theorem dX4_isFull_4 : decode cX4_isFull 4 = .ok (.bipush 12, 2) := by decide +kernel
theorem dX4_isFull_6 : decode cX4_isFull 6 = .ok (.if_icmp .lt 7, 3) := by decide +kernel
theorem dX4_isFull_9 : decode cX4_isFull 9 = .ok (.iconst 1, 1) := by decide +kernel
theorem dX4_isFull_10 : decode cX4_isFull 10 = .ok (.goto 4, 3) := by decide +kernel
theorem dX4_isFull_13 : decode cX4_isFull 13 = .ok (.iconst 0, 1) := by decide +kernel
theorem dX4_isFull_14 : decode cX4_isFull 14 = .ok (.ireturn, 1) := by decide +kernel
theorem dX4_find_0 : decode cX4_find 0 = .ok (.iload_n 1, 1) := by decide +kernel
theorem dX4_find_1 : decode cX4_find 1 = .ok (.ifCond .ne 5, 3) := by decide +kernel
theorem dX4_find_4 : decode cX4_find 4 = .ok (.iconst (-1), 1) := by decide +kernel
theorem dX4_find_5 : decode cX4_find 5 = .ok (.ireturn, 1) := by decide +kernel
theorem dX4_find_6 : decode cX4_find 6 = .ok (.iconst 0, 1) := by decide +kernel
theorem dX4_find_7 : decode cX4_find 7 = .ok (.istore_n 2, 1) := by decide +kernel
theorem dX4_find_8 : decode cX4_find 8 = .ok (.iload_n 2, 1) := by decide +kernel
theorem dX4_find_9 : decode cX4_find 9 = .ok (.bipush 12, 2) := by decide +kernel
theorem dX4_find_11 : decode cX4_find 11 = .ok (.if_icmp .ge 21, 3) := by decide +kernel
theorem dX4_find_14 : decode cX4_find 14 = .ok (.aload_n 0, 1) := by decide +kernel
theorem dX4_find_15 : decode cX4_find 15 = .ok (.getfield 9, 3) := by decide +kernel
theorem dX4_find_18 : decode cX4_find 18 = .ok (.iload_n 2, 1) := by decide +kernel
theorem dX4_find_19 : decode cX4_find 19 = .ok (.iaload, 1) := by decide +kernel
theorem dX4_find_20 : decode cX4_find 20 = .ok (.iload_n 1, 1) := by decide +kernel
theorem dX4_find_21 : decode cX4_find 21 = .ok (.if_icmp .ne 5, 3) := by decide +kernel
theorem dX4_find_24 : decode cX4_find 24 = .ok (.iload_n 2, 1) := by decide +kernel
theorem dX4_find_25 : decode cX4_find 25 = .ok (.ireturn, 1) := by decide +kernel
theorem dX4_find_26 : decode cX4_find 26 = .ok (.iinc 2 1, 3) := by decide +kernel
theorem dX4_find_29 : decode cX4_find 29 = .ok (.goto (-21), 3) := by decide +kernel
theorem dX4_find_32 : decode cX4_find 32 = .ok (.iconst (-1), 1) := by decide +kernel
theorem dX4_find_33 : decode cX4_find 33 = .ok (.ireturn, 1) := by decide +kernel
theorem dX4_functionAt_0 : decode cX4_functionAt 0 = .ok (.aload_n 0, 1) := by decide +kernel
theorem dX4_functionAt_1 : decode cX4_functionAt 1 = .ok (.getfield 15, 3) := by decide +kernel
theorem dX4_functionAt_4 : decode cX4_functionAt 4 = .ok (.iload_n 1, 1) := by decide +kernel
theorem dX4_functionAt_5 : decode cX4_functionAt 5 = .ok (.iaload, 1) := by decide +kernel
theorem dX4_functionAt_6 : decode cX4_functionAt 6 = .ok (.ireturn, 1) := by decide +kernel
theorem dX4_argumentAt_0 : decode cX4_argumentAt 0 = .ok (.aload_n 0, 1) := by decide +kernel
theorem dX4_argumentAt_1 : decode cX4_argumentAt 1 = .ok (.getfield 18, 3) := by decide +kernel
theorem dX4_argumentAt_4 : decode cX4_argumentAt 4 = .ok (.iload_n 1, 1) := by decide +kernel
theorem dX4_argumentAt_5 : decode cX4_argumentAt 5 = .ok (.iaload, 1) := by decide +kernel
theorem dX4_argumentAt_6 : decode cX4_argumentAt 6 = .ok (.ireturn, 1) := by decide +kernel
theorem dX4_levelAt_0 : decode cX4_levelAt 0 = .ok (.aload_n 0, 1) := by decide +kernel
theorem dX4_levelAt_1 : decode cX4_levelAt 1 = .ok (.getfield 24, 3) := by decide +kernel
theorem dX4_levelAt_4 : decode cX4_levelAt 4 = .ok (.iload_n 1, 1) := by decide +kernel
theorem dX4_levelAt_5 : decode cX4_levelAt 5 = .ok (.iaload, 1) := by decide +kernel
theorem dX4_levelAt_6 : decode cX4_levelAt 6 = .ok (.ireturn, 1) := by decide +kernel
theorem dX4_repeatsAt_0 : decode cX4_repeatsAt 0 = .ok (.aload_n 0, 1) := by decide +kernel
theorem dX4_repeatsAt_1 : decode cX4_repeatsAt 1 = .ok (.getfield 30, 3) := by decide +kernel
theorem dX4_repeatsAt_4 : decode cX4_repeatsAt 4 = .ok (.iload_n 1, 1) := by decide +kernel
theorem dX4_repeatsAt_5 : decode cX4_repeatsAt 5 = .ok (.baload, 1) := by decide +kernel
theorem dX4_repeatsAt_6 : decode cX4_repeatsAt 6 = .ok (.ireturn, 1) := by decide +kernel
theorem dX4_dueOf_0 : decode cX4_dueOf 0 = .ok (.aload_n 0, 1) := by decide +kernel
theorem dX4_dueOf_1 : decode cX4_dueOf 1 = .ok (.iload_n 1, 1) := by decide +kernel
theorem dX4_dueOf_2 : decode cX4_dueOf 2 = .ok (.invokevirtual 44, 3) := by decide +kernel
theorem dX4_dueOf_5 : decode cX4_dueOf 5 = .ok (.istore_n 2, 1) := by decide +kernel
theorem dX4_dueOf_6 : decode cX4_dueOf 6 = .ok (.iload_n 2, 1) := by decide +kernel
theorem dX4_dueOf_7 : decode cX4_dueOf 7 = .ok (.iconst (-1), 1) := by decide +kernel
theorem dX4_dueOf_8 : decode cX4_dueOf 8 = .ok (.if_icmp .ne 5, 3) := by decide +kernel
theorem dX4_dueOf_11 : decode cX4_dueOf 11 = .ok (.iconst (-1), 1) := by decide +kernel
theorem dX4_dueOf_12 : decode cX4_dueOf 12 = .ok (.ireturn, 1) := by decide +kernel
theorem dX4_dueOf_13 : decode cX4_dueOf 13 = .ok (.aload_n 0, 1) := by decide +kernel
theorem dX4_dueOf_14 : decode cX4_dueOf 14 = .ok (.getfield 34, 3) := by decide +kernel
theorem dX4_dueOf_17 : decode cX4_dueOf 17 = .ok (.iload_n 2, 1) := by decide +kernel
theorem dX4_dueOf_18 : decode cX4_dueOf 18 = .ok (.baload, 1) := by decide +kernel
theorem dX4_dueOf_19 : decode cX4_dueOf 19 = .ok (.ifCond .eq 8, 3) := by decide +kernel
theorem dX4_dueOf_22 : decode cX4_dueOf 22 = .ok (.bipush (-2), 2) := by decide +kernel
theorem dX4_dueOf_24 : decode cX4_dueOf 24 = .ok (.goto 9, 3) := by decide +kernel
theorem dX4_dueOf_27 : decode cX4_dueOf 27 = .ok (.aload_n 0, 1) := by decide +kernel
theorem dX4_dueOf_28 : decode cX4_dueOf 28 = .ok (.getfield 27, 3) := by decide +kernel
theorem dX4_dueOf_31 : decode cX4_dueOf 31 = .ok (.iload_n 2, 1) := by decide +kernel
theorem dX4_dueOf_32 : decode cX4_dueOf 32 = .ok (.iaload, 1) := by decide +kernel
theorem dX4_dueOf_33 : decode cX4_dueOf 33 = .ok (.ireturn, 1) := by decide +kernel
theorem dX4_make_0 : decode cX4_make 0 = .ok (.aload_n 0, 1) := by decide +kernel
theorem dX4_make_1 : decode cX4_make 1 = .ok (.invokevirtual 48, 3) := by decide +kernel
theorem dX4_make_4 : decode cX4_make 4 = .ok (.istore 7, 2) := by decide +kernel
theorem dX4_make_6 : decode cX4_make 6 = .ok (.iload 7, 2) := by decide +kernel
theorem dX4_make_8 : decode cX4_make 8 = .ok (.iconst (-1), 1) := by decide +kernel
theorem dX4_make_9 : decode cX4_make 9 = .ok (.if_icmp .ne 4, 3) := by decide +kernel
theorem dX4_make_12 : decode cX4_make 12 = .ok (.return_, 1) := by decide +kernel
theorem dX4_make_13 : decode cX4_make 13 = .ok (.aload_n 0, 1) := by decide +kernel
theorem dX4_make_14 : decode cX4_make 14 = .ok (.dup, 1) := by decide +kernel
theorem dX4_make_15 : decode cX4_make 15 = .ok (.getfield 37, 3) := by decide +kernel
theorem dX4_make_18 : decode cX4_make 18 = .ok (.iconst 1, 1) := by decide +kernel
theorem dX4_make_19 : decode cX4_make 19 = .ok (.iadd, 1) := by decide +kernel
theorem dX4_make_20 : decode cX4_make 20 = .ok (.putfield 37, 3) := by decide +kernel
theorem dX4_make_23 : decode cX4_make 23 = .ok (.aload_n 0, 1) := by decide +kernel
theorem dX4_make_24 : decode cX4_make 24 = .ok (.dup, 1) := by decide +kernel
theorem dX4_make_25 : decode cX4_make 25 = .ok (.getfield 41, 3) := by decide +kernel
theorem dX4_make_28 : decode cX4_make 28 = .ok (.iconst 1, 1) := by decide +kernel
theorem dX4_make_29 : decode cX4_make 29 = .ok (.iadd, 1) := by decide +kernel
theorem dX4_make_30 : decode cX4_make 30 = .ok (.putfield 41, 3) := by decide +kernel
theorem dX4_make_33 : decode cX4_make 33 = .ok (.aload_n 0, 1) := by decide +kernel
theorem dX4_make_34 : decode cX4_make 34 = .ok (.getfield 9, 3) := by decide +kernel
theorem dX4_make_37 : decode cX4_make 37 = .ok (.iload 7, 2) := by decide +kernel
theorem dX4_make_39 : decode cX4_make 39 = .ok (.aload_n 0, 1) := by decide +kernel
theorem dX4_make_40 : decode cX4_make 40 = .ok (.getfield 37, 3) := by decide +kernel
theorem dX4_make_43 : decode cX4_make 43 = .ok (.iastore, 1) := by decide +kernel
theorem dX4_make_44 : decode cX4_make 44 = .ok (.aload_n 0, 1) := by decide +kernel
theorem dX4_make_45 : decode cX4_make 45 = .ok (.getfield 15, 3) := by decide +kernel
theorem dX4_make_48 : decode cX4_make 48 = .ok (.iload 7, 2) := by decide +kernel
theorem dX4_make_50 : decode cX4_make 50 = .ok (.iload_n 1, 1) := by decide +kernel
theorem dX4_make_51 : decode cX4_make 51 = .ok (.iastore, 1) := by decide +kernel
theorem dX4_make_52 : decode cX4_make 52 = .ok (.aload_n 0, 1) := by decide +kernel
theorem dX4_make_53 : decode cX4_make 53 = .ok (.getfield 18, 3) := by decide +kernel
theorem dX4_make_56 : decode cX4_make 56 = .ok (.iload 7, 2) := by decide +kernel
theorem dX4_make_58 : decode cX4_make 58 = .ok (.iload_n 2, 1) := by decide +kernel
theorem dX4_make_59 : decode cX4_make 59 = .ok (.iastore, 1) := by decide +kernel
theorem dX4_make_60 : decode cX4_make 60 = .ok (.aload_n 0, 1) := by decide +kernel
theorem dX4_make_61 : decode cX4_make 61 = .ok (.getfield 21, 3) := by decide +kernel
theorem dX4_make_64 : decode cX4_make 64 = .ok (.iload 7, 2) := by decide +kernel
theorem dX4_make_66 : decode cX4_make 66 = .ok (.iload_n 3, 1) := by decide +kernel
theorem dX4_make_67 : decode cX4_make 67 = .ok (.iastore, 1) := by decide +kernel
theorem dX4_make_68 : decode cX4_make 68 = .ok (.aload_n 0, 1) := by decide +kernel
theorem dX4_make_69 : decode cX4_make 69 = .ok (.getfield 30, 3) := by decide +kernel
theorem dX4_make_72 : decode cX4_make 72 = .ok (.iload 7, 2) := by decide +kernel
theorem dX4_make_74 : decode cX4_make 74 = .ok (.iload 4, 2) := by decide +kernel
theorem dX4_make_76 : decode cX4_make 76 = .ok (.bastore, 1) := by decide +kernel
theorem dX4_make_77 : decode cX4_make 77 = .ok (.aload_n 0, 1) := by decide +kernel
theorem dX4_make_78 : decode cX4_make 78 = .ok (.iload 7, 2) := by decide +kernel
theorem dX4_make_80 : decode cX4_make 80 = .ok (.iload 5, 2) := by decide +kernel
theorem dX4_make_82 : decode cX4_make 82 = .ok (.iload 6, 2) := by decide +kernel
theorem dX4_make_84 : decode cX4_make 84 = .ok (.invokevirtual 52, 3) := by decide +kernel
theorem dX4_make_87 : decode cX4_make 87 = .ok (.return_, 1) := by decide +kernel
theorem dX4_remove_0 : decode cX4_remove 0 = .ok (.aload_n 0, 1) := by decide +kernel
theorem dX4_remove_1 : decode cX4_remove 1 = .ok (.iload_n 1, 1) := by decide +kernel
theorem dX4_remove_2 : decode cX4_remove 2 = .ok (.invokevirtual 44, 3) := by decide +kernel
theorem dX4_remove_5 : decode cX4_remove 5 = .ok (.istore_n 2, 1) := by decide +kernel
theorem dX4_remove_6 : decode cX4_remove 6 = .ok (.iload_n 2, 1) := by decide +kernel
theorem dX4_remove_7 : decode cX4_remove 7 = .ok (.iconst (-1), 1) := by decide +kernel
theorem dX4_remove_8 : decode cX4_remove 8 = .ok (.if_icmp .eq 20, 3) := by decide +kernel
theorem dX4_remove_11 : decode cX4_remove 11 = .ok (.aload_n 0, 1) := by decide +kernel
theorem dX4_remove_12 : decode cX4_remove 12 = .ok (.getfield 9, 3) := by decide +kernel
theorem dX4_remove_15 : decode cX4_remove 15 = .ok (.iload_n 2, 1) := by decide +kernel
theorem dX4_remove_16 : decode cX4_remove 16 = .ok (.iconst 0, 1) := by decide +kernel
theorem dX4_remove_17 : decode cX4_remove 17 = .ok (.iastore, 1) := by decide +kernel
theorem dX4_remove_18 : decode cX4_remove 18 = .ok (.aload_n 0, 1) := by decide +kernel
theorem dX4_remove_19 : decode cX4_remove 19 = .ok (.dup, 1) := by decide +kernel
theorem dX4_remove_20 : decode cX4_remove 20 = .ok (.getfield 41, 3) := by decide +kernel
theorem dX4_remove_23 : decode cX4_remove 23 = .ok (.iconst 1, 1) := by decide +kernel
theorem dX4_remove_24 : decode cX4_remove 24 = .ok (.isub, 1) := by decide +kernel
theorem dX4_remove_25 : decode cX4_remove 25 = .ok (.putfield 41, 3) := by decide +kernel
theorem dX4_remove_28 : decode cX4_remove 28 = .ok (.return_, 1) := by decide +kernel
theorem dX4_restart_0 : decode cX4_restart 0 = .ok (.aload_n 0, 1) := by decide +kernel
theorem dX4_restart_1 : decode cX4_restart 1 = .ok (.iload_n 1, 1) := by decide +kernel
theorem dX4_restart_2 : decode cX4_restart 2 = .ok (.invokevirtual 44, 3) := by decide +kernel
theorem dX4_restart_5 : decode cX4_restart 5 = .ok (.istore_n 3, 1) := by decide +kernel
theorem dX4_restart_6 : decode cX4_restart 6 = .ok (.iload_n 3, 1) := by decide +kernel
theorem dX4_restart_7 : decode cX4_restart 7 = .ok (.iconst (-1), 1) := by decide +kernel
theorem dX4_restart_8 : decode cX4_restart 8 = .ok (.if_icmp .eq 17, 3) := by decide +kernel
theorem dX4_restart_11 : decode cX4_restart 11 = .ok (.aload_n 0, 1) := by decide +kernel
theorem dX4_restart_12 : decode cX4_restart 12 = .ok (.iload_n 3, 1) := by decide +kernel
theorem dX4_restart_13 : decode cX4_restart 13 = .ok (.aload_n 0, 1) := by decide +kernel
theorem dX4_restart_14 : decode cX4_restart 14 = .ok (.getfield 24, 3) := by decide +kernel
theorem dX4_restart_17 : decode cX4_restart 17 = .ok (.iload_n 3, 1) := by decide +kernel
theorem dX4_restart_18 : decode cX4_restart 18 = .ok (.iaload, 1) := by decide +kernel
theorem dX4_restart_19 : decode cX4_restart 19 = .ok (.iconst 1, 1) := by decide +kernel
theorem dX4_restart_20 : decode cX4_restart 20 = .ok (.iadd, 1) := by decide +kernel
theorem dX4_restart_21 : decode cX4_restart 21 = .ok (.iload_n 2, 1) := by decide +kernel
theorem dX4_restart_22 : decode cX4_restart 22 = .ok (.invokevirtual 52, 3) := by decide +kernel
theorem dX4_restart_25 : decode cX4_restart 25 = .ok (.return_, 1) := by decide +kernel
theorem dX4_putTasks_0 : decode cX4_putTasks 0 = .ok (.iconst 0, 1) := by decide +kernel
theorem dX4_putTasks_1 : decode cX4_putTasks 1 = .ok (.istore_n 3, 1) := by decide +kernel
theorem dX4_putTasks_2 : decode cX4_putTasks 2 = .ok (.iload_n 3, 1) := by decide +kernel
theorem dX4_putTasks_3 : decode cX4_putTasks 3 = .ok (.bipush 12, 2) := by decide +kernel
theorem dX4_putTasks_5 : decode cX4_putTasks 5 = .ok (.if_icmp .ge 44, 3) := by decide +kernel
theorem dX4_putTasks_8 : decode cX4_putTasks 8 = .ok (.aload_n 0, 1) := by decide +kernel
theorem dX4_putTasks_9 : decode cX4_putTasks 9 = .ok (.iload_n 1, 1) := by decide +kernel
theorem dX4_putTasks_10 : decode cX4_putTasks 10 = .ok (.invokevirtual 56, 3) := by decide +kernel
theorem dX4_putTasks_13 : decode cX4_putTasks 13 = .ok (.istore 4, 2) := by decide +kernel
theorem dX4_putTasks_15 : decode cX4_putTasks 15 = .ok (.iload 4, 2) := by decide +kernel
theorem dX4_putTasks_17 : decode cX4_putTasks 17 = .ok (.iconst (-1), 1) := by decide +kernel
theorem dX4_putTasks_18 : decode cX4_putTasks 18 = .ok (.if_icmp .ne 4, 3) := by decide +kernel
theorem dX4_putTasks_21 : decode cX4_putTasks 21 = .ok (.return_, 1) := by decide +kernel
theorem dX4_putTasks_22 : decode cX4_putTasks 22 = .ok (.aload_n 0, 1) := by decide +kernel
theorem dX4_putTasks_23 : decode cX4_putTasks 23 = .ok (.getfield 34, 3) := by decide +kernel
theorem dX4_putTasks_26 : decode cX4_putTasks 26 = .ok (.iload 4, 2) := by decide +kernel
theorem dX4_putTasks_28 : decode cX4_putTasks 28 = .ok (.iconst 1, 1) := by decide +kernel
theorem dX4_putTasks_29 : decode cX4_putTasks 29 = .ok (.bastore, 1) := by decide +kernel
theorem dX4_putTasks_30 : decode cX4_putTasks 30 = .ok (.aload_n 2, 1) := by decide +kernel
theorem dX4_putTasks_31 : decode cX4_putTasks 31 = .ok (.iconst 1, 1) := by decide +kernel
theorem dX4_putTasks_32 : decode cX4_putTasks 32 = .ok (.aload_n 0, 1) := by decide +kernel
theorem dX4_putTasks_33 : decode cX4_putTasks 33 = .ok (.getfield 9, 3) := by decide +kernel
theorem dX4_putTasks_36 : decode cX4_putTasks 36 = .ok (.iload 4, 2) := by decide +kernel
theorem dX4_putTasks_38 : decode cX4_putTasks 38 = .ok (.iaload, 1) := by decide +kernel
theorem dX4_putTasks_39 : decode cX4_putTasks 39 = .ok (.iconst 0, 1) := by decide +kernel
theorem dX4_putTasks_40 : decode cX4_putTasks 40 = .ok (.invokevirtual 59, 3) := by decide +kernel
theorem dX4_putTasks_43 : decode cX4_putTasks 43 = .ok (.iinc 3 1, 3) := by decide +kernel
theorem dX4_putTasks_46 : decode cX4_putTasks 46 = .ok (.goto (-44), 3) := by decide +kernel
theorem dX4_putTasks_49 : decode cX4_putTasks 49 = .ok (.return_, 1) := by decide +kernel
theorem dX4_freePlace_0 : decode cX4_freePlace 0 = .ok (.iconst 0, 1) := by decide +kernel
theorem dX4_freePlace_1 : decode cX4_freePlace 1 = .ok (.istore_n 1, 1) := by decide +kernel
theorem dX4_freePlace_2 : decode cX4_freePlace 2 = .ok (.iload_n 1, 1) := by decide +kernel
theorem dX4_freePlace_3 : decode cX4_freePlace 3 = .ok (.bipush 12, 2) := by decide +kernel
theorem dX4_freePlace_5 : decode cX4_freePlace 5 = .ok (.if_icmp .ge 20, 3) := by decide +kernel
theorem dX4_freePlace_8 : decode cX4_freePlace 8 = .ok (.aload_n 0, 1) := by decide +kernel
theorem dX4_freePlace_9 : decode cX4_freePlace 9 = .ok (.getfield 9, 3) := by decide +kernel
theorem dX4_freePlace_12 : decode cX4_freePlace 12 = .ok (.iload_n 1, 1) := by decide +kernel
theorem dX4_freePlace_13 : decode cX4_freePlace 13 = .ok (.iaload, 1) := by decide +kernel
theorem dX4_freePlace_14 : decode cX4_freePlace 14 = .ok (.ifCond .ne 5, 3) := by decide +kernel
theorem dX4_freePlace_17 : decode cX4_freePlace 17 = .ok (.iload_n 1, 1) := by decide +kernel
theorem dX4_freePlace_18 : decode cX4_freePlace 18 = .ok (.ireturn, 1) := by decide +kernel
theorem dX4_freePlace_19 : decode cX4_freePlace 19 = .ok (.iinc 1 1, 3) := by decide +kernel
theorem dX4_freePlace_22 : decode cX4_freePlace 22 = .ok (.goto (-20), 3) := by decide +kernel
theorem dX4_freePlace_25 : decode cX4_freePlace 25 = .ok (.iconst (-1), 1) := by decide +kernel
theorem dX4_freePlace_26 : decode cX4_freePlace 26 = .ok (.ireturn, 1) := by decide +kernel
theorem dX4_start_0 : decode cX4_start 0 = .ok (.iload_n 2, 1) := by decide +kernel
theorem dX4_start_1 : decode cX4_start 1 = .ok (.iconst 5, 1) := by decide +kernel
theorem dX4_start_2 : decode cX4_start 2 = .ok (.if_icmp .le 7, 3) := by decide +kernel
theorem dX4_start_5 : decode cX4_start 5 = .ok (.iconst 4, 1) := by decide +kernel
theorem dX4_start_6 : decode cX4_start 6 = .ok (.goto 4, 3) := by decide +kernel
theorem dX4_start_9 : decode cX4_start 9 = .ok (.iconst 1, 1) := by decide +kernel
theorem dX4_start_10 : decode cX4_start 10 = .ok (.istore 4, 2) := by decide +kernel
theorem dX4_start_12 : decode cX4_start 12 = .ok (.aload_n 0, 1) := by decide +kernel
theorem dX4_start_13 : decode cX4_start 13 = .ok (.getfield 24, 3) := by decide +kernel
theorem dX4_start_16 : decode cX4_start 16 = .ok (.iload_n 1, 1) := by decide +kernel
theorem dX4_start_17 : decode cX4_start 17 = .ok (.iload_n 2, 1) := by decide +kernel
theorem dX4_start_18 : decode cX4_start 18 = .ok (.iastore, 1) := by decide +kernel
theorem dX4_start_19 : decode cX4_start 19 = .ok (.aload_n 0, 1) := by decide +kernel
theorem dX4_start_20 : decode cX4_start 20 = .ok (.getfield 34, 3) := by decide +kernel
theorem dX4_start_23 : decode cX4_start 23 = .ok (.iload_n 1, 1) := by decide +kernel
theorem dX4_start_24 : decode cX4_start 24 = .ok (.iconst 0, 1) := by decide +kernel
theorem dX4_start_25 : decode cX4_start 25 = .ok (.bastore, 1) := by decide +kernel
theorem dX4_start_26 : decode cX4_start 26 = .ok (.aload_n 0, 1) := by decide +kernel
theorem dX4_start_27 : decode cX4_start 27 = .ok (.getfield 27, 3) := by decide +kernel
theorem dX4_start_30 : decode cX4_start 30 = .ok (.iload_n 1, 1) := by decide +kernel
theorem dX4_start_31 : decode cX4_start 31 = .ok (.iload_n 3, 1) := by decide +kernel
theorem dX4_start_32 : decode cX4_start 32 = .ok (.aload_n 0, 1) := by decide +kernel
theorem dX4_start_33 : decode cX4_start 33 = .ok (.getfield 21, 3) := by decide +kernel
theorem dX4_start_36 : decode cX4_start 36 = .ok (.iload_n 1, 1) := by decide +kernel
theorem dX4_start_37 : decode cX4_start 37 = .ok (.iaload, 1) := by decide +kernel
theorem dX4_start_38 : decode cX4_start 38 = .ok (.iload 4, 2) := by decide +kernel
theorem dX4_start_40 : decode cX4_start 40 = .ok (.if_icmp .ge 8, 3) := by decide +kernel
theorem dX4_start_43 : decode cX4_start 43 = .ok (.iload 4, 2) := by decide +kernel
theorem dX4_start_45 : decode cX4_start 45 = .ok (.goto 9, 3) := by decide +kernel
theorem dX4_start_48 : decode cX4_start 48 = .ok (.aload_n 0, 1) := by decide +kernel
theorem dX4_start_49 : decode cX4_start 49 = .ok (.getfield 21, 3) := by decide +kernel
theorem dX4_start_52 : decode cX4_start 52 = .ok (.iload_n 1, 1) := by decide +kernel
theorem dX4_start_53 : decode cX4_start 53 = .ok (.iaload, 1) := by decide +kernel
theorem dX4_start_54 : decode cX4_start 54 = .ok (.iadd, 1) := by decide +kernel
theorem dX4_start_55 : decode cX4_start 55 = .ok (.iastore, 1) := by decide +kernel
theorem dX4_start_56 : decode cX4_start 56 = .ok (.return_, 1) := by decide +kernel
theorem dX4_nextDue_0 : decode cX4_nextDue 0 = .ok (.iconst (-1), 1) := by decide +kernel
theorem dX4_nextDue_1 : decode cX4_nextDue 1 = .ok (.istore_n 2, 1) := by decide +kernel
theorem dX4_nextDue_2 : decode cX4_nextDue 2 = .ok (.iconst 0, 1) := by decide +kernel
theorem dX4_nextDue_3 : decode cX4_nextDue 3 = .ok (.istore_n 3, 1) := by decide +kernel
theorem dX4_nextDue_4 : decode cX4_nextDue 4 = .ok (.iload_n 3, 1) := by decide +kernel
theorem dX4_nextDue_5 : decode cX4_nextDue 5 = .ok (.bipush 12, 2) := by decide +kernel
theorem dX4_nextDue_7 : decode cX4_nextDue 7 = .ok (.if_icmp .ge 65, 3) := by decide +kernel
theorem dX4_nextDue_10 : decode cX4_nextDue 10 = .ok (.aload_n 0, 1) := by decide +kernel
theorem dX4_nextDue_11 : decode cX4_nextDue 11 = .ok (.getfield 9, 3) := by decide +kernel
theorem dX4_nextDue_14 : decode cX4_nextDue 14 = .ok (.iload_n 3, 1) := by decide +kernel
theorem dX4_nextDue_15 : decode cX4_nextDue 15 = .ok (.iaload, 1) := by decide +kernel
theorem dX4_nextDue_16 : decode cX4_nextDue 16 = .ok (.ifCond .eq 26, 3) := by decide +kernel
theorem dX4_nextDue_19 : decode cX4_nextDue 19 = .ok (.aload_n 0, 1) := by decide +kernel
theorem dX4_nextDue_20 : decode cX4_nextDue 20 = .ok (.getfield 34, 3) := by decide +kernel
theorem dX4_nextDue_23 : decode cX4_nextDue 23 = .ok (.iload_n 3, 1) := by decide +kernel
theorem dX4_nextDue_24 : decode cX4_nextDue 24 = .ok (.baload, 1) := by decide +kernel
theorem dX4_nextDue_25 : decode cX4_nextDue 25 = .ok (.ifCond .ne 17, 3) := by decide +kernel
theorem dX4_nextDue_28 : decode cX4_nextDue 28 = .ok (.aload_n 0, 1) := by decide +kernel
theorem dX4_nextDue_29 : decode cX4_nextDue 29 = .ok (.getfield 27, 3) := by decide +kernel
theorem dX4_nextDue_32 : decode cX4_nextDue 32 = .ok (.iload_n 3, 1) := by decide +kernel
theorem dX4_nextDue_33 : decode cX4_nextDue 33 = .ok (.iaload, 1) := by decide +kernel
theorem dX4_nextDue_34 : decode cX4_nextDue 34 = .ok (.iload_n 1, 1) := by decide +kernel
theorem dX4_nextDue_35 : decode cX4_nextDue 35 = .ok (.if_icmp .gt 7, 3) := by decide +kernel
theorem dX4_nextDue_38 : decode cX4_nextDue 38 = .ok (.iconst 1, 1) := by decide +kernel
theorem dX4_nextDue_39 : decode cX4_nextDue 39 = .ok (.goto 4, 3) := by decide +kernel
theorem dX4_nextDue_42 : decode cX4_nextDue 42 = .ok (.iconst 0, 1) := by decide +kernel
theorem dX4_nextDue_43 : decode cX4_nextDue 43 = .ok (.istore 4, 2) := by decide +kernel
theorem dX4_nextDue_45 : decode cX4_nextDue 45 = .ok (.iload 4, 2) := by decide +kernel
theorem dX4_nextDue_47 : decode cX4_nextDue 47 = .ok (.ifCond .eq 19, 3) := by decide +kernel
theorem dX4_nextDue_50 : decode cX4_nextDue 50 = .ok (.iload_n 2, 1) := by decide +kernel
theorem dX4_nextDue_51 : decode cX4_nextDue 51 = .ok (.iconst (-1), 1) := by decide +kernel
theorem dX4_nextDue_52 : decode cX4_nextDue 52 = .ok (.if_icmp .eq 12, 3) := by decide +kernel
theorem dX4_nextDue_55 : decode cX4_nextDue 55 = .ok (.aload_n 0, 1) := by decide +kernel
theorem dX4_nextDue_56 : decode cX4_nextDue 56 = .ok (.iload_n 3, 1) := by decide +kernel
theorem dX4_nextDue_57 : decode cX4_nextDue 57 = .ok (.iload_n 2, 1) := by decide +kernel
theorem dX4_nextDue_58 : decode cX4_nextDue 58 = .ok (.invokevirtual 64, 3) := by decide +kernel
theorem dX4_nextDue_61 : decode cX4_nextDue 61 = .ok (.ifCond .eq 5, 3) := by decide +kernel
theorem dX4_nextDue_64 : decode cX4_nextDue 64 = .ok (.iload_n 3, 1) := by decide +kernel
theorem dX4_nextDue_65 : decode cX4_nextDue 65 = .ok (.istore_n 2, 1) := by decide +kernel
theorem dX4_nextDue_66 : decode cX4_nextDue 66 = .ok (.iinc 3 1, 3) := by decide +kernel
theorem dX4_nextDue_69 : decode cX4_nextDue 69 = .ok (.goto (-65), 3) := by decide +kernel
theorem dX4_nextDue_72 : decode cX4_nextDue 72 = .ok (.iload_n 2, 1) := by decide +kernel
theorem dX4_nextDue_73 : decode cX4_nextDue 73 = .ok (.ireturn, 1) := by decide +kernel
theorem dX4_isBefore_0 : decode cX4_isBefore 0 = .ok (.aload_n 0, 1) := by decide +kernel
theorem dX4_isBefore_1 : decode cX4_isBefore 1 = .ok (.getfield 27, 3) := by decide +kernel
theorem dX4_isBefore_4 : decode cX4_isBefore 4 = .ok (.iload_n 1, 1) := by decide +kernel
theorem dX4_isBefore_5 : decode cX4_isBefore 5 = .ok (.iaload, 1) := by decide +kernel
theorem dX4_isBefore_6 : decode cX4_isBefore 6 = .ok (.aload_n 0, 1) := by decide +kernel
theorem dX4_isBefore_7 : decode cX4_isBefore 7 = .ok (.getfield 27, 3) := by decide +kernel
theorem dX4_isBefore_10 : decode cX4_isBefore 10 = .ok (.iload_n 2, 1) := by decide +kernel
theorem dX4_isBefore_11 : decode cX4_isBefore 11 = .ok (.iaload, 1) := by decide +kernel
theorem dX4_isBefore_12 : decode cX4_isBefore 12 = .ok (.if_icmp .eq 24, 3) := by decide +kernel
theorem dX4_isBefore_15 : decode cX4_isBefore 15 = .ok (.aload_n 0, 1) := by decide +kernel
theorem dX4_isBefore_16 : decode cX4_isBefore 16 = .ok (.getfield 27, 3) := by decide +kernel
theorem dX4_isBefore_19 : decode cX4_isBefore 19 = .ok (.iload_n 1, 1) := by decide +kernel
theorem dX4_isBefore_20 : decode cX4_isBefore 20 = .ok (.iaload, 1) := by decide +kernel
theorem dX4_isBefore_21 : decode cX4_isBefore 21 = .ok (.aload_n 0, 1) := by decide +kernel
theorem dX4_isBefore_22 : decode cX4_isBefore 22 = .ok (.getfield 27, 3) := by decide +kernel
theorem dX4_isBefore_25 : decode cX4_isBefore 25 = .ok (.iload_n 2, 1) := by decide +kernel
theorem dX4_isBefore_26 : decode cX4_isBefore 26 = .ok (.iaload, 1) := by decide +kernel
theorem dX4_isBefore_27 : decode cX4_isBefore 27 = .ok (.if_icmp .ge 7, 3) := by decide +kernel
theorem dX4_isBefore_30 : decode cX4_isBefore 30 = .ok (.iconst 1, 1) := by decide +kernel
theorem dX4_isBefore_31 : decode cX4_isBefore 31 = .ok (.goto 4, 3) := by decide +kernel
theorem dX4_isBefore_34 : decode cX4_isBefore 34 = .ok (.iconst 0, 1) := by decide +kernel
theorem dX4_isBefore_35 : decode cX4_isBefore 35 = .ok (.ireturn, 1) := by decide +kernel
theorem dX4_isBefore_36 : decode cX4_isBefore 36 = .ok (.aload_n 0, 1) := by decide +kernel
theorem dX4_isBefore_37 : decode cX4_isBefore 37 = .ok (.getfield 9, 3) := by decide +kernel
theorem dX4_isBefore_40 : decode cX4_isBefore 40 = .ok (.iload_n 1, 1) := by decide +kernel
theorem dX4_isBefore_41 : decode cX4_isBefore 41 = .ok (.iaload, 1) := by decide +kernel
theorem dX4_isBefore_42 : decode cX4_isBefore 42 = .ok (.aload_n 0, 1) := by decide +kernel
theorem dX4_isBefore_43 : decode cX4_isBefore 43 = .ok (.getfield 9, 3) := by decide +kernel
theorem dX4_isBefore_46 : decode cX4_isBefore 46 = .ok (.iload_n 2, 1) := by decide +kernel
theorem dX4_isBefore_47 : decode cX4_isBefore 47 = .ok (.iaload, 1) := by decide +kernel
theorem dX4_isBefore_48 : decode cX4_isBefore 48 = .ok (.if_icmp .ge 7, 3) := by decide +kernel
theorem dX4_isBefore_51 : decode cX4_isBefore 51 = .ok (.iconst 1, 1) := by decide +kernel
theorem dX4_isBefore_52 : decode cX4_isBefore 52 = .ok (.goto 4, 3) := by decide +kernel
theorem dX4_isBefore_55 : decode cX4_isBefore 55 = .ok (.iconst 0, 1) := by decide +kernel
theorem dX4_isBefore_56 : decode cX4_isBefore 56 = .ok (.ireturn, 1) := by decide +kernel
