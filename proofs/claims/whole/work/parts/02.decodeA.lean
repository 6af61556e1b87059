theorem dX0_isUnder_0 : decode cX0_isUnder 0 = .ok (.iload_n 0, 1) := by decide +kernel
theorem dX0_isUnder_1 : decode cX0_isUnder 1 = .ok (.istore_n 2, 1) := by decide +kernel
theorem dX0_isUnder_2 : decode cX0_isUnder 2 = .ok (.iconst 0, 1) := by decide +kernel
theorem dX0_isUnder_3 : decode cX0_isUnder 3 = .ok (.istore_n 3, 1) := by decide +kernel
theorem dX0_isUnder_4 : decode cX0_isUnder 4 = .ok (.iload_n 3, 1) := by decide +kernel
theorem dX0_isUnder_5 : decode cX0_isUnder 5 = .ok (.bipush 6, 2) := by decide +kernel
theorem dX0_isUnder_7 : decode cX0_isUnder 7 = .ok (.if_icmp .ge 29, 3) := by decide +kernel
theorem dX0_isUnder_10 : decode cX0_isUnder 10 = .ok (.iload_n 2, 1) := by decide +kernel
theorem dX0_isUnder_11 : decode cX0_isUnder 11 = .ok (.invokestatic 9, 3) := by decide +kernel
theorem dX0_isUnder_14 : decode cX0_isUnder 14 = .ok (.ifCond .eq 22, 3) := by decide +kernel
theorem dX0_isUnder_17 : decode cX0_isUnder 17 = .ok (.iload_n 2, 1) := by decide +kernel
theorem dX0_isUnder_18 : decode cX0_isUnder 18 = .ok (.iload_n 1, 1) := by decide +kernel
theorem dX0_isUnder_19 : decode cX0_isUnder 19 = .ok (.if_icmp .ne 5, 3) := by decide +kernel
theorem dX0_isUnder_22 : decode cX0_isUnder 22 = .ok (.iconst 1, 1) := by decide +kernel
theorem dX0_isUnder_23 : decode cX0_isUnder 23 = .ok (.ireturn, 1) := by decide +kernel
theorem dX0_isUnder_24 : decode cX0_isUnder 24 = .ok (.getstatic 13, 3) := by decide +kernel
theorem dX0_isUnder_27 : decode cX0_isUnder 27 = .ok (.iload_n 2, 1) := by decide +kernel
theorem dX0_isUnder_28 : decode cX0_isUnder 28 = .ok (.iaload, 1) := by decide +kernel
theorem dX0_isUnder_29 : decode cX0_isUnder 29 = .ok (.istore_n 2, 1) := by decide +kernel
theorem dX0_isUnder_30 : decode cX0_isUnder 30 = .ok (.iinc 3 1, 3) := by decide +kernel
theorem dX0_isUnder_33 : decode cX0_isUnder 33 = .ok (.goto (-29), 3) := by decide +kernel
theorem dX0_isUnder_36 : decode cX0_isUnder 36 = .ok (.iconst 0, 1) := by decide +kernel
theorem dX0_isUnder_37 : decode cX0_isUnder 37 = .ok (.ireturn, 1) := by decide +kernel
theorem dX0_forth_0 : decode cX0_forth 0 = .ok (.iload_n 0, 1) := by decide +kernel
theorem dX0_forth_1 : decode cX0_forth 1 = .ok (.tableswitch 35 2 4 #[27, 29, 31], 27) := by decide +kernel
theorem dX0_forth_28 : decode cX0_forth 28 = .ok (.iconst 2, 1) := by decide +kernel
theorem dX0_forth_29 : decode cX0_forth 29 = .ok (.ireturn, 1) := by decide +kernel
theorem dX0_forth_30 : decode cX0_forth 30 = .ok (.iconst 0, 1) := by decide +kernel
theorem dX0_forth_31 : decode cX0_forth 31 = .ok (.ireturn, 1) := by decide +kernel
theorem dX0_forth_32 : decode cX0_forth 32 = .ok (.iconst 2, 1) := by decide +kernel
theorem dX0_forth_33 : decode cX0_forth 33 = .ok (.iload_n 1, 1) := by decide +kernel
theorem dX0_forth_34 : decode cX0_forth 34 = .ok (.iadd, 1) := by decide +kernel
theorem dX0_forth_35 : decode cX0_forth 35 = .ok (.ireturn, 1) := by decide +kernel
theorem dX0_forth_36 : decode cX0_forth 36 = .ok (.iconst 1, 1) := by decide +kernel
theorem dX0_forth_37 : decode cX0_forth 37 = .ok (.ireturn, 1) := by decide +kernel
theorem dX0_back_0 : decode cX0_back 0 = .ok (.iload_n 0, 1) := by decide +kernel
theorem dX0_back_1 : decode cX0_back 1 = .ok (.tableswitch 51 1 5 #[35, 37, 51, 37, 39], 35) := by decide +kernel
theorem dX0_back_36 : decode cX0_back 36 = .ok (.iconst 0, 1) := by decide +kernel
theorem dX0_back_37 : decode cX0_back 37 = .ok (.ireturn, 1) := by decide +kernel
theorem dX0_back_38 : decode cX0_back 38 = .ok (.iconst 2, 1) := by decide +kernel
theorem dX0_back_39 : decode cX0_back 39 = .ok (.ireturn, 1) := by decide +kernel
theorem dX0_back_40 : decode cX0_back 40 = .ok (.iload_n 1, 1) := by decide +kernel
theorem dX0_back_41 : decode cX0_back 41 = .ok (.iconst 2, 1) := by decide +kernel
theorem dX0_back_42 : decode cX0_back 42 = .ok (.irem, 1) := by decide +kernel
theorem dX0_back_43 : decode cX0_back 43 = .ok (.ifCond .ne 7, 3) := by decide +kernel
theorem dX0_back_46 : decode cX0_back 46 = .ok (.iconst 1, 1) := by decide +kernel
theorem dX0_back_47 : decode cX0_back 47 = .ok (.goto 4, 3) := by decide +kernel
theorem dX0_back_50 : decode cX0_back 50 = .ok (.iconst 0, 1) := by decide +kernel
theorem dX0_back_51 : decode cX0_back 51 = .ok (.ireturn, 1) := by decide +kernel
theorem dX0_back_52 : decode cX0_back 52 = .ok (.iconst 1, 1) := by decide +kernel
theorem dX0_back_53 : decode cX0_back 53 = .ok (.ireturn, 1) := by decide +kernel
theorem dX1_init_0 : decode cX1_init 0 = .ok (.aload_n 0, 1) := by decide +kernel
theorem dX1_init_1 : decode cX1_init 1 = .ok (.invokespecial 3, 3) := by decide +kernel
theorem dX1_init_4 : decode cX1_init 4 = .ok (.aload_n 0, 1) := by decide +kernel
theorem dX1_init_5 : decode cX1_init 5 = .ok (.bipush 72, 2) := by decide +kernel
theorem dX1_init_7 : decode cX1_init 7 = .ok (.newarray .int, 2) := by decide +kernel
theorem dX1_init_9 : decode cX1_init 9 = .ok (.putfield 9, 3) := by decide +kernel
theorem dX1_init_12 : decode cX1_init 12 = .ok (.aload_n 0, 1) := by decide +kernel
theorem dX1_init_13 : decode cX1_init 13 = .ok (.new 15, 3) := by decide +kernel
theorem dX1_init_16 : decode cX1_init 16 = .ok (.dup, 1) := by decide +kernel
theorem dX1_init_17 : decode cX1_init 17 = .ok (.invokespecial 17, 3) := by decide +kernel
theorem dX1_init_20 : decode cX1_init 20 = .ok (.putfield 18, 3) := by decide +kernel
theorem dX1_init_23 : decode cX1_init 23 = .ok (.aload_n 0, 1) := by decide +kernel
theorem dX1_init_24 : decode cX1_init 24 = .ok (.iconst 0, 1) := by decide +kernel
theorem dX1_init_25 : decode cX1_init 25 = .ok (.putfield 22, 3) := by decide +kernel
theorem dX1_init_28 : decode cX1_init 28 = .ok (.return_, 1) := by decide +kernel
theorem dX1_add_0 : decode cX1_add 0 = .ok (.aload_n 0, 1) := by decide +kernel
theorem dX1_add_1 : decode cX1_add 1 = .ok (.getfield 9, 3) := by decide +kernel
theorem dX1_add_4 : decode cX1_add 4 = .ok (.aload_n 0, 1) := by decide +kernel
theorem dX1_add_5 : decode cX1_add 5 = .ok (.getfield 22, 3) := by decide +kernel
theorem dX1_add_8 : decode cX1_add 8 = .ok (.iload_n 1, 1) := by decide +kernel
theorem dX1_add_9 : decode cX1_add 9 = .ok (.iastore, 1) := by decide +kernel
theorem dX1_add_10 : decode cX1_add 10 = .ok (.aload_n 0, 1) := by decide +kernel
theorem dX1_add_11 : decode cX1_add 11 = .ok (.dup, 1) := by decide +kernel
theorem dX1_add_12 : decode cX1_add 12 = .ok (.getfield 22, 3) := by decide +kernel
theorem dX1_add_15 : decode cX1_add 15 = .ok (.iconst 1, 1) := by decide +kernel
theorem dX1_add_16 : decode cX1_add 16 = .ok (.iadd, 1) := by decide +kernel
theorem dX1_add_17 : decode cX1_add 17 = .ok (.putfield 22, 3) := by decide +kernel
theorem dX1_add_20 : decode cX1_add 20 = .ok (.return_, 1) := by decide +kernel
theorem dX1_tell_0 : decode cX1_tell 0 = .ok (.aload_n 0, 1) := by decide +kernel
theorem dX1_tell_1 : decode cX1_tell 1 = .ok (.invokevirtual 26, 3) := by decide +kernel
theorem dX1_tell_4 : decode cX1_tell 4 = .ok (.istore_n 2, 1) := by decide +kernel
theorem dX1_tell_5 : decode cX1_tell 5 = .ok (.iload_n 2, 1) := by decide +kernel
theorem dX1_tell_6 : decode cX1_tell 6 = .ok (.iconst (-1), 1) := by decide +kernel
theorem dX1_tell_7 : decode cX1_tell 7 = .ok (.if_icmp .eq 9, 3) := by decide +kernel
theorem dX1_tell_10 : decode cX1_tell 10 = .ok (.sipush (-1000), 3) := by decide +kernel
theorem dX1_tell_13 : decode cX1_tell 13 = .ok (.iload_n 2, 1) := by decide +kernel
theorem dX1_tell_14 : decode cX1_tell 14 = .ok (.isub, 1) := by decide +kernel
theorem dX1_tell_15 : decode cX1_tell 15 = .ok (.ireturn, 1) := by decide +kernel
theorem dX1_tell_16 : decode cX1_tell 16 = .ok (.aload_n 0, 1) := by decide +kernel
theorem dX1_tell_17 : decode cX1_tell 17 = .ok (.getfield 18, 3) := by decide +kernel
theorem dX1_tell_20 : decode cX1_tell 20 = .ok (.aload_n 1, 1) := by decide +kernel
theorem dX1_tell_21 : decode cX1_tell 21 = .ok (.invokevirtual 30, 3) := by decide +kernel
theorem dX1_tell_24 : decode cX1_tell 24 = .ok (.iconst 0, 1) := by decide +kernel
theorem dX1_tell_25 : decode cX1_tell 25 = .ok (.istore_n 3, 1) := by decide +kernel
theorem dX1_tell_26 : decode cX1_tell 26 = .ok (.iconst 0, 1) := by decide +kernel
theorem dX1_tell_27 : decode cX1_tell 27 = .ok (.istore 4, 2) := by decide +kernel
theorem dX1_tell_29 : decode cX1_tell 29 = .ok (.iload 4, 2) := by decide +kernel
theorem dX1_tell_31 : decode cX1_tell 31 = .ok (.aload_n 0, 1) := by decide +kernel
theorem dX1_tell_32 : decode cX1_tell 32 = .ok (.getfield 22, 3) := by decide +kernel
theorem dX1_tell_35 : decode cX1_tell 35 = .ok (.if_icmp .ge 46, 3) := by decide +kernel
theorem dX1_tell_38 : decode cX1_tell 38 = .ok (.aload_n 0, 1) := by decide +kernel
theorem dX1_tell_39 : decode cX1_tell 39 = .ok (.iload 4, 2) := by decide +kernel
theorem dX1_tell_41 : decode cX1_tell 41 = .ok (.invokevirtual 34, 3) := by decide +kernel
theorem dX1_tell_44 : decode cX1_tell 44 = .ok (.ifCond .ne 10, 3) := by decide +kernel
theorem dX1_tell_47 : decode cX1_tell 47 = .ok (.sipush (-2000), 3) := by decide +kernel
theorem dX1_tell_50 : decode cX1_tell 50 = .ok (.iload 4, 2) := by decide +kernel
theorem dX1_tell_52 : decode cX1_tell 52 = .ok (.isub, 1) := by decide +kernel
theorem dX1_tell_53 : decode cX1_tell 53 = .ok (.ireturn, 1) := by decide +kernel
theorem dX1_tell_54 : decode cX1_tell 54 = .ok (.iinc 3 1, 3) := by decide +kernel
theorem dX1_tell_57 : decode cX1_tell 57 = .ok (.iload 4, 2) := by decide +kernel
theorem dX1_tell_59 : decode cX1_tell 59 = .ok (.iconst 2, 1) := by decide +kernel
theorem dX1_tell_60 : decode cX1_tell 60 = .ok (.iconst 0, 1) := by decide +kernel
theorem dX1_tell_61 : decode cX1_tell 61 = .ok (.aload_n 0, 1) := by decide +kernel
theorem dX1_tell_62 : decode cX1_tell 62 = .ok (.getfield 9, 3) := by decide +kernel
theorem dX1_tell_65 : decode cX1_tell 65 = .ok (.iload 4, 2) := by decide +kernel
theorem dX1_tell_67 : decode cX1_tell 67 = .ok (.iaload, 1) := by decide +kernel
theorem dX1_tell_68 : decode cX1_tell 68 = .ok (.invokestatic 38, 3) := by decide +kernel
theorem dX1_tell_71 : decode cX1_tell 71 = .ok (.invokestatic 42, 3) := by decide +kernel
theorem dX1_tell_74 : decode cX1_tell 74 = .ok (.iadd, 1) := by decide +kernel
theorem dX1_tell_75 : decode cX1_tell 75 = .ok (.iadd, 1) := by decide +kernel
theorem dX1_tell_76 : decode cX1_tell 76 = .ok (.istore 4, 2) := by decide +kernel
theorem dX1_tell_78 : decode cX1_tell 78 = .ok (.goto (-49), 3) := by decide +kernel
theorem dX1_tell_81 : decode cX1_tell 81 = .ok (.aload_n 1, 1) := by decide +kernel
theorem dX1_tell_82 : decode cX1_tell 82 = .ok (.aload_n 0, 1) := by decide +kernel
theorem dX1_tell_83 : decode cX1_tell 83 = .ok (.getfield 18, 3) := by decide +kernel
theorem dX1_tell_86 : decode cX1_tell 86 = .ok (.invokevirtual 30, 3) := by decide +kernel
theorem dX1_tell_89 : decode cX1_tell 89 = .ok (.iload_n 3, 1) := by decide +kernel
theorem dX1_tell_90 : decode cX1_tell 90 = .ok (.ireturn, 1) := by decide +kernel
theorem dX1_misspelt_0 : decode cX1_misspelt 0 = .ok (.iconst (-1), 1) := by decide +kernel
theorem dX1_misspelt_1 : decode cX1_misspelt 1 = .ok (.istore_n 1, 1) := by decide +kernel
theorem dX1_misspelt_2 : decode cX1_misspelt 2 = .ok (.iconst 0, 1) := by decide +kernel
theorem dX1_misspelt_3 : decode cX1_misspelt 3 = .ok (.istore_n 2, 1) := by decide +kernel
theorem dX1_misspelt_4 : decode cX1_misspelt 4 = .ok (.iload_n 2, 1) := by decide +kernel
theorem dX1_misspelt_5 : decode cX1_misspelt 5 = .ok (.aload_n 0, 1) := by decide +kernel
theorem dX1_misspelt_6 : decode cX1_misspelt 6 = .ok (.getfield 22, 3) := by decide +kernel
theorem dX1_misspelt_9 : decode cX1_misspelt 9 = .ok (.if_icmp .ge 66, 3) := by decide +kernel
theorem dX1_misspelt_12 : decode cX1_misspelt 12 = .ok (.aload_n 0, 1) := by decide +kernel
theorem dX1_misspelt_13 : decode cX1_misspelt 13 = .ok (.getfield 9, 3) := by decide +kernel
theorem dX1_misspelt_16 : decode cX1_misspelt 16 = .ok (.iload_n 2, 1) := by decide +kernel
theorem dX1_misspelt_17 : decode cX1_misspelt 17 = .ok (.iaload, 1) := by decide +kernel
theorem dX1_misspelt_18 : decode cX1_misspelt 18 = .ok (.istore_n 3, 1) := by decide +kernel
theorem dX1_misspelt_19 : decode cX1_misspelt 19 = .ok (.iload_n 1, 1) := by decide +kernel
theorem dX1_misspelt_20 : decode cX1_misspelt 20 = .ok (.iconst (-1), 1) := by decide +kernel
theorem dX1_misspelt_21 : decode cX1_misspelt 21 = .ok (.if_icmp .ne 14, 3) := by decide +kernel
theorem dX1_misspelt_24 : decode cX1_misspelt 24 = .ok (.iload_n 3, 1) := by decide +kernel
theorem dX1_misspelt_25 : decode cX1_misspelt 25 = .ok (.invokestatic 38, 3) := by decide +kernel
theorem dX1_misspelt_28 : decode cX1_misspelt 28 = .ok (.istore_n 1, 1) := by decide +kernel
theorem dX1_misspelt_29 : decode cX1_misspelt 29 = .ok (.iload_n 1, 1) := by decide +kernel
theorem dX1_misspelt_30 : decode cX1_misspelt 30 = .ok (.ifCond .ge 39, 3) := by decide +kernel
theorem dX1_misspelt_33 : decode cX1_misspelt 33 = .ok (.iload_n 2, 1) := by decide +kernel
theorem dX1_misspelt_34 : decode cX1_misspelt 34 = .ok (.ireturn, 1) := by decide +kernel
theorem dX1_misspelt_35 : decode cX1_misspelt 35 = .ok (.iload_n 1, 1) := by decide +kernel
theorem dX1_misspelt_36 : decode cX1_misspelt 36 = .ok (.ifCond .le 23, 3) := by decide +kernel
theorem dX1_misspelt_39 : decode cX1_misspelt 39 = .ok (.iload_n 3, 1) := by decide +kernel
theorem dX1_misspelt_40 : decode cX1_misspelt 40 = .ok (.bipush 48, 2) := by decide +kernel
theorem dX1_misspelt_42 : decode cX1_misspelt 42 = .ok (.if_icmp .lt 9, 3) := by decide +kernel
theorem dX1_misspelt_45 : decode cX1_misspelt 45 = .ok (.iload_n 3, 1) := by decide +kernel
theorem dX1_misspelt_46 : decode cX1_misspelt 46 = .ok (.bipush 57, 2) := by decide +kernel
theorem dX1_misspelt_48 : decode cX1_misspelt 48 = .ok (.if_icmp .le 5, 3) := by decide +kernel
theorem dX1_misspelt_51 : decode cX1_misspelt 51 = .ok (.iload_n 2, 1) := by decide +kernel
theorem dX1_misspelt_52 : decode cX1_misspelt 52 = .ok (.ireturn, 1) := by decide +kernel
theorem dX1_misspelt_53 : decode cX1_misspelt 53 = .ok (.iinc 1 (-1), 3) := by decide +kernel
theorem dX1_misspelt_56 : decode cX1_misspelt 56 = .ok (.goto 13, 3) := by decide +kernel
theorem dX1_misspelt_59 : decode cX1_misspelt 59 = .ok (.iload_n 3, 1) := by decide +kernel
theorem dX1_misspelt_60 : decode cX1_misspelt 60 = .ok (.bipush 59, 2) := by decide +kernel
theorem dX1_misspelt_62 : decode cX1_misspelt 62 = .ok (.if_icmp .eq 5, 3) := by decide +kernel
theorem dX1_misspelt_65 : decode cX1_misspelt 65 = .ok (.iload_n 2, 1) := by decide +kernel
theorem dX1_misspelt_66 : decode cX1_misspelt 66 = .ok (.ireturn, 1) := by decide +kernel
theorem dX1_misspelt_67 : decode cX1_misspelt 67 = .ok (.iconst (-1), 1) := by decide +kernel
theorem dX1_misspelt_68 : decode cX1_misspelt 68 = .ok (.istore_n 1, 1) := by decide +kernel
theorem dX1_misspelt_69 : decode cX1_misspelt 69 = .ok (.iinc 2 1, 3) := by decide +kernel
theorem dX1_misspelt_72 : decode cX1_misspelt 72 = .ok (.goto (-68), 3) := by decide +kernel
theorem dX1_misspelt_75 : decode cX1_misspelt 75 = .ok (.aload_n 0, 1) := by decide +kernel
theorem dX1_misspelt_76 : decode cX1_misspelt 76 = .ok (.getfield 22, 3) := by decide +kernel
theorem dX1_misspelt_79 : decode cX1_misspelt 79 = .ok (.ifCond .le 12, 3) := by decide +kernel
theorem dX1_misspelt_82 : decode cX1_misspelt 82 = .ok (.iload_n 1, 1) := by decide +kernel
theorem dX1_misspelt_83 : decode cX1_misspelt 83 = .ok (.iconst (-1), 1) := by decide +kernel
theorem dX1_misspelt_84 : decode cX1_misspelt 84 = .ok (.if_icmp .ne 7, 3) := by decide +kernel
theorem dX1_misspelt_87 : decode cX1_misspelt 87 = .ok (.iconst (-1), 1) := by decide +kernel
theorem dX1_misspelt_88 : decode cX1_misspelt 88 = .ok (.goto 7, 3) := by decide +kernel
theorem dX1_misspelt_91 : decode cX1_misspelt 91 = .ok (.aload_n 0, 1) := by decide +kernel
theorem dX1_misspelt_92 : decode cX1_misspelt 92 = .ok (.getfield 22, 3) := by decide +kernel
theorem dX1_misspelt_95 : decode cX1_misspelt 95 = .ok (.ireturn, 1) := by decide +kernel
theorem dX1_digitsBehind_0 : decode cX1_digitsBehind 0 = .ok (.iload_n 0, 1) := by decide +kernel
theorem dX1_digitsBehind_1 : decode cX1_digitsBehind 1 = .ok (.lookupswitch 49 #[(102, 45), (108, 47), (110, 43), (118, 47)], 43) := by decide +kernel
theorem dX1_digitsBehind_44 : decode cX1_digitsBehind 44 = .ok (.iconst 1, 1) := by decide +kernel
theorem dX1_digitsBehind_45 : decode cX1_digitsBehind 45 = .ok (.ireturn, 1) := by decide +kernel
theorem dX1_digitsBehind_46 : decode cX1_digitsBehind 46 = .ok (.iconst 2, 1) := by decide +kernel
theorem dX1_digitsBehind_47 : decode cX1_digitsBehind 47 = .ok (.ireturn, 1) := by decide +kernel
theorem dX1_digitsBehind_48 : decode cX1_digitsBehind 48 = .ok (.iconst 3, 1) := by decide +kernel
theorem dX1_digitsBehind_49 : decode cX1_digitsBehind 49 = .ok (.ireturn, 1) := by decide +kernel
theorem dX1_digitsBehind_50 : decode cX1_digitsBehind 50 = .ok (.iconst (-1), 1) := by decide +kernel
theorem dX1_digitsBehind_51 : decode cX1_digitsBehind 51 = .ok (.ireturn, 1) := by decide +kernel
theorem dX1_digit_0 : decode cX1_digit 0 = .ok (.iload_n 1, 1) := by decide +kernel
theorem dX1_digit_1 : decode cX1_digit 1 = .ok (.aload_n 0, 1) := by decide +kernel
theorem dX1_digit_2 : decode cX1_digit 2 = .ok (.getfield 22, 3) := by decide +kernel
theorem dX1_digit_5 : decode cX1_digit 5 = .ok (.if_icmp .ge 15, 3) := by decide +kernel
theorem dX1_digit_8 : decode cX1_digit 8 = .ok (.aload_n 0, 1) := by decide +kernel
theorem dX1_digit_9 : decode cX1_digit 9 = .ok (.getfield 9, 3) := by decide +kernel
theorem dX1_digit_12 : decode cX1_digit 12 = .ok (.iload_n 1, 1) := by decide +kernel
theorem dX1_digit_13 : decode cX1_digit 13 = .ok (.iaload, 1) := by decide +kernel
theorem dX1_digit_14 : decode cX1_digit 14 = .ok (.bipush 48, 2) := by decide +kernel
theorem dX1_digit_16 : decode cX1_digit 16 = .ok (.isub, 1) := by decide +kernel
theorem dX1_digit_17 : decode cX1_digit 17 = .ok (.goto 4, 3) := by decide +kernel
theorem dX1_digit_20 : decode cX1_digit 20 = .ok (.iconst 0, 1) := by decide +kernel
theorem dX1_digit_21 : decode cX1_digit 21 = .ok (.ireturn, 1) := by decide +kernel
theorem dX1_comes_0 : decode cX1_comes 0 = .ok (.aload_n 0, 1) := by decide +kernel
theorem dX1_comes_1 : decode cX1_comes 1 = .ok (.iload_n 1, 1) := by decide +kernel
theorem dX1_comes_2 : decode cX1_comes 2 = .ok (.iconst 1, 1) := by decide +kernel
theorem dX1_comes_3 : decode cX1_comes 3 = .ok (.iadd, 1) := by decide +kernel
theorem dX1_comes_4 : decode cX1_comes 4 = .ok (.invokevirtual 48, 3) := by decide +kernel
theorem dX1_comes_7 : decode cX1_comes 7 = .ok (.istore_n 2, 1) := by decide +kernel
theorem dX1_comes_8 : decode cX1_comes 8 = .ok (.aload_n 0, 1) := by decide +kernel
theorem dX1_comes_9 : decode cX1_comes 9 = .ok (.iload_n 1, 1) := by decide +kernel
theorem dX1_comes_10 : decode cX1_comes 10 = .ok (.iconst 2, 1) := by decide +kernel
theorem dX1_comes_11 : decode cX1_comes 11 = .ok (.iadd, 1) := by decide +kernel
theorem dX1_comes_12 : decode cX1_comes 12 = .ok (.invokevirtual 48, 3) := by decide +kernel
theorem dX1_comes_15 : decode cX1_comes 15 = .ok (.istore_n 3, 1) := by decide +kernel
theorem dX1_comes_16 : decode cX1_comes 16 = .ok (.aload_n 0, 1) := by decide +kernel
theorem dX1_comes_17 : decode cX1_comes 17 = .ok (.iload_n 1, 1) := by decide +kernel
theorem dX1_comes_18 : decode cX1_comes 18 = .ok (.iconst 3, 1) := by decide +kernel
theorem dX1_comes_19 : decode cX1_comes 19 = .ok (.iadd, 1) := by decide +kernel
theorem dX1_comes_20 : decode cX1_comes 20 = .ok (.invokevirtual 48, 3) := by decide +kernel
theorem dX1_comes_23 : decode cX1_comes 23 = .ok (.istore 4, 2) := by decide +kernel
theorem dX1_comes_25 : decode cX1_comes 25 = .ok (.aload_n 0, 1) := by decide +kernel
theorem dX1_comes_26 : decode cX1_comes 26 = .ok (.getfield 9, 3) := by decide +kernel
theorem dX1_comes_29 : decode cX1_comes 29 = .ok (.iload_n 1, 1) := by decide +kernel
theorem dX1_comes_30 : decode cX1_comes 30 = .ok (.iaload, 1) := by decide +kernel
theorem dX1_comes_31 : decode cX1_comes 31 = .ok (.lookupswitch 55 #[(102, 48), (108, 39), (110, 33)], 33) := by decide +kernel
theorem dX1_comes_64 : decode cX1_comes 64 = .ok (.aload_n 0, 1) := by decide +kernel
theorem dX1_comes_65 : decode cX1_comes 65 = .ok (.iload_n 2, 1) := by decide +kernel
theorem dX1_comes_66 : decode cX1_comes 66 = .ok (.invokevirtual 51, 3) := by decide +kernel
theorem dX1_comes_69 : decode cX1_comes 69 = .ok (.ireturn, 1) := by decide +kernel
theorem dX1_comes_70 : decode cX1_comes 70 = .ok (.aload_n 0, 1) := by decide +kernel
theorem dX1_comes_71 : decode cX1_comes 71 = .ok (.iload_n 2, 1) := by decide +kernel
theorem dX1_comes_72 : decode cX1_comes 72 = .ok (.iload_n 3, 1) := by decide +kernel
theorem dX1_comes_73 : decode cX1_comes 73 = .ok (.iload 4, 2) := by decide +kernel
theorem dX1_comes_75 : decode cX1_comes 75 = .ok (.invokevirtual 54, 3) := by decide +kernel
theorem dX1_comes_78 : decode cX1_comes 78 = .ok (.ireturn, 1) := by decide +kernel
theorem dX1_comes_79 : decode cX1_comes 79 = .ok (.aload_n 0, 1) := by decide +kernel
theorem dX1_comes_80 : decode cX1_comes 80 = .ok (.iload_n 2, 1) := by decide +kernel
theorem dX1_comes_81 : decode cX1_comes 81 = .ok (.iload_n 3, 1) := by decide +kernel
theorem dX1_comes_82 : decode cX1_comes 82 = .ok (.invokevirtual 58, 3) := by decide +kernel
theorem dX1_comes_85 : decode cX1_comes 85 = .ok (.ireturn, 1) := by decide +kernel
theorem dX1_comes_86 : decode cX1_comes 86 = .ok (.aload_n 0, 1) := by decide +kernel
theorem dX1_comes_87 : decode cX1_comes 87 = .ok (.iload_n 2, 1) := by decide +kernel
theorem dX1_comes_88 : decode cX1_comes 88 = .ok (.bipush 10, 2) := by decide +kernel
theorem dX1_comes_90 : decode cX1_comes 90 = .ok (.iload_n 3, 1) := by decide +kernel
theorem dX1_comes_91 : decode cX1_comes 91 = .ok (.imul, 1) := by decide +kernel
theorem dX1_comes_92 : decode cX1_comes 92 = .ok (.iload 4, 2) := by decide +kernel
theorem dX1_comes_94 : decode cX1_comes 94 = .ok (.iadd, 1) := by decide +kernel
theorem dX1_comes_95 : decode cX1_comes 95 = .ok (.invokevirtual 62, 3) := by decide +kernel
theorem dX1_comes_98 : decode cX1_comes 98 = .ok (.ireturn, 1) := by decide +kernel
theorem dX1_comesPoints_0 : decode cX1_comesPoints 0 = .ok (.iload_n 1, 1) := by decide +kernel
theorem dX1_comesPoints_1 : decode cX1_comesPoints 1 = .ok (.iconst 1, 1) := by decide +kernel
theorem dX1_comesPoints_2 : decode cX1_comesPoints 2 = .ok (.if_icmp .lt 9, 3) := by decide +kernel
theorem dX1_comesPoints_5 : decode cX1_comesPoints 5 = .ok (.iload_n 1, 1) := by decide +kernel
theorem dX1_comesPoints_6 : decode cX1_comesPoints 6 = .ok (.bipush 7, 2) := by decide +kernel
theorem dX1_comesPoints_8 : decode cX1_comesPoints 8 = .ok (.if_icmp .le 5, 3) := by decide +kernel
theorem dX1_comesPoints_11 : decode cX1_comesPoints 11 = .ok (.iconst 0, 1) := by decide +kernel
theorem dX1_comesPoints_12 : decode cX1_comesPoints 12 = .ok (.ireturn, 1) := by decide +kernel
theorem dX1_comesPoints_13 : decode cX1_comesPoints 13 = .ok (.aload_n 0, 1) := by decide +kernel
theorem dX1_comesPoints_14 : decode cX1_comesPoints 14 = .ok (.getfield 18, 3) := by decide +kernel
theorem dX1_comesPoints_17 : decode cX1_comesPoints 17 = .ok (.iload_n 1, 1) := by decide +kernel
theorem dX1_comesPoints_18 : decode cX1_comesPoints 18 = .ok (.invokevirtual 65, 3) := by decide +kernel
theorem dX1_comesPoints_21 : decode cX1_comesPoints 21 = .ok (.iconst 1, 1) := by decide +kernel
theorem dX1_comesPoints_22 : decode cX1_comesPoints 22 = .ok (.ireturn, 1) := by decide +kernel
theorem dX1_comesLine_0 : decode cX1_comesLine 0 = .ok (.iload_n 1, 1) := by decide +kernel
theorem dX1_comesLine_1 : decode cX1_comesLine 1 = .ok (.invokestatic 69, 3) := by decide +kernel
theorem dX1_comesLine_4 : decode cX1_comesLine 4 = .ok (.ifCond .eq 37, 3) := by decide +kernel
theorem dX1_comesLine_7 : decode cX1_comesLine 7 = .ok (.aload_n 0, 1) := by decide +kernel
theorem dX1_comesLine_8 : decode cX1_comesLine 8 = .ok (.getfield 18, 3) := by decide +kernel
theorem dX1_comesLine_11 : decode cX1_comesLine 11 = .ok (.iload_n 2, 1) := by decide +kernel
theorem dX1_comesLine_12 : decode cX1_comesLine 12 = .ok (.invokevirtual 72, 3) := by decide +kernel
theorem dX1_comesLine_15 : decode cX1_comesLine 15 = .ok (.ifCond .eq 26, 3) := by decide +kernel
theorem dX1_comesLine_18 : decode cX1_comesLine 18 = .ok (.aload_n 0, 1) := by decide +kernel
theorem dX1_comesLine_19 : decode cX1_comesLine 19 = .ok (.getfield 18, 3) := by decide +kernel
theorem dX1_comesLine_22 : decode cX1_comesLine 22 = .ok (.iload_n 3, 1) := by decide +kernel
theorem dX1_comesLine_23 : decode cX1_comesLine 23 = .ok (.invokevirtual 72, 3) := by decide +kernel
theorem dX1_comesLine_26 : decode cX1_comesLine 26 = .ok (.ifCond .eq 15, 3) := by decide +kernel
theorem dX1_comesLine_29 : decode cX1_comesLine 29 = .ok (.aload_n 0, 1) := by decide +kernel
theorem dX1_comesLine_30 : decode cX1_comesLine 30 = .ok (.getfield 18, 3) := by decide +kernel
theorem dX1_comesLine_33 : decode cX1_comesLine 33 = .ok (.getfield 75, 3) := by decide +kernel
theorem dX1_comesLine_36 : decode cX1_comesLine 36 = .ok (.bipush 8, 2) := by decide +kernel
theorem dX1_comesLine_38 : decode cX1_comesLine 38 = .ok (.if_icmp .lt 5, 3) := by decide +kernel
theorem dX1_comesLine_41 : decode cX1_comesLine 41 = .ok (.iconst 0, 1) := by decide +kernel
theorem dX1_comesLine_42 : decode cX1_comesLine 42 = .ok (.ireturn, 1) := by decide +kernel
theorem dX1_comesLine_43 : decode cX1_comesLine 43 = .ok (.aload_n 0, 1) := by decide +kernel
theorem dX1_comesLine_44 : decode cX1_comesLine 44 = .ok (.getfield 18, 3) := by decide +kernel
theorem dX1_comesLine_47 : decode cX1_comesLine 47 = .ok (.iload_n 1, 1) := by decide +kernel
theorem dX1_comesLine_48 : decode cX1_comesLine 48 = .ok (.iload_n 2, 1) := by decide +kernel
theorem dX1_comesLine_49 : decode cX1_comesLine 49 = .ok (.iload_n 3, 1) := by decide +kernel
theorem dX1_comesLine_50 : decode cX1_comesLine 50 = .ok (.invokevirtual 78, 3) := by decide +kernel
theorem dX1_comesLine_53 : decode cX1_comesLine 53 = .ok (.iconst 1, 1) := by decide +kernel
theorem dX1_comesLine_54 : decode cX1_comesLine 54 = .ok (.ireturn, 1) := by decide +kernel
theorem dX1_comesFigure_0 : decode cX1_comesFigure 0 = .ok (.aload_n 0, 1) := by decide +kernel
theorem dX1_comesFigure_1 : decode cX1_comesFigure 1 = .ok (.getfield 18, 3) := by decide +kernel
theorem dX1_comesFigure_4 : decode cX1_comesFigure 4 = .ok (.iload_n 1, 1) := by decide +kernel
theorem dX1_comesFigure_5 : decode cX1_comesFigure 5 = .ok (.invokevirtual 82, 3) := by decide +kernel
theorem dX1_comesFigure_8 : decode cX1_comesFigure 8 = .ok (.ifCond .ne 5, 3) := by decide +kernel
theorem dX1_comesFigure_11 : decode cX1_comesFigure 11 = .ok (.iconst 0, 1) := by decide +kernel
theorem dX1_comesFigure_12 : decode cX1_comesFigure 12 = .ok (.ireturn, 1) := by decide +kernel
theorem dX1_comesFigure_13 : decode cX1_comesFigure 13 = .ok (.aload_n 0, 1) := by decide +kernel
theorem dX1_comesFigure_14 : decode cX1_comesFigure 14 = .ok (.getfield 18, 3) := by decide +kernel
theorem dX1_comesFigure_17 : decode cX1_comesFigure 17 = .ok (.getfield 85, 3) := by decide +kernel
theorem dX1_comesFigure_20 : decode cX1_comesFigure 20 = .ok (.iload_n 1, 1) := by decide +kernel
theorem dX1_comesFigure_21 : decode cX1_comesFigure 21 = .ok (.iload_n 2, 1) := by decide +kernel
theorem dX1_comesFigure_22 : decode cX1_comesFigure 22 = .ok (.iastore, 1) := by decide +kernel
theorem dX1_comesFigure_23 : decode cX1_comesFigure 23 = .ok (.iconst 1, 1) := by decide +kernel
theorem dX1_comesFigure_24 : decode cX1_comesFigure 24 = .ok (.ireturn, 1) := by decide +kernel
theorem dX1_comesLabel_0 : decode cX1_comesLabel 0 = .ok (.aload_n 0, 1) := by decide +kernel
theorem dX1_comesLabel_1 : decode cX1_comesLabel 1 = .ok (.getfield 18, 3) := by decide +kernel
theorem dX1_comesLabel_4 : decode cX1_comesLabel 4 = .ok (.iload_n 1, 1) := by decide +kernel
theorem dX1_comesLabel_5 : decode cX1_comesLabel 5 = .ok (.invokevirtual 82, 3) := by decide +kernel
theorem dX1_comesLabel_8 : decode cX1_comesLabel 8 = .ok (.ifCond .ne 5, 3) := by decide +kernel
theorem dX1_comesLabel_11 : decode cX1_comesLabel 11 = .ok (.iconst 0, 1) := by decide +kernel
theorem dX1_comesLabel_12 : decode cX1_comesLabel 12 = .ok (.ireturn, 1) := by decide +kernel
theorem dX1_comesLabel_13 : decode cX1_comesLabel 13 = .ok (.aload_n 0, 1) := by decide +kernel
theorem dX1_comesLabel_14 : decode cX1_comesLabel 14 = .ok (.getfield 18, 3) := by decide +kernel
theorem dX1_comesLabel_17 : decode cX1_comesLabel 17 = .ok (.getfield 88, 3) := by decide +kernel
theorem dX1_comesLabel_20 : decode cX1_comesLabel 20 = .ok (.iload_n 1, 1) := by decide +kernel
theorem dX1_comesLabel_21 : decode cX1_comesLabel 21 = .ok (.iload_n 2, 1) := by decide +kernel
theorem dX1_comesLabel_22 : decode cX1_comesLabel 22 = .ok (.iastore, 1) := by decide +kernel
theorem dX1_comesLabel_23 : decode cX1_comesLabel 23 = .ok (.iconst 1, 1) := by decide +kernel
theorem dX1_comesLabel_24 : decode cX1_comesLabel 24 = .ok (.ireturn, 1) := by decide +kernel
theorem dX2_init_0 : decode cX2_init 0 = .ok (.aload_n 0, 1) := by decide +kernel
theorem dX2_init_1 : decode cX2_init 1 = .ok (.invokespecial 3, 3) := by decide +kernel
theorem dX2_init_4 : decode cX2_init 4 = .ok (.aload_n 0, 1) := by decide +kernel
theorem dX2_init_5 : decode cX2_init 5 = .ok (.iconst 3, 1) := by decide +kernel
theorem dX2_init_6 : decode cX2_init 6 = .ok (.bipush 40, 2) := by decide +kernel
theorem dX2_init_8 : decode cX2_init 8 = .ok (.multianewarray 9 2, 4) := by decide +kernel
theorem dX2_init_12 : decode cX2_init 12 = .ok (.putfield 11, 3) := by decide +kernel
theorem dX2_init_15 : decode cX2_init 15 = .ok (.aload_n 0, 1) := by decide +kernel
theorem dX2_init_16 : decode cX2_init 16 = .ok (.iconst 3, 1) := by decide +kernel
theorem dX2_init_17 : decode cX2_init 17 = .ok (.newarray .int, 2) := by decide +kernel
theorem dX2_init_19 : decode cX2_init 19 = .ok (.putfield 16, 3) := by decide +kernel
theorem dX2_init_22 : decode cX2_init 22 = .ok (.iconst 0, 1) := by decide +kernel
theorem dX2_init_23 : decode cX2_init 23 = .ok (.istore_n 1, 1) := by decide +kernel
theorem dX2_init_24 : decode cX2_init 24 = .ok (.iload_n 1, 1) := by decide +kernel
theorem dX2_init_25 : decode cX2_init 25 = .ok (.iconst 3, 1) := by decide +kernel
theorem dX2_init_26 : decode cX2_init 26 = .ok (.if_icmp .ge 16, 3) := by decide +kernel
theorem dX2_init_29 : decode cX2_init 29 = .ok (.aload_n 0, 1) := by decide +kernel
theorem dX2_init_30 : decode cX2_init 30 = .ok (.getfield 16, 3) := by decide +kernel
theorem dX2_init_33 : decode cX2_init 33 = .ok (.iload_n 1, 1) := by decide +kernel
theorem dX2_init_34 : decode cX2_init 34 = .ok (.iconst (-1), 1) := by decide +kernel
theorem dX2_init_35 : decode cX2_init 35 = .ok (.iastore, 1) := by decide +kernel
theorem dX2_init_36 : decode cX2_init 36 = .ok (.iinc 1 1, 3) := by decide +kernel
theorem dX2_init_39 : decode cX2_init 39 = .ok (.goto (-15), 3) := by decide +kernel
theorem dX2_init_42 : decode cX2_init 42 = .ok (.return_, 1) := by decide +kernel
theorem dX2_isMissing_0 : decode cX2_isMissing 0 = .ok (.aload_n 0, 1) := by decide +kernel
theorem dX2_isMissing_1 : decode cX2_isMissing 1 = .ok (.getfield 16, 3) := by decide +kernel
theorem dX2_isMissing_4 : decode cX2_isMissing 4 = .ok (.iload_n 1, 1) := by decide +kernel
theorem dX2_isMissing_5 : decode cX2_isMissing 5 = .ok (.iaload, 1) := by decide +kernel
theorem dX2_isMissing_6 : decode cX2_isMissing 6 = .ok (.ifCond .ge 7, 3) := by decide +kernel
theorem dX2_isMissing_9 : decode cX2_isMissing 9 = .ok (.iconst 1, 1) := by decide +kernel
theorem dX2_isMissing_10 : decode cX2_isMissing 10 = .ok (.goto 4, 3) := by decide +kernel
theorem dX2_isMissing_13 : decode cX2_isMissing 13 = .ok (.iconst 0, 1) := by decide +kernel
theorem dX2_isMissing_14 : decode cX2_isMissing 14 = .ok (.ireturn, 1) := by decide +kernel
theorem dX2_renew_0 : decode cX2_renew 0 = .ok (.iconst 0, 1) := by decide +kernel
theorem dX2_renew_1 : decode cX2_renew 1 = .ok (.istore_n 3, 1) := by decide +kernel
theorem dX2_renew_2 : decode cX2_renew 2 = .ok (.iload_n 3, 1) := by decide +kernel
theorem dX2_renew_3 : decode cX2_renew 3 = .ok (.iload_n 2, 1) := by decide +kernel
theorem dX2_renew_4 : decode cX2_renew 4 = .ok (.if_icmp .ge 18, 3) := by decide +kernel
theorem dX2_renew_7 : decode cX2_renew 7 = .ok (.aload_n 0, 1) := by decide +kernel
theorem dX2_renew_8 : decode cX2_renew 8 = .ok (.getfield 11, 3) := by decide +kernel
theorem dX2_renew_11 : decode cX2_renew 11 = .ok (.iload_n 1, 1) := by decide +kernel
theorem dX2_renew_12 : decode cX2_renew 12 = .ok (.aaload, 1) := by decide +kernel
theorem dX2_renew_13 : decode cX2_renew 13 = .ok (.iload_n 3, 1) := by decide +kernel
theorem dX2_renew_14 : decode cX2_renew 14 = .ok (.iconst 0, 1) := by decide +kernel
theorem dX2_renew_15 : decode cX2_renew 15 = .ok (.iastore, 1) := by decide +kernel
theorem dX2_renew_16 : decode cX2_renew 16 = .ok (.iinc 3 1, 3) := by decide +kernel
theorem dX2_renew_19 : decode cX2_renew 19 = .ok (.goto (-17), 3) := by decide +kernel
theorem dX2_renew_22 : decode cX2_renew 22 = .ok (.aload_n 0, 1) := by decide +kernel
theorem dX2_renew_23 : decode cX2_renew 23 = .ok (.getfield 16, 3) := by decide +kernel
theorem dX2_renew_26 : decode cX2_renew 26 = .ok (.iload_n 1, 1) := by decide +kernel
theorem dX2_renew_27 : decode cX2_renew 27 = .ok (.iload_n 2, 1) := by decide +kernel
theorem dX2_renew_28 : decode cX2_renew 28 = .ok (.iastore, 1) := by decide +kernel
theorem dX2_renew_29 : decode cX2_renew 29 = .ok (.return_, 1) := by decide +kernel
theorem dX2_allWithin_0 : decode cX2_allWithin 0 = .ok (.iconst 0, 1) := by decide +kernel
theorem dX2_allWithin_1 : decode cX2_allWithin 1 = .ok (.istore 4, 2) := by decide +kernel
theorem dX2_allWithin_3 : decode cX2_allWithin 3 = .ok (.iload 4, 2) := by decide +kernel
theorem dX2_allWithin_5 : decode cX2_allWithin 5 = .ok (.aload_n 0, 1) := by decide +kernel
theorem dX2_allWithin_6 : decode cX2_allWithin 6 = .ok (.getfield 16, 3) := by decide +kernel
theorem dX2_allWithin_9 : decode cX2_allWithin 9 = .ok (.iload_n 1, 1) := by decide +kernel
theorem dX2_allWithin_10 : decode cX2_allWithin 10 = .ok (.iaload, 1) := by decide +kernel
theorem dX2_allWithin_11 : decode cX2_allWithin 11 = .ok (.if_icmp .ge 37, 3) := by decide +kernel
theorem dX2_allWithin_14 : decode cX2_allWithin 14 = .ok (.aload_n 0, 1) := by decide +kernel
theorem dX2_allWithin_15 : decode cX2_allWithin 15 = .ok (.getfield 11, 3) := by decide +kernel
theorem dX2_allWithin_18 : decode cX2_allWithin 18 = .ok (.iload_n 1, 1) := by decide +kernel
theorem dX2_allWithin_19 : decode cX2_allWithin 19 = .ok (.aaload, 1) := by decide +kernel
theorem dX2_allWithin_20 : decode cX2_allWithin 20 = .ok (.iload 4, 2) := by decide +kernel
theorem dX2_allWithin_22 : decode cX2_allWithin 22 = .ok (.iaload, 1) := by decide +kernel
theorem dX2_allWithin_23 : decode cX2_allWithin 23 = .ok (.iload_n 2, 1) := by decide +kernel
theorem dX2_allWithin_24 : decode cX2_allWithin 24 = .ok (.if_icmp .lt 16, 3) := by decide +kernel
theorem dX2_allWithin_27 : decode cX2_allWithin 27 = .ok (.aload_n 0, 1) := by decide +kernel
theorem dX2_allWithin_28 : decode cX2_allWithin 28 = .ok (.getfield 11, 3) := by decide +kernel
theorem dX2_allWithin_31 : decode cX2_allWithin 31 = .ok (.iload_n 1, 1) := by decide +kernel
theorem dX2_allWithin_32 : decode cX2_allWithin 32 = .ok (.aaload, 1) := by decide +kernel
theorem dX2_allWithin_33 : decode cX2_allWithin 33 = .ok (.iload 4, 2) := by decide +kernel
theorem dX2_allWithin_35 : decode cX2_allWithin 35 = .ok (.iaload, 1) := by decide +kernel
theorem dX2_allWithin_36 : decode cX2_allWithin 36 = .ok (.iload_n 3, 1) := by decide +kernel
theorem dX2_allWithin_37 : decode cX2_allWithin 37 = .ok (.if_icmp .le 5, 3) := by decide +kernel
theorem dX2_allWithin_40 : decode cX2_allWithin 40 = .ok (.iconst 0, 1) := by decide +kernel
theorem dX2_allWithin_41 : decode cX2_allWithin 41 = .ok (.ireturn, 1) := by decide +kernel
theorem dX2_allWithin_42 : decode cX2_allWithin 42 = .ok (.iinc 4 1, 3) := by decide +kernel
theorem dX2_allWithin_45 : decode cX2_allWithin 45 = .ok (.goto (-42), 3) := by decide +kernel
theorem dX2_allWithin_48 : decode cX2_allWithin 48 = .ok (.iconst 1, 1) := by decide +kernel
theorem dX2_allWithin_49 : decode cX2_allWithin 49 = .ok (.ireturn, 1) := by decide +kernel
theorem dX3_init_0 : decode cX3_init 0 = .ok (.aload_n 0, 1) := by decide +kernel
theorem dX3_init_1 : decode cX3_init 1 = .ok (.invokespecial 3, 3) := by decide +kernel
theorem dX3_init_4 : decode cX3_init 4 = .ok (.aload_n 0, 1) := by decide +kernel
theorem dX3_init_5 : decode cX3_init 5 = .ok (.iconst 4, 1) := by decide +kernel
theorem dX3_init_6 : decode cX3_init 6 = .ok (.putfield 9, 3) := by decide +kernel
theorem dX3_init_9 : decode cX3_init 9 = .ok (.aload_n 0, 1) := by decide +kernel
theorem dX3_init_10 : decode cX3_init 10 = .ok (.iconst 0, 1) := by decide +kernel
theorem dX3_init_11 : decode cX3_init 11 = .ok (.putfield 15, 3) := by decide +kernel
theorem dX3_init_14 : decode cX3_init 14 = .ok (.aload_n 0, 1) := by decide +kernel
theorem dX3_init_15 : decode cX3_init 15 = .ok (.bipush 8, 2) := by decide +kernel
theorem dX3_init_17 : decode cX3_init 17 = .ok (.newarray .int, 2) := by decide +kernel
theorem dX3_init_19 : decode cX3_init 19 = .ok (.putfield 18, 3) := by decide +kernel
theorem dX3_init_22 : decode cX3_init 22 = .ok (.aload_n 0, 1) := by decide +kernel
theorem dX3_init_23 : decode cX3_init 23 = .ok (.bipush 8, 2) := by decide +kernel
theorem dX3_init_25 : decode cX3_init 25 = .ok (.newarray .int, 2) := by decide +kernel
theorem dX3_init_27 : decode cX3_init 27 = .ok (.putfield 22, 3) := by decide +kernel
theorem dX3_init_30 : decode cX3_init 30 = .ok (.aload_n 0, 1) := by decide +kernel
theorem dX3_init_31 : decode cX3_init 31 = .ok (.bipush 8, 2) := by decide +kernel
theorem dX3_init_33 : decode cX3_init 33 = .ok (.newarray .int, 2) := by decide +kernel
theorem dX3_init_35 : decode cX3_init 35 = .ok (.putfield 25, 3) := by decide +kernel
theorem dX3_init_38 : decode cX3_init 38 = .ok (.aload_n 0, 1) := by decide +kernel
theorem dX3_init_39 : decode cX3_init 39 = .ok (.bipush 8, 2) := by decide +kernel
theorem dX3_init_41 : decode cX3_init 41 = .ok (.newarray .int, 2) := by decide +kernel
theorem dX3_init_43 : decode cX3_init 43 = .ok (.putfield 28, 3) := by decide +kernel
theorem dX3_init_46 : decode cX3_init 46 = .ok (.aload_n 0, 1) := by decide +kernel
theorem dX3_init_47 : decode cX3_init 47 = .ok (.bipush 8, 2) := by decide +kernel
theorem dX3_init_49 : decode cX3_init 49 = .ok (.newarray .int, 2) := by decide +kernel
theorem dX3_init_51 : decode cX3_init 51 = .ok (.putfield 31, 3) := by decide +kernel
theorem dX3_init_54 : decode cX3_init 54 = .ok (.return_, 1) := by decide +kernel
theorem dX3_hasPoint_0 : decode cX3_hasPoint 0 = .ok (.iload_n 1, 1) := by decide +kernel
theorem dX3_hasPoint_1 : decode cX3_hasPoint 1 = .ok (.ifCond .lt 15, 3) := by decide +kernel
theorem dX3_hasPoint_4 : decode cX3_hasPoint 4 = .ok (.iload_n 1, 1) := by decide +kernel
theorem dX3_hasPoint_5 : decode cX3_hasPoint 5 = .ok (.aload_n 0, 1) := by decide +kernel
theorem dX3_hasPoint_6 : decode cX3_hasPoint 6 = .ok (.getfield 9, 3) := by decide +kernel
theorem dX3_hasPoint_9 : decode cX3_hasPoint 9 = .ok (.if_icmp .ge 7, 3) := by decide +kernel
theorem dX3_hasPoint_12 : decode cX3_hasPoint 12 = .ok (.iconst 1, 1) := by decide +kernel
theorem dX3_hasPoint_13 : decode cX3_hasPoint 13 = .ok (.goto 4, 3) := by decide +kernel
theorem dX3_hasPoint_16 : decode cX3_hasPoint 16 = .ok (.iconst 0, 1) := by decide +kernel
theorem dX3_hasPoint_17 : decode cX3_hasPoint 17 = .ok (.ireturn, 1) := by decide +kernel
theorem dX3_hasLine_0 : decode cX3_hasLine 0 = .ok (.iload_n 1, 1) := by decide +kernel
theorem dX3_hasLine_1 : decode cX3_hasLine 1 = .ok (.ifCond .lt 15, 3) := by decide +kernel
theorem dX3_hasLine_4 : decode cX3_hasLine 4 = .ok (.iload_n 1, 1) := by decide +kernel
theorem dX3_hasLine_5 : decode cX3_hasLine 5 = .ok (.aload_n 0, 1) := by decide +kernel
theorem dX3_hasLine_6 : decode cX3_hasLine 6 = .ok (.getfield 15, 3) := by decide +kernel
theorem dX3_hasLine_9 : decode cX3_hasLine 9 = .ok (.if_icmp .ge 7, 3) := by decide +kernel
theorem dX3_hasLine_12 : decode cX3_hasLine 12 = .ok (.iconst 1, 1) := by decide +kernel
theorem dX3_hasLine_13 : decode cX3_hasLine 13 = .ok (.goto 4, 3) := by decide +kernel
theorem dX3_hasLine_16 : decode cX3_hasLine 16 = .ok (.iconst 0, 1) := by decide +kernel
theorem dX3_hasLine_17 : decode cX3_hasLine 17 = .ok (.ireturn, 1) := by decide +kernel
theorem dX3_restart_0 : decode cX3_restart 0 = .ok (.aload_n 0, 1) := by decide +kernel
theorem dX3_restart_1 : decode cX3_restart 1 = .ok (.iload_n 1, 1) := by decide +kernel
theorem dX3_restart_2 : decode cX3_restart 2 = .ok (.putfield 9, 3) := by decide +kernel
theorem dX3_restart_5 : decode cX3_restart 5 = .ok (.aload_n 0, 1) := by decide +kernel
theorem dX3_restart_6 : decode cX3_restart 6 = .ok (.iconst 0, 1) := by decide +kernel
theorem dX3_restart_7 : decode cX3_restart 7 = .ok (.putfield 15, 3) := by decide +kernel
theorem dX3_restart_10 : decode cX3_restart 10 = .ok (.return_, 1) := by decide +kernel
theorem dX3_add_0 : decode cX3_add 0 = .ok (.aload_n 0, 1) := by decide +kernel
theorem dX3_add_1 : decode cX3_add 1 = .ok (.getfield 18, 3) := by decide +kernel
theorem dX3_add_4 : decode cX3_add 4 = .ok (.aload_n 0, 1) := by decide +kernel
theorem dX3_add_5 : decode cX3_add 5 = .ok (.getfield 15, 3) := by decide +kernel
theorem dX3_add_8 : decode cX3_add 8 = .ok (.iload_n 1, 1) := by decide +kernel
theorem dX3_add_9 : decode cX3_add 9 = .ok (.iastore, 1) := by decide +kernel
theorem dX3_add_10 : decode cX3_add 10 = .ok (.aload_n 0, 1) := by decide +kernel
theorem dX3_add_11 : decode cX3_add 11 = .ok (.getfield 22, 3) := by decide +kernel
theorem dX3_add_14 : decode cX3_add 14 = .ok (.aload_n 0, 1) := by decide +kernel
theorem dX3_add_15 : decode cX3_add 15 = .ok (.getfield 15, 3) := by decide +kernel
theorem dX3_add_18 : decode cX3_add 18 = .ok (.iconst 0, 1) := by decide +kernel
theorem dX3_add_19 : decode cX3_add 19 = .ok (.iastore, 1) := by decide +kernel
theorem dX3_add_20 : decode cX3_add 20 = .ok (.aload_n 0, 1) := by decide +kernel
theorem dX3_add_21 : decode cX3_add 21 = .ok (.getfield 25, 3) := by decide +kernel
theorem dX3_add_24 : decode cX3_add 24 = .ok (.aload_n 0, 1) := by decide +kernel
theorem dX3_add_25 : decode cX3_add 25 = .ok (.getfield 15, 3) := by decide +kernel
theorem dX3_add_28 : decode cX3_add 28 = .ok (.iload_n 2, 1) := by decide +kernel
theorem dX3_add_29 : decode cX3_add 29 = .ok (.iastore, 1) := by decide +kernel
theorem dX3_add_30 : decode cX3_add 30 = .ok (.aload_n 0, 1) := by decide +kernel
theorem dX3_add_31 : decode cX3_add 31 = .ok (.getfield 28, 3) := by decide +kernel
theorem dX3_add_34 : decode cX3_add 34 = .ok (.aload_n 0, 1) := by decide +kernel
theorem dX3_add_35 : decode cX3_add 35 = .ok (.getfield 15, 3) := by decide +kernel
theorem dX3_add_38 : decode cX3_add 38 = .ok (.iload_n 3, 1) := by decide +kernel
theorem dX3_add_39 : decode cX3_add 39 = .ok (.iastore, 1) := by decide +kernel
theorem dX3_add_40 : decode cX3_add 40 = .ok (.aload_n 0, 1) := by decide +kernel
theorem dX3_add_41 : decode cX3_add 41 = .ok (.getfield 31, 3) := by decide +kernel
theorem dX3_add_44 : decode cX3_add 44 = .ok (.aload_n 0, 1) := by decide +kernel
theorem dX3_add_45 : decode cX3_add 45 = .ok (.getfield 15, 3) := by decide +kernel
theorem dX3_add_48 : decode cX3_add 48 = .ok (.iconst 0, 1) := by decide +kernel
theorem dX3_add_49 : decode cX3_add 49 = .ok (.iastore, 1) := by decide +kernel
theorem dX3_add_50 : decode cX3_add 50 = .ok (.aload_n 0, 1) := by decide +kernel
theorem dX3_add_51 : decode cX3_add 51 = .ok (.dup, 1) := by decide +kernel
theorem dX3_add_52 : decode cX3_add 52 = .ok (.getfield 15, 3) := by decide +kernel
theorem dX3_add_55 : decode cX3_add 55 = .ok (.iconst 1, 1) := by decide +kernel
theorem dX3_add_56 : decode cX3_add 56 = .ok (.iadd, 1) := by decide +kernel
theorem dX3_add_57 : decode cX3_add 57 = .ok (.putfield 15, 3) := by decide +kernel
theorem dX3_add_60 : decode cX3_add 60 = .ok (.return_, 1) := by decide +kernel
theorem dX3_copyFrom_0 : decode cX3_copyFrom 0 = .ok (.aload_n 0, 1) := by decide +kernel
theorem dX3_copyFrom_1 : decode cX3_copyFrom 1 = .ok (.aload_n 1, 1) := by decide +kernel
theorem dX3_copyFrom_2 : decode cX3_copyFrom 2 = .ok (.getfield 9, 3) := by decide +kernel
theorem dX3_copyFrom_5 : decode cX3_copyFrom 5 = .ok (.putfield 9, 3) := by decide +kernel
theorem dX3_copyFrom_8 : decode cX3_copyFrom 8 = .ok (.aload_n 0, 1) := by decide +kernel
theorem dX3_copyFrom_9 : decode cX3_copyFrom 9 = .ok (.aload_n 1, 1) := by decide +kernel
theorem dX3_copyFrom_10 : decode cX3_copyFrom 10 = .ok (.getfield 15, 3) := by decide +kernel
theorem dX3_copyFrom_13 : decode cX3_copyFrom 13 = .ok (.putfield 15, 3) := by decide +kernel
theorem dX3_copyFrom_16 : decode cX3_copyFrom 16 = .ok (.aload_n 1, 1) := by decide +kernel
theorem dX3_copyFrom_17 : decode cX3_copyFrom 17 = .ok (.getfield 18, 3) := by decide +kernel
theorem dX3_copyFrom_20 : decode cX3_copyFrom 20 = .ok (.iconst 0, 1) := by decide +kernel
theorem dX3_copyFrom_21 : decode cX3_copyFrom 21 = .ok (.aload_n 0, 1) := by decide +kernel
theorem dX3_copyFrom_22 : decode cX3_copyFrom 22 = .ok (.getfield 18, 3) := by decide +kernel
theorem dX3_copyFrom_25 : decode cX3_copyFrom 25 = .ok (.iconst 0, 1) := by decide +kernel
theorem dX3_copyFrom_26 : decode cX3_copyFrom 26 = .ok (.bipush 8, 2) := by decide +kernel
theorem dX3_copyFrom_28 : decode cX3_copyFrom 28 = .ok (.invokestatic 34, 3) := by decide +kernel
theorem dX3_copyFrom_31 : decode cX3_copyFrom 31 = .ok (.aload_n 1, 1) := by decide +kernel
theorem dX3_copyFrom_32 : decode cX3_copyFrom 32 = .ok (.getfield 22, 3) := by decide +kernel
theorem dX3_copyFrom_35 : decode cX3_copyFrom 35 = .ok (.iconst 0, 1) := by decide +kernel
theorem dX3_copyFrom_36 : decode cX3_copyFrom 36 = .ok (.aload_n 0, 1) := by decide +kernel
theorem dX3_copyFrom_37 : decode cX3_copyFrom 37 = .ok (.getfield 22, 3) := by decide +kernel
theorem dX3_copyFrom_40 : decode cX3_copyFrom 40 = .ok (.iconst 0, 1) := by decide +kernel
theorem dX3_copyFrom_41 : decode cX3_copyFrom 41 = .ok (.bipush 8, 2) := by decide +kernel
theorem dX3_copyFrom_43 : decode cX3_copyFrom 43 = .ok (.invokestatic 34, 3) := by decide +kernel
theorem dX3_copyFrom_46 : decode cX3_copyFrom 46 = .ok (.aload_n 1, 1) := by decide +kernel
theorem dX3_copyFrom_47 : decode cX3_copyFrom 47 = .ok (.getfield 25, 3) := by decide +kernel
theorem dX3_copyFrom_50 : decode cX3_copyFrom 50 = .ok (.iconst 0, 1) := by decide +kernel
theorem dX3_copyFrom_51 : decode cX3_copyFrom 51 = .ok (.aload_n 0, 1) := by decide +kernel
theorem dX3_copyFrom_52 : decode cX3_copyFrom 52 = .ok (.getfield 25, 3) := by decide +kernel
theorem dX3_copyFrom_55 : decode cX3_copyFrom 55 = .ok (.iconst 0, 1) := by decide +kernel
theorem dX3_copyFrom_56 : decode cX3_copyFrom 56 = .ok (.bipush 8, 2) := by decide +kernel
theorem dX3_copyFrom_58 : decode cX3_copyFrom 58 = .ok (.invokestatic 34, 3) := by decide +kernel
theorem dX3_copyFrom_61 : decode cX3_copyFrom 61 = .ok (.aload_n 1, 1) := by decide +kernel
theorem dX3_copyFrom_62 : decode cX3_copyFrom 62 = .ok (.getfield 28, 3) := by decide +kernel
theorem dX3_copyFrom_65 : decode cX3_copyFrom 65 = .ok (.iconst 0, 1) := by decide +kernel
theorem dX3_copyFrom_66 : decode cX3_copyFrom 66 = .ok (.aload_n 0, 1) := by decide +kernel
theorem dX3_copyFrom_67 : decode cX3_copyFrom 67 = .ok (.getfield 28, 3) := by decide +kernel
theorem dX3_copyFrom_70 : decode cX3_copyFrom 70 = .ok (.iconst 0, 1) := by decide +kernel
theorem dX3_copyFrom_71 : decode cX3_copyFrom 71 = .ok (.bipush 8, 2) := by decide +kernel
theorem dX3_copyFrom_73 : decode cX3_copyFrom 73 = .ok (.invokestatic 34, 3) := by decide +kernel
theorem dX3_copyFrom_76 : decode cX3_copyFrom 76 = .ok (.aload_n 1, 1) := by decide +kernel
theorem dX3_copyFrom_77 : decode cX3_copyFrom 77 = .ok (.getfield 31, 3) := by decide +kernel
theorem dX3_copyFrom_80 : decode cX3_copyFrom 80 = .ok (.iconst 0, 1) := by decide +kernel
theorem dX3_copyFrom_81 : decode cX3_copyFrom 81 = .ok (.aload_n 0, 1) := by decide +kernel
theorem dX3_copyFrom_82 : decode cX3_copyFrom 82 = .ok (.getfield 31, 3) := by decide +kernel
theorem dX3_copyFrom_85 : decode cX3_copyFrom 85 = .ok (.iconst 0, 1) := by decide +kernel
theorem dX3_copyFrom_86 : decode cX3_copyFrom 86 = .ok (.bipush 8, 2) := by decide +kernel
theorem dX3_copyFrom_88 : decode cX3_copyFrom 88 = .ok (.invokestatic 34, 3) := by decide +kernel
theorem dX3_copyFrom_91 : decode cX3_copyFrom 91 = .ok (.return_, 1) := by decide +kernel
theorem dX3_forth_0 : decode cX3_forth 0 = .ok (.aload_n 0, 1) := by decide +kernel
theorem dX3_forth_1 : decode cX3_forth 1 = .ok (.getfield 18, 3) := by decide +kernel
theorem dX3_forth_4 : decode cX3_forth 4 = .ok (.iload_n 1, 1) := by decide +kernel
theorem dX3_forth_5 : decode cX3_forth 5 = .ok (.iaload, 1) := by decide +kernel
theorem dX3_forth_6 : decode cX3_forth 6 = .ok (.aload_n 0, 1) := by decide +kernel
theorem dX3_forth_7 : decode cX3_forth 7 = .ok (.getfield 22, 3) := by decide +kernel
theorem dX3_forth_10 : decode cX3_forth 10 = .ok (.iload_n 1, 1) := by decide +kernel
theorem dX3_forth_11 : decode cX3_forth 11 = .ok (.iaload, 1) := by decide +kernel
theorem dX3_forth_12 : decode cX3_forth 12 = .ok (.invokestatic 40, 3) := by decide +kernel
theorem dX3_forth_15 : decode cX3_forth 15 = .ok (.ireturn, 1) := by decide +kernel
theorem dX3_back_0 : decode cX3_back 0 = .ok (.aload_n 0, 1) := by decide +kernel
theorem dX3_back_1 : decode cX3_back 1 = .ok (.getfield 18, 3) := by decide +kernel
theorem dX3_back_4 : decode cX3_back 4 = .ok (.iload_n 1, 1) := by decide +kernel
theorem dX3_back_5 : decode cX3_back 5 = .ok (.iaload, 1) := by decide +kernel
theorem dX3_back_6 : decode cX3_back 6 = .ok (.aload_n 0, 1) := by decide +kernel
theorem dX3_back_7 : decode cX3_back 7 = .ok (.getfield 22, 3) := by decide +kernel
theorem dX3_back_10 : decode cX3_back 10 = .ok (.iload_n 1, 1) := by decide +kernel
theorem dX3_back_11 : decode cX3_back 11 = .ok (.iaload, 1) := by decide +kernel
theorem dX3_back_12 : decode cX3_back 12 = .ok (.invokestatic 46, 3) := by decide +kernel
theorem dX3_back_15 : decode cX3_back 15 = .ok (.ireturn, 1) := by decide +kernel
theorem dX3_weight_0 : decode cX3_weight 0 = .ok (.aload_n 0, 1) := by decide +kernel
theorem dX3_weight_1 : decode cX3_weight 1 = .ok (.getfield 25, 3) := by decide +kernel
theorem dX3_weight_4 : decode cX3_weight 4 = .ok (.iload_n 2, 1) := by decide +kernel
theorem dX3_weight_5 : decode cX3_weight 5 = .ok (.iaload, 1) := by decide +kernel
theorem dX3_weight_6 : decode cX3_weight 6 = .ok (.iload_n 1, 1) := by decide +kernel
theorem dX3_weight_7 : decode cX3_weight 7 = .ok (.if_icmp .ne 11, 3) := by decide +kernel
theorem dX3_weight_10 : decode cX3_weight 10 = .ok (.aload_n 0, 1) := by decide +kernel
theorem dX3_weight_11 : decode cX3_weight 11 = .ok (.iload_n 2, 1) := by decide +kernel
theorem dX3_weight_12 : decode cX3_weight 12 = .ok (.invokevirtual 49, 3) := by decide +kernel
theorem dX3_weight_15 : decode cX3_weight 15 = .ok (.goto 4, 3) := by decide +kernel
theorem dX3_weight_18 : decode cX3_weight 18 = .ok (.iconst 0, 1) := by decide +kernel
theorem dX3_weight_19 : decode cX3_weight 19 = .ok (.istore_n 3, 1) := by decide +kernel
theorem dX3_weight_20 : decode cX3_weight 20 = .ok (.aload_n 0, 1) := by decide +kernel
theorem dX3_weight_21 : decode cX3_weight 21 = .ok (.getfield 28, 3) := by decide +kernel
theorem dX3_weight_24 : decode cX3_weight 24 = .ok (.iload_n 2, 1) := by decide +kernel
theorem dX3_weight_25 : decode cX3_weight 25 = .ok (.iaload, 1) := by decide +kernel
theorem dX3_weight_26 : decode cX3_weight 26 = .ok (.iload_n 1, 1) := by decide +kernel
theorem dX3_weight_27 : decode cX3_weight 27 = .ok (.if_icmp .ne 11, 3) := by decide +kernel
theorem dX3_weight_30 : decode cX3_weight 30 = .ok (.aload_n 0, 1) := by decide +kernel
theorem dX3_weight_31 : decode cX3_weight 31 = .ok (.iload_n 2, 1) := by decide +kernel
theorem dX3_weight_32 : decode cX3_weight 32 = .ok (.invokevirtual 52, 3) := by decide +kernel
theorem dX3_weight_35 : decode cX3_weight 35 = .ok (.goto 4, 3) := by decide +kernel
theorem dX3_weight_38 : decode cX3_weight 38 = .ok (.iconst 0, 1) := by decide +kernel
theorem dX3_weight_39 : decode cX3_weight 39 = .ok (.istore 4, 2) := by decide +kernel
theorem dX3_weight_41 : decode cX3_weight 41 = .ok (.iload_n 3, 1) := by decide +kernel
theorem dX3_weight_42 : decode cX3_weight 42 = .ok (.iload 4, 2) := by decide +kernel
theorem dX3_weight_44 : decode cX3_weight 44 = .ok (.iadd, 1) := by decide +kernel
theorem dX3_weight_45 : decode cX3_weight 45 = .ok (.ireturn, 1) := by decide +kernel
theorem dX3_sumAt_0 : decode cX3_sumAt 0 = .ok (.iconst 0, 1) := by decide +kernel
theorem dX3_sumAt_1 : decode cX3_sumAt 1 = .ok (.istore_n 2, 1) := by decide +kernel
theorem dX3_sumAt_2 : decode cX3_sumAt 2 = .ok (.iconst 0, 1) := by decide +kernel
theorem dX3_sumAt_3 : decode cX3_sumAt 3 = .ok (.istore_n 3, 1) := by decide +kernel
theorem dX3_sumAt_4 : decode cX3_sumAt 4 = .ok (.iload_n 3, 1) := by decide +kernel
theorem dX3_sumAt_5 : decode cX3_sumAt 5 = .ok (.aload_n 0, 1) := by decide +kernel
theorem dX3_sumAt_6 : decode cX3_sumAt 6 = .ok (.getfield 15, 3) := by decide +kernel
theorem dX3_sumAt_9 : decode cX3_sumAt 9 = .ok (.if_icmp .ge 25, 3) := by decide +kernel
theorem dX3_sumAt_12 : decode cX3_sumAt 12 = .ok (.iload_n 2, 1) := by decide +kernel
theorem dX3_sumAt_13 : decode cX3_sumAt 13 = .ok (.aload_n 0, 1) := by decide +kernel
theorem dX3_sumAt_14 : decode cX3_sumAt 14 = .ok (.iload_n 1, 1) := by decide +kernel
theorem dX3_sumAt_15 : decode cX3_sumAt 15 = .ok (.iload_n 3, 1) := by decide +kernel
theorem dX3_sumAt_16 : decode cX3_sumAt 16 = .ok (.invokevirtual 54, 3) := by decide +kernel
theorem dX3_sumAt_19 : decode cX3_sumAt 19 = .ok (.aload_n 0, 1) := by decide +kernel
theorem dX3_sumAt_20 : decode cX3_sumAt 20 = .ok (.getfield 31, 3) := by decide +kernel
theorem dX3_sumAt_23 : decode cX3_sumAt 23 = .ok (.iload_n 3, 1) := by decide +kernel
theorem dX3_sumAt_24 : decode cX3_sumAt 24 = .ok (.iaload, 1) := by decide +kernel
theorem dX3_sumAt_25 : decode cX3_sumAt 25 = .ok (.imul, 1) := by decide +kernel
theorem dX3_sumAt_26 : decode cX3_sumAt 26 = .ok (.iadd, 1) := by decide +kernel
theorem dX3_sumAt_27 : decode cX3_sumAt 27 = .ok (.istore_n 2, 1) := by decide +kernel
theorem dX3_sumAt_28 : decode cX3_sumAt 28 = .ok (.iinc 3 1, 3) := by decide +kernel
theorem dX3_sumAt_31 : decode cX3_sumAt 31 = .ok (.goto (-27), 3) := by decide +kernel
theorem dX3_sumAt_34 : decode cX3_sumAt 34 = .ok (.iload_n 2, 1) := by decide +kernel
theorem dX3_sumAt_35 : decode cX3_sumAt 35 = .ok (.ireturn, 1) := by decide +kernel
theorem dX3_fillSums_0 : decode cX3_fillSums 0 = .ok (.iconst 0, 1) := by decide +kernel
theorem dX3_fillSums_1 : decode cX3_fillSums 1 = .ok (.istore_n 2, 1) := by decide +kernel
theorem dX3_fillSums_2 : decode cX3_fillSums 2 = .ok (.iload_n 2, 1) := by decide +kernel
theorem dX3_fillSums_3 : decode cX3_fillSums 3 = .ok (.aload_n 0, 1) := by decide +kernel
theorem dX3_fillSums_4 : decode cX3_fillSums 4 = .ok (.getfield 9, 3) := by decide +kernel
theorem dX3_fillSums_7 : decode cX3_fillSums 7 = .ok (.if_icmp .ge 17, 3) := by decide +kernel
theorem dX3_fillSums_10 : decode cX3_fillSums 10 = .ok (.aload_n 1, 1) := by decide +kernel
theorem dX3_fillSums_11 : decode cX3_fillSums 11 = .ok (.iload_n 2, 1) := by decide +kernel
theorem dX3_fillSums_12 : decode cX3_fillSums 12 = .ok (.aload_n 0, 1) := by decide +kernel
theorem dX3_fillSums_13 : decode cX3_fillSums 13 = .ok (.iload_n 2, 1) := by decide +kernel
theorem dX3_fillSums_14 : decode cX3_fillSums 14 = .ok (.invokevirtual 57, 3) := by decide +kernel
theorem dX3_fillSums_17 : decode cX3_fillSums 17 = .ok (.iastore, 1) := by decide +kernel
theorem dX3_fillSums_18 : decode cX3_fillSums 18 = .ok (.iinc 2 1, 3) := by decide +kernel
theorem dX3_fillSums_21 : decode cX3_fillSums 21 = .ok (.goto (-19), 3) := by decide +kernel
theorem dX3_fillSums_24 : decode cX3_fillSums 24 = .ok (.return_, 1) := by decide +kernel
theorem dX4_init_0 : decode cX4_init 0 = .ok (.aload_n 0, 1) := by decide +kernel
theorem dX4_init_1 : decode cX4_init 1 = .ok (.invokespecial 3, 3) := by decide +kernel
theorem dX4_init_4 : decode cX4_init 4 = .ok (.aload_n 0, 1) := by decide +kernel
theorem dX4_init_5 : decode cX4_init 5 = .ok (.bipush 8, 2) := by decide +kernel
theorem dX4_init_7 : decode cX4_init 7 = .ok (.bipush 8, 2) := by decide +kernel
theorem dX4_init_9 : decode cX4_init 9 = .ok (.multianewarray 9 2, 4) := by decide +kernel
theorem dX4_init_13 : decode cX4_init 13 = .ok (.putfield 11, 3) := by decide +kernel
theorem dX4_init_16 : decode cX4_init 16 = .ok (.aload_n 0, 1) := by decide +kernel
theorem dX4_init_17 : decode cX4_init 17 = .ok (.bipush 8, 2) := by decide +kernel
theorem dX4_init_19 : decode cX4_init 19 = .ok (.bipush 8, 2) := by decide +kernel
theorem dX4_init_21 : decode cX4_init 21 = .ok (.multianewarray 9 2, 4) := by decide +kernel
theorem dX4_init_25 : decode cX4_init 25 = .ok (.putfield 16, 3) := by decide +kernel
theorem dX4_init_28 : decode cX4_init 28 = .ok (.aload_n 0, 1) := by decide +kernel
theorem dX4_init_29 : decode cX4_init 29 = .ok (.bipush 8, 2) := by decide +kernel
theorem dX4_init_31 : decode cX4_init 31 = .ok (.bipush 8, 2) := by decide +kernel
theorem dX4_init_33 : decode cX4_init 33 = .ok (.multianewarray 9 2, 4) := by decide +kernel
theorem dX4_init_37 : decode cX4_init 37 = .ok (.putfield 19, 3) := by decide +kernel
theorem dX4_init_40 : decode cX4_init 40 = .ok (.aload_n 0, 1) := by decide +kernel
theorem dX4_init_41 : decode cX4_init 41 = .ok (.iconst 0, 1) := by decide +kernel
theorem dX4_init_42 : decode cX4_init 42 = .ok (.putfield 22, 3) := by decide +kernel
theorem dX4_init_45 : decode cX4_init 45 = .ok (.aload_n 0, 1) := by decide +kernel
theorem dX4_init_46 : decode cX4_init 46 = .ok (.iconst 0, 1) := by decide +kernel
theorem dX4_init_47 : decode cX4_init 47 = .ok (.putfield 26, 3) := by decide +kernel
theorem dX4_init_50 : decode cX4_init 50 = .ok (.return_, 1) := by decide +kernel
theorem dX4_keep_0 : decode cX4_keep 0 = .ok (.aload_n 1, 1) := by decide +kernel
theorem dX4_keep_1 : decode cX4_keep 1 = .ok (.getfield 29, 3) := by decide +kernel
theorem dX4_keep_4 : decode cX4_keep 4 = .ok (.iconst 0, 1) := by decide +kernel
theorem dX4_keep_5 : decode cX4_keep 5 = .ok (.aload_n 0, 1) := by decide +kernel
theorem dX4_keep_6 : decode cX4_keep 6 = .ok (.getfield 11, 3) := by decide +kernel
theorem dX4_keep_9 : decode cX4_keep 9 = .ok (.aload_n 0, 1) := by decide +kernel
theorem dX4_keep_10 : decode cX4_keep 10 = .ok (.getfield 22, 3) := by decide +kernel
theorem dX4_keep_13 : decode cX4_keep 13 = .ok (.aaload, 1) := by decide +kernel
theorem dX4_keep_14 : decode cX4_keep 14 = .ok (.iconst 0, 1) := by decide +kernel
theorem dX4_keep_15 : decode cX4_keep 15 = .ok (.bipush 8, 2) := by decide +kernel
theorem dX4_keep_17 : decode cX4_keep 17 = .ok (.invokestatic 34, 3) := by decide +kernel
theorem dX4_keep_20 : decode cX4_keep 20 = .ok (.aload_n 1, 1) := by decide +kernel
theorem dX4_keep_21 : decode cX4_keep 21 = .ok (.getfield 40, 3) := by decide +kernel
theorem dX4_keep_24 : decode cX4_keep 24 = .ok (.iconst 0, 1) := by decide +kernel
theorem dX4_keep_25 : decode cX4_keep 25 = .ok (.aload_n 0, 1) := by decide +kernel
theorem dX4_keep_26 : decode cX4_keep 26 = .ok (.getfield 16, 3) := by decide +kernel
theorem dX4_keep_29 : decode cX4_keep 29 = .ok (.aload_n 0, 1) := by decide +kernel
theorem dX4_keep_30 : decode cX4_keep 30 = .ok (.getfield 22, 3) := by decide +kernel
theorem dX4_keep_33 : decode cX4_keep 33 = .ok (.aaload, 1) := by decide +kernel
theorem dX4_keep_34 : decode cX4_keep 34 = .ok (.iconst 0, 1) := by decide +kernel
theorem dX4_keep_35 : decode cX4_keep 35 = .ok (.bipush 8, 2) := by decide +kernel
theorem dX4_keep_37 : decode cX4_keep 37 = .ok (.invokestatic 34, 3) := by decide +kernel
theorem dX4_keep_40 : decode cX4_keep 40 = .ok (.aload_n 1, 1) := by decide +kernel
theorem dX4_keep_41 : decode cX4_keep 41 = .ok (.getfield 42, 3) := by decide +kernel
theorem dX4_keep_44 : decode cX4_keep 44 = .ok (.iconst 0, 1) := by decide +kernel
theorem dX4_keep_45 : decode cX4_keep 45 = .ok (.aload_n 0, 1) := by decide +kernel
theorem dX4_keep_46 : decode cX4_keep 46 = .ok (.getfield 19, 3) := by decide +kernel
theorem dX4_keep_49 : decode cX4_keep 49 = .ok (.aload_n 0, 1) := by decide +kernel
theorem dX4_keep_50 : decode cX4_keep 50 = .ok (.getfield 22, 3) := by decide +kernel
theorem dX4_keep_53 : decode cX4_keep 53 = .ok (.aaload, 1) := by decide +kernel
theorem dX4_keep_54 : decode cX4_keep 54 = .ok (.iconst 0, 1) := by decide +kernel
theorem dX4_keep_55 : decode cX4_keep 55 = .ok (.bipush 8, 2) := by decide +kernel
theorem dX4_keep_57 : decode cX4_keep 57 = .ok (.invokestatic 34, 3) := by decide +kernel
theorem dX4_keep_60 : decode cX4_keep 60 = .ok (.aload_n 0, 1) := by decide +kernel
theorem dX4_keep_61 : decode cX4_keep 61 = .ok (.aload_n 0, 1) := by decide +kernel
theorem dX4_keep_62 : decode cX4_keep 62 = .ok (.getfield 22, 3) := by decide +kernel
theorem dX4_keep_65 : decode cX4_keep 65 = .ok (.iconst 1, 1) := by decide +kernel
theorem dX4_keep_66 : decode cX4_keep 66 = .ok (.iadd, 1) := by decide +kernel
theorem dX4_keep_67 : decode cX4_keep 67 = .ok (.bipush 8, 2) := by decide +kernel
theorem dX4_keep_69 : decode cX4_keep 69 = .ok (.irem, 1) := by decide +kernel
theorem dX4_keep_70 : decode cX4_keep 70 = .ok (.putfield 22, 3) := by decide +kernel
theorem dX4_keep_73 : decode cX4_keep 73 = .ok (.aload_n 0, 1) := by decide +kernel
theorem dX4_keep_74 : decode cX4_keep 74 = .ok (.aload_n 0, 1) := by decide +kernel
theorem dX4_keep_75 : decode cX4_keep 75 = .ok (.getfield 26, 3) := by decide +kernel
theorem dX4_keep_78 : decode cX4_keep 78 = .ok (.iconst 1, 1) := by decide +kernel
theorem dX4_keep_79 : decode cX4_keep 79 = .ok (.iadd, 1) := by decide +kernel
theorem dX4_keep_80 : decode cX4_keep 80 = .ok (.bipush 8, 2) := by decide +kernel
theorem dX4_keep_82 : decode cX4_keep 82 = .ok (.invokestatic 44, 3) := by decide +kernel
theorem dX4_keep_85 : decode cX4_keep 85 = .ok (.putfield 26, 3) := by decide +kernel
theorem dX4_keep_88 : decode cX4_keep 88 = .ok (.return_, 1) := by decide +kernel
theorem dX4_restore_0 : decode cX4_restore 0 = .ok (.aload_n 0, 1) := by decide +kernel
theorem dX4_restore_1 : decode cX4_restore 1 = .ok (.aload_n 0, 1) := by decide +kernel
theorem dX4_restore_2 : decode cX4_restore 2 = .ok (.getfield 22, 3) := by decide +kernel
theorem dX4_restore_5 : decode cX4_restore 5 = .ok (.bipush 8, 2) := by decide +kernel
theorem dX4_restore_7 : decode cX4_restore 7 = .ok (.iadd, 1) := by decide +kernel
theorem dX4_restore_8 : decode cX4_restore 8 = .ok (.iconst 1, 1) := by decide +kernel
theorem dX4_restore_9 : decode cX4_restore 9 = .ok (.isub, 1) := by decide +kernel
theorem dX4_restore_10 : decode cX4_restore 10 = .ok (.bipush 8, 2) := by decide +kernel
theorem dX4_restore_12 : decode cX4_restore 12 = .ok (.irem, 1) := by decide +kernel
theorem dX4_restore_13 : decode cX4_restore 13 = .ok (.putfield 22, 3) := by decide +kernel
theorem dX4_restore_16 : decode cX4_restore 16 = .ok (.aload_n 0, 1) := by decide +kernel
theorem dX4_restore_17 : decode cX4_restore 17 = .ok (.dup, 1) := by decide +kernel
theorem dX4_restore_18 : decode cX4_restore 18 = .ok (.getfield 26, 3) := by decide +kernel
theorem dX4_restore_21 : decode cX4_restore 21 = .ok (.iconst 1, 1) := by decide +kernel
theorem dX4_restore_22 : decode cX4_restore 22 = .ok (.isub, 1) := by decide +kernel
theorem dX4_restore_23 : decode cX4_restore 23 = .ok (.putfield 26, 3) := by decide +kernel
theorem dX4_restore_26 : decode cX4_restore 26 = .ok (.aload_n 0, 1) := by decide +kernel
theorem dX4_restore_27 : decode cX4_restore 27 = .ok (.getfield 11, 3) := by decide +kernel
theorem dX4_restore_30 : decode cX4_restore 30 = .ok (.aload_n 0, 1) := by decide +kernel
theorem dX4_restore_31 : decode cX4_restore 31 = .ok (.getfield 22, 3) := by decide +kernel
theorem dX4_restore_34 : decode cX4_restore 34 = .ok (.aaload, 1) := by decide +kernel
theorem dX4_restore_35 : decode cX4_restore 35 = .ok (.iconst 0, 1) := by decide +kernel
theorem dX4_restore_36 : decode cX4_restore 36 = .ok (.aload_n 1, 1) := by decide +kernel
theorem dX4_restore_37 : decode cX4_restore 37 = .ok (.getfield 29, 3) := by decide +kernel
theorem dX4_restore_40 : decode cX4_restore 40 = .ok (.iconst 0, 1) := by decide +kernel
theorem dX4_restore_41 : decode cX4_restore 41 = .ok (.bipush 8, 2) := by decide +kernel
theorem dX4_restore_43 : decode cX4_restore 43 = .ok (.invokestatic 34, 3) := by decide +kernel
theorem dX4_restore_46 : decode cX4_restore 46 = .ok (.aload_n 0, 1) := by decide +kernel
theorem dX4_restore_47 : decode cX4_restore 47 = .ok (.getfield 16, 3) := by decide +kernel
theorem dX4_restore_50 : decode cX4_restore 50 = .ok (.aload_n 0, 1) := by decide +kernel
theorem dX4_restore_51 : decode cX4_restore 51 = .ok (.getfield 22, 3) := by decide +kernel
theorem dX4_restore_54 : decode cX4_restore 54 = .ok (.aaload, 1) := by decide +kernel
theorem dX4_restore_55 : decode cX4_restore 55 = .ok (.iconst 0, 1) := by decide +kernel
theorem dX4_restore_56 : decode cX4_restore 56 = .ok (.aload_n 1, 1) := by decide +kernel
theorem dX4_restore_57 : decode cX4_restore 57 = .ok (.getfield 40, 3) := by decide +kernel
theorem dX4_restore_60 : decode cX4_restore 60 = .ok (.iconst 0, 1) := by decide +kernel
theorem dX4_restore_61 : decode cX4_restore 61 = .ok (.bipush 8, 2) := by decide +kernel
theorem dX4_restore_63 : decode cX4_restore 63 = .ok (.invokestatic 34, 3) := by decide +kernel
theorem dX4_restore_66 : decode cX4_restore 66 = .ok (.aload_n 0, 1) := by decide +kernel
theorem dX4_restore_67 : decode cX4_restore 67 = .ok (.getfield 19, 3) := by decide +kernel
theorem dX4_restore_70 : decode cX4_restore 70 = .ok (.aload_n 0, 1) := by decide +kernel
theorem dX4_restore_71 : decode cX4_restore 71 = .ok (.getfield 22, 3) := by decide +kernel
theorem dX4_restore_74 : decode cX4_restore 74 = .ok (.aaload, 1) := by decide +kernel
theorem dX4_restore_75 : decode cX4_restore 75 = .ok (.iconst 0, 1) := by decide +kernel
theorem dX4_restore_76 : decode cX4_restore 76 = .ok (.aload_n 1, 1) := by decide +kernel
theorem dX4_restore_77 : decode cX4_restore 77 = .ok (.getfield 42, 3) := by decide +kernel
theorem dX4_restore_80 : decode cX4_restore 80 = .ok (.iconst 0, 1) := by decide +kernel
theorem dX4_restore_81 : decode cX4_restore 81 = .ok (.bipush 8, 2) := by decide +kernel
theorem dX4_restore_83 : decode cX4_restore 83 = .ok (.invokestatic 34, 3) := by decide +kernel
theorem dX4_restore_86 : decode cX4_restore 86 = .ok (.return_, 1) := by decide +kernel
theorem dX4_forget_0 : decode cX4_forget 0 = .ok (.aload_n 0, 1) := by decide +kernel
theorem dX4_forget_1 : decode cX4_forget 1 = .ok (.iconst 0, 1) := by decide +kernel
theorem dX4_forget_2 : decode cX4_forget 2 = .ok (.putfield 26, 3) := by decide +kernel
theorem dX4_forget_5 : decode cX4_forget 5 = .ok (.return_, 1) := by decide +kernel
theorem dX5_holds_0 : decode cX5_holds 0 = .ok (.iload_n 0, 1) := by decide +kernel
theorem dX5_holds_1 : decode cX5_holds 1 = .ok (.tableswitch 68 0 4 #[35, 41, 47, 53, 59], 35) := by decide +kernel
theorem dX5_holds_36 : decode cX5_holds 36 = .ok (.aload_n 1, 1) := by decide +kernel
theorem dX5_holds_37 : decode cX5_holds 37 = .ok (.iload_n 2, 1) := by decide +kernel
theorem dX5_holds_38 : decode cX5_holds 38 = .ok (.invokestatic 9, 3) := by decide +kernel
theorem dX5_holds_41 : decode cX5_holds 41 = .ok (.ireturn, 1) := by decide +kernel
theorem dX5_holds_42 : decode cX5_holds 42 = .ok (.aload_n 1, 1) := by decide +kernel
theorem dX5_holds_43 : decode cX5_holds 43 = .ok (.iload_n 2, 1) := by decide +kernel
theorem dX5_holds_44 : decode cX5_holds 44 = .ok (.invokestatic 15, 3) := by decide +kernel
theorem dX5_holds_47 : decode cX5_holds 47 = .ok (.ireturn, 1) := by decide +kernel
theorem dX5_holds_48 : decode cX5_holds 48 = .ok (.aload_n 1, 1) := by decide +kernel
theorem dX5_holds_49 : decode cX5_holds 49 = .ok (.iload_n 2, 1) := by decide +kernel
theorem dX5_holds_50 : decode cX5_holds 50 = .ok (.invokestatic 18, 3) := by decide +kernel
theorem dX5_holds_53 : decode cX5_holds 53 = .ok (.ireturn, 1) := by decide +kernel
theorem dX5_holds_54 : decode cX5_holds 54 = .ok (.aload_n 1, 1) := by decide +kernel
theorem dX5_holds_55 : decode cX5_holds 55 = .ok (.iload_n 2, 1) := by decide +kernel
theorem dX5_holds_56 : decode cX5_holds 56 = .ok (.invokestatic 21, 3) := by decide +kernel
theorem dX5_holds_59 : decode cX5_holds 59 = .ok (.ireturn, 1) := by decide +kernel
theorem dX5_holds_60 : decode cX5_holds 60 = .ok (.iconst 2, 1) := by decide +kernel
theorem dX5_holds_61 : decode cX5_holds 61 = .ok (.iload_n 2, 1) := by decide +kernel
theorem dX5_holds_62 : decode cX5_holds 62 = .ok (.imul, 1) := by decide +kernel
theorem dX5_holds_63 : decode cX5_holds 63 = .ok (.aload_n 1, 1) := by decide +kernel
theorem dX5_holds_64 : decode cX5_holds 64 = .ok (.iload_n 2, 1) := by decide +kernel
theorem dX5_holds_65 : decode cX5_holds 65 = .ok (.invokestatic 24, 3) := by decide +kernel
theorem dX5_holds_68 : decode cX5_holds 68 = .ok (.ireturn, 1) := by decide +kernel
theorem dX5_holds_69 : decode cX5_holds 69 = .ok (.aload_n 1, 1) := by decide +kernel
theorem dX5_holds_70 : decode cX5_holds 70 = .ok (.iload_n 2, 1) := by decide +kernel
theorem dX5_holds_71 : decode cX5_holds 71 = .ok (.invokestatic 9, 3) := by decide +kernel
theorem dX5_holds_74 : decode cX5_holds 74 = .ok (.ifCond .ne 15, 3) := by decide +kernel
theorem dX5_holds_77 : decode cX5_holds 77 = .ok (.aload_n 1, 1) := by decide +kernel
theorem dX5_holds_78 : decode cX5_holds 78 = .ok (.iload_n 2, 1) := by decide +kernel
theorem dX5_holds_79 : decode cX5_holds 79 = .ok (.invokestatic 15, 3) := by decide +kernel
theorem dX5_holds_82 : decode cX5_holds 82 = .ok (.ifCond .ne 7, 3) := by decide +kernel
theorem dX5_holds_85 : decode cX5_holds 85 = .ok (.iconst 1, 1) := by decide +kernel
theorem dX5_holds_86 : decode cX5_holds 86 = .ok (.goto 4, 3) := by decide +kernel
theorem dX5_holds_89 : decode cX5_holds 89 = .ok (.iconst 0, 1) := by decide +kernel
theorem dX5_holds_90 : decode cX5_holds 90 = .ok (.ireturn, 1) := by decide +kernel
theorem dX5_allLike_0 : decode cX5_allLike 0 = .ok (.iconst 1, 1) := by decide +kernel
theorem dX5_allLike_1 : decode cX5_allLike 1 = .ok (.istore_n 2, 1) := by decide +kernel
theorem dX5_allLike_2 : decode cX5_allLike 2 = .ok (.iload_n 2, 1) := by decide +kernel
theorem dX5_allLike_3 : decode cX5_allLike 3 = .ok (.iload_n 1, 1) := by decide +kernel
theorem dX5_allLike_4 : decode cX5_allLike 4 = .ok (.if_icmp .ge 20, 3) := by decide +kernel
theorem dX5_allLike_7 : decode cX5_allLike 7 = .ok (.aload_n 0, 1) := by decide +kernel
theorem dX5_allLike_8 : decode cX5_allLike 8 = .ok (.iload_n 2, 1) := by decide +kernel
theorem dX5_allLike_9 : decode cX5_allLike 9 = .ok (.iaload, 1) := by decide +kernel
theorem dX5_allLike_10 : decode cX5_allLike 10 = .ok (.aload_n 0, 1) := by decide +kernel
theorem dX5_allLike_11 : decode cX5_allLike 11 = .ok (.iconst 0, 1) := by decide +kernel
theorem dX5_allLike_12 : decode cX5_allLike 12 = .ok (.iaload, 1) := by decide +kernel
theorem dX5_allLike_13 : decode cX5_allLike 13 = .ok (.if_icmp .eq 5, 3) := by decide +kernel
theorem dX5_allLike_16 : decode cX5_allLike 16 = .ok (.iconst 0, 1) := by decide +kernel
theorem dX5_allLike_17 : decode cX5_allLike 17 = .ok (.ireturn, 1) := by decide +kernel
theorem dX5_allLike_18 : decode cX5_allLike 18 = .ok (.iinc 2 1, 3) := by decide +kernel
theorem dX5_allLike_21 : decode cX5_allLike 21 = .ok (.goto (-19), 3) := by decide +kernel
theorem dX5_allLike_24 : decode cX5_allLike 24 = .ok (.iconst 1, 1) := by decide +kernel
theorem dX5_allLike_25 : decode cX5_allLike 25 = .ok (.ireturn, 1) := by decide +kernel
theorem dX5_allUnlike_0 : decode cX5_allUnlike 0 = .ok (.iconst 1, 1) := by decide +kernel
theorem dX5_allUnlike_1 : decode cX5_allUnlike 1 = .ok (.istore_n 2, 1) := by decide +kernel
theorem dX5_allUnlike_2 : decode cX5_allUnlike 2 = .ok (.iload_n 2, 1) := by decide +kernel
theorem dX5_allUnlike_3 : decode cX5_allUnlike 3 = .ok (.iload_n 1, 1) := by decide +kernel
theorem dX5_allUnlike_4 : decode cX5_allUnlike 4 = .ok (.if_icmp .ge 38, 3) := by decide +kernel
theorem dX5_allUnlike_7 : decode cX5_allUnlike 7 = .ok (.aload_n 0, 1) := by decide +kernel
theorem dX5_allUnlike_8 : decode cX5_allUnlike 8 = .ok (.iload_n 2, 1) := by decide +kernel
theorem dX5_allUnlike_9 : decode cX5_allUnlike 9 = .ok (.iaload, 1) := by decide +kernel
theorem dX5_allUnlike_10 : decode cX5_allUnlike 10 = .ok (.istore_n 3, 1) := by decide +kernel
theorem dX5_allUnlike_11 : decode cX5_allUnlike 11 = .ok (.iconst 0, 1) := by decide +kernel
theorem dX5_allUnlike_12 : decode cX5_allUnlike 12 = .ok (.istore 4, 2) := by decide +kernel
theorem dX5_allUnlike_14 : decode cX5_allUnlike 14 = .ok (.iload 4, 2) := by decide +kernel
theorem dX5_allUnlike_16 : decode cX5_allUnlike 16 = .ok (.iload_n 2, 1) := by decide +kernel
theorem dX5_allUnlike_17 : decode cX5_allUnlike 17 = .ok (.if_icmp .ge 19, 3) := by decide +kernel
theorem dX5_allUnlike_20 : decode cX5_allUnlike 20 = .ok (.aload_n 0, 1) := by decide +kernel
theorem dX5_allUnlike_21 : decode cX5_allUnlike 21 = .ok (.iload 4, 2) := by decide +kernel
theorem dX5_allUnlike_23 : decode cX5_allUnlike 23 = .ok (.iaload, 1) := by decide +kernel
theorem dX5_allUnlike_24 : decode cX5_allUnlike 24 = .ok (.iload_n 3, 1) := by decide +kernel
theorem dX5_allUnlike_25 : decode cX5_allUnlike 25 = .ok (.if_icmp .ne 5, 3) := by decide +kernel
theorem dX5_allUnlike_28 : decode cX5_allUnlike 28 = .ok (.iconst 0, 1) := by decide +kernel
theorem dX5_allUnlike_29 : decode cX5_allUnlike 29 = .ok (.ireturn, 1) := by decide +kernel
theorem dX5_allUnlike_30 : decode cX5_allUnlike 30 = .ok (.iinc 4 1, 3) := by decide +kernel
theorem dX5_allUnlike_33 : decode cX5_allUnlike 33 = .ok (.goto (-19), 3) := by decide +kernel
theorem dX5_allUnlike_36 : decode cX5_allUnlike 36 = .ok (.iinc 2 1, 3) := by decide +kernel
theorem dX5_allUnlike_39 : decode cX5_allUnlike 39 = .ok (.goto (-37), 3) := by decide +kernel
theorem dX5_allUnlike_42 : decode cX5_allUnlike 42 = .ok (.iconst 1, 1) := by decide +kernel
theorem dX5_allUnlike_43 : decode cX5_allUnlike 43 = .ok (.ireturn, 1) := by decide +kernel
theorem dX5_allRising_0 : decode cX5_allRising 0 = .ok (.iconst 1, 1) := by decide +kernel
theorem dX5_allRising_1 : decode cX5_allRising 1 = .ok (.istore_n 2, 1) := by decide +kernel
theorem dX5_allRising_2 : decode cX5_allRising 2 = .ok (.iload_n 2, 1) := by decide +kernel
theorem dX5_allRising_3 : decode cX5_allRising 3 = .ok (.iload_n 1, 1) := by decide +kernel
theorem dX5_allRising_4 : decode cX5_allRising 4 = .ok (.if_icmp .ge 22, 3) := by decide +kernel
theorem dX5_allRising_7 : decode cX5_allRising 7 = .ok (.aload_n 0, 1) := by decide +kernel
theorem dX5_allRising_8 : decode cX5_allRising 8 = .ok (.iload_n 2, 1) := by decide +kernel
theorem dX5_allRising_9 : decode cX5_allRising 9 = .ok (.iaload, 1) := by decide +kernel
theorem dX5_allRising_10 : decode cX5_allRising 10 = .ok (.aload_n 0, 1) := by decide +kernel
theorem dX5_allRising_11 : decode cX5_allRising 11 = .ok (.iload_n 2, 1) := by decide +kernel
theorem dX5_allRising_12 : decode cX5_allRising 12 = .ok (.iconst 1, 1) := by decide +kernel
theorem dX5_allRising_13 : decode cX5_allRising 13 = .ok (.isub, 1) := by decide +kernel
theorem dX5_allRising_14 : decode cX5_allRising 14 = .ok (.iaload, 1) := by decide +kernel
theorem dX5_allRising_15 : decode cX5_allRising 15 = .ok (.if_icmp .gt 5, 3) := by decide +kernel
theorem dX5_allRising_18 : decode cX5_allRising 18 = .ok (.iconst 0, 1) := by decide +kernel
theorem dX5_allRising_19 : decode cX5_allRising 19 = .ok (.ireturn, 1) := by decide +kernel
theorem dX5_allRising_20 : decode cX5_allRising 20 = .ok (.iinc 2 1, 3) := by decide +kernel
theorem dX5_allRising_23 : decode cX5_allRising 23 = .ok (.goto (-21), 3) := by decide +kernel
theorem dX5_allRising_26 : decode cX5_allRising 26 = .ok (.iconst 1, 1) := by decide +kernel
theorem dX5_allRising_27 : decode cX5_allRising 27 = .ok (.ireturn, 1) := by decide +kernel
theorem dX5_allEven_0 : decode cX5_allEven 0 = .ok (.iconst 0, 1) := by decide +kernel
theorem dX5_allEven_1 : decode cX5_allEven 1 = .ok (.istore_n 2, 1) := by decide +kernel
theorem dX5_allEven_2 : decode cX5_allEven 2 = .ok (.iload_n 2, 1) := by decide +kernel
theorem dX5_allEven_3 : decode cX5_allEven 3 = .ok (.iload_n 1, 1) := by decide +kernel
theorem dX5_allEven_4 : decode cX5_allEven 4 = .ok (.if_icmp .ge 19, 3) := by decide +kernel
theorem dX5_allEven_7 : decode cX5_allEven 7 = .ok (.aload_n 0, 1) := by decide +kernel
theorem dX5_allEven_8 : decode cX5_allEven 8 = .ok (.iload_n 2, 1) := by decide +kernel
theorem dX5_allEven_9 : decode cX5_allEven 9 = .ok (.iaload, 1) := by decide +kernel
theorem dX5_allEven_10 : decode cX5_allEven 10 = .ok (.iconst 1, 1) := by decide +kernel
theorem dX5_allEven_11 : decode cX5_allEven 11 = .ok (.iand, 1) := by decide +kernel
theorem dX5_allEven_12 : decode cX5_allEven 12 = .ok (.ifCond .eq 5, 3) := by decide +kernel
theorem dX5_allEven_15 : decode cX5_allEven 15 = .ok (.iconst 0, 1) := by decide +kernel
theorem dX5_allEven_16 : decode cX5_allEven 16 = .ok (.ireturn, 1) := by decide +kernel
theorem dX5_allEven_17 : decode cX5_allEven 17 = .ok (.iinc 2 1, 3) := by decide +kernel
theorem dX5_allEven_20 : decode cX5_allEven 20 = .ok (.goto (-18), 3) := by decide +kernel
theorem dX5_allEven_23 : decode cX5_allEven 23 = .ok (.iconst 1, 1) := by decide +kernel
theorem dX5_allEven_24 : decode cX5_allEven 24 = .ok (.ireturn, 1) := by decide +kernel
theorem dX5_noneAbove_0 : decode cX5_noneAbove 0 = .ok (.iconst 0, 1) := by decide +kernel
theorem dX5_noneAbove_1 : decode cX5_noneAbove 1 = .ok (.istore_n 3, 1) := by decide +kernel
theorem dX5_noneAbove_2 : decode cX5_noneAbove 2 = .ok (.iload_n 3, 1) := by decide +kernel
theorem dX5_noneAbove_3 : decode cX5_noneAbove 3 = .ok (.iload_n 2, 1) := by decide +kernel
theorem dX5_noneAbove_4 : decode cX5_noneAbove 4 = .ok (.if_icmp .ge 18, 3) := by decide +kernel
theorem dX5_noneAbove_7 : decode cX5_noneAbove 7 = .ok (.aload_n 1, 1) := by decide +kernel
theorem dX5_noneAbove_8 : decode cX5_noneAbove 8 = .ok (.iload_n 3, 1) := by decide +kernel
theorem dX5_noneAbove_9 : decode cX5_noneAbove 9 = .ok (.iaload, 1) := by decide +kernel
theorem dX5_noneAbove_10 : decode cX5_noneAbove 10 = .ok (.iload_n 0, 1) := by decide +kernel
theorem dX5_noneAbove_11 : decode cX5_noneAbove 11 = .ok (.if_icmp .le 5, 3) := by decide +kernel
theorem dX5_noneAbove_14 : decode cX5_noneAbove 14 = .ok (.iconst 0, 1) := by decide +kernel
theorem dX5_noneAbove_15 : decode cX5_noneAbove 15 = .ok (.ireturn, 1) := by decide +kernel
theorem dX5_noneAbove_16 : decode cX5_noneAbove 16 = .ok (.iinc 3 1, 3) := by decide +kernel
theorem dX5_noneAbove_19 : decode cX5_noneAbove 19 = .ok (.goto (-17), 3) := by decide +kernel
theorem dX5_noneAbove_22 : decode cX5_noneAbove 22 = .ok (.iconst 1, 1) := by decide +kernel
theorem dX5_noneAbove_23 : decode cX5_noneAbove 23 = .ok (.ireturn, 1) := by decide +kernel
theorem dX5_together_0 : decode cX5_together 0 = .ok (.iconst 0, 1) := by decide +kernel
theorem dX5_together_1 : decode cX5_together 1 = .ok (.istore_n 2, 1) := by decide +kernel
theorem dX5_together_2 : decode cX5_together 2 = .ok (.iconst 0, 1) := by decide +kernel
theorem dX5_together_3 : decode cX5_together 3 = .ok (.istore_n 3, 1) := by decide +kernel
theorem dX5_together_4 : decode cX5_together 4 = .ok (.iload_n 3, 1) := by decide +kernel
theorem dX5_together_5 : decode cX5_together 5 = .ok (.iload_n 1, 1) := by decide +kernel
theorem dX5_together_6 : decode cX5_together 6 = .ok (.if_icmp .ge 15, 3) := by decide +kernel
theorem dX5_together_9 : decode cX5_together 9 = .ok (.iload_n 2, 1) := by decide +kernel
theorem dX5_together_10 : decode cX5_together 10 = .ok (.aload_n 0, 1) := by decide +kernel
theorem dX5_together_11 : decode cX5_together 11 = .ok (.iload_n 3, 1) := by decide +kernel
theorem dX5_together_12 : decode cX5_together 12 = .ok (.iaload, 1) := by decide +kernel
theorem dX5_together_13 : decode cX5_together 13 = .ok (.iadd, 1) := by decide +kernel
theorem dX5_together_14 : decode cX5_together 14 = .ok (.istore_n 2, 1) := by decide +kernel
theorem dX5_together_15 : decode cX5_together 15 = .ok (.iinc 3 1, 3) := by decide +kernel
theorem dX5_together_18 : decode cX5_together 18 = .ok (.goto (-14), 3) := by decide +kernel
theorem dX5_together_21 : decode cX5_together 21 = .ok (.iload_n 2, 1) := by decide +kernel
theorem dX5_together_22 : decode cX5_together 22 = .ok (.ireturn, 1) := by decide +kernel
theorem dX5_aheadOf_0 : decode cX5_aheadOf 0 = .ok (.iconst 0, 1) := by decide +kernel
theorem dX5_aheadOf_1 : decode cX5_aheadOf 1 = .ok (.istore_n 3, 1) := by decide +kernel
theorem dX5_aheadOf_2 : decode cX5_aheadOf 2 = .ok (.iconst 0, 1) := by decide +kernel
theorem dX5_aheadOf_3 : decode cX5_aheadOf 3 = .ok (.istore 4, 2) := by decide +kernel
theorem dX5_aheadOf_5 : decode cX5_aheadOf 5 = .ok (.iload 4, 2) := by decide +kernel
theorem dX5_aheadOf_7 : decode cX5_aheadOf 7 = .ok (.iload_n 2, 1) := by decide +kernel
theorem dX5_aheadOf_8 : decode cX5_aheadOf 8 = .ok (.if_icmp .ge 38, 3) := by decide +kernel
theorem dX5_aheadOf_11 : decode cX5_aheadOf 11 = .ok (.aload_n 1, 1) := by decide +kernel
theorem dX5_aheadOf_12 : decode cX5_aheadOf 12 = .ok (.iload 4, 2) := by decide +kernel
theorem dX5_aheadOf_14 : decode cX5_aheadOf 14 = .ok (.iaload, 1) := by decide +kernel
theorem dX5_aheadOf_15 : decode cX5_aheadOf 15 = .ok (.aload_n 1, 1) := by decide +kernel
theorem dX5_aheadOf_16 : decode cX5_aheadOf 16 = .ok (.iload_n 0, 1) := by decide +kernel
theorem dX5_aheadOf_17 : decode cX5_aheadOf 17 = .ok (.iaload, 1) := by decide +kernel
theorem dX5_aheadOf_18 : decode cX5_aheadOf 18 = .ok (.if_icmp .gt 19, 3) := by decide +kernel
theorem dX5_aheadOf_21 : decode cX5_aheadOf 21 = .ok (.aload_n 1, 1) := by decide +kernel
theorem dX5_aheadOf_22 : decode cX5_aheadOf 22 = .ok (.iload 4, 2) := by decide +kernel
theorem dX5_aheadOf_24 : decode cX5_aheadOf 24 = .ok (.iaload, 1) := by decide +kernel
theorem dX5_aheadOf_25 : decode cX5_aheadOf 25 = .ok (.aload_n 1, 1) := by decide +kernel
theorem dX5_aheadOf_26 : decode cX5_aheadOf 26 = .ok (.iload_n 0, 1) := by decide +kernel
theorem dX5_aheadOf_27 : decode cX5_aheadOf 27 = .ok (.iaload, 1) := by decide +kernel
theorem dX5_aheadOf_28 : decode cX5_aheadOf 28 = .ok (.if_icmp .ne 12, 3) := by decide +kernel
theorem dX5_aheadOf_31 : decode cX5_aheadOf 31 = .ok (.iload 4, 2) := by decide +kernel
theorem dX5_aheadOf_33 : decode cX5_aheadOf 33 = .ok (.iload_n 0, 1) := by decide +kernel
theorem dX5_aheadOf_34 : decode cX5_aheadOf 34 = .ok (.if_icmp .ge 6, 3) := by decide +kernel
theorem dX5_aheadOf_37 : decode cX5_aheadOf 37 = .ok (.iinc 3 1, 3) := by decide +kernel
theorem dX5_aheadOf_40 : decode cX5_aheadOf 40 = .ok (.iinc 4 1, 3) := by decide +kernel
theorem dX5_aheadOf_43 : decode cX5_aheadOf 43 = .ok (.goto (-38), 3) := by decide +kernel
theorem dX5_aheadOf_46 : decode cX5_aheadOf 46 = .ok (.iload_n 3, 1) := by decide +kernel
theorem dX5_aheadOf_47 : decode cX5_aheadOf 47 = .ok (.ireturn, 1) := by decide +kernel
theorem dX5_spreadOf_0 : decode cX5_spreadOf 0 = .ok (.aload_n 0, 1) := by decide +kernel
theorem dX5_spreadOf_1 : decode cX5_spreadOf 1 = .ok (.iconst 0, 1) := by decide +kernel
theorem dX5_spreadOf_2 : decode cX5_spreadOf 2 = .ok (.iaload, 1) := by decide +kernel
theorem dX5_spreadOf_3 : decode cX5_spreadOf 3 = .ok (.istore_n 2, 1) := by decide +kernel
theorem dX5_spreadOf_4 : decode cX5_spreadOf 4 = .ok (.aload_n 0, 1) := by decide +kernel
theorem dX5_spreadOf_5 : decode cX5_spreadOf 5 = .ok (.iconst 0, 1) := by decide +kernel
theorem dX5_spreadOf_6 : decode cX5_spreadOf 6 = .ok (.iaload, 1) := by decide +kernel
theorem dX5_spreadOf_7 : decode cX5_spreadOf 7 = .ok (.istore_n 3, 1) := by decide +kernel
theorem dX5_spreadOf_8 : decode cX5_spreadOf 8 = .ok (.iconst 1, 1) := by decide +kernel
theorem dX5_spreadOf_9 : decode cX5_spreadOf 9 = .ok (.istore 4, 2) := by decide +kernel
theorem dX5_spreadOf_11 : decode cX5_spreadOf 11 = .ok (.iload 4, 2) := by decide +kernel
theorem dX5_spreadOf_13 : decode cX5_spreadOf 13 = .ok (.iload_n 1, 1) := by decide +kernel
theorem dX5_spreadOf_14 : decode cX5_spreadOf 14 = .ok (.if_icmp .ge 27, 3) := by decide +kernel
theorem dX5_spreadOf_17 : decode cX5_spreadOf 17 = .ok (.iload_n 2, 1) := by decide +kernel
theorem dX5_spreadOf_18 : decode cX5_spreadOf 18 = .ok (.aload_n 0, 1) := by decide +kernel
theorem dX5_spreadOf_19 : decode cX5_spreadOf 19 = .ok (.iload 4, 2) := by decide +kernel
theorem dX5_spreadOf_21 : decode cX5_spreadOf 21 = .ok (.iaload, 1) := by decide +kernel
theorem dX5_spreadOf_22 : decode cX5_spreadOf 22 = .ok (.invokestatic 28, 3) := by decide +kernel
theorem dX5_spreadOf_25 : decode cX5_spreadOf 25 = .ok (.istore_n 2, 1) := by decide +kernel
theorem dX5_spreadOf_26 : decode cX5_spreadOf 26 = .ok (.iload_n 3, 1) := by decide +kernel
theorem dX5_spreadOf_27 : decode cX5_spreadOf 27 = .ok (.aload_n 0, 1) := by decide +kernel
theorem dX5_spreadOf_28 : decode cX5_spreadOf 28 = .ok (.iload 4, 2) := by decide +kernel
theorem dX5_spreadOf_30 : decode cX5_spreadOf 30 = .ok (.iaload, 1) := by decide +kernel
theorem dX5_spreadOf_31 : decode cX5_spreadOf 31 = .ok (.invokestatic 34, 3) := by decide +kernel
theorem dX5_spreadOf_34 : decode cX5_spreadOf 34 = .ok (.istore_n 3, 1) := by decide +kernel
theorem dX5_spreadOf_35 : decode cX5_spreadOf 35 = .ok (.iinc 4 1, 3) := by decide +kernel
theorem dX5_spreadOf_38 : decode cX5_spreadOf 38 = .ok (.goto (-27), 3) := by decide +kernel
theorem dX5_spreadOf_41 : decode cX5_spreadOf 41 = .ok (.iload_n 3, 1) := by decide +kernel
theorem dX5_spreadOf_42 : decode cX5_spreadOf 42 = .ok (.iload_n 2, 1) := by decide +kernel
theorem dX5_spreadOf_43 : decode cX5_spreadOf 43 = .ok (.isub, 1) := by decide +kernel
theorem dX5_spreadOf_44 : decode cX5_spreadOf 44 = .ok (.ireturn, 1) := by decide +kernel
theorem dX6_init_0 : decode cX6_init 0 = .ok (.aload_n 0, 1) := by decide +kernel
theorem dX6_init_1 : decode cX6_init 1 = .ok (.invokespecial 3, 3) := by decide +kernel
theorem dX6_init_4 : decode cX6_init 4 = .ok (.aload_n 0, 1) := by decide +kernel
theorem dX6_init_5 : decode cX6_init 5 = .ok (.bipush 7, 2) := by decide +kernel
theorem dX6_init_7 : decode cX6_init 7 = .ok (.bipush 8, 2) := by decide +kernel
theorem dX6_init_9 : decode cX6_init 9 = .ok (.multianewarray 9 2, 4) := by decide +kernel
theorem dX6_init_13 : decode cX6_init 13 = .ok (.putfield 11, 3) := by decide +kernel
theorem dX6_init_16 : decode cX6_init 16 = .ok (.aload_n 0, 1) := by decide +kernel
theorem dX6_init_17 : decode cX6_init 17 = .ok (.aload_n 1, 1) := by decide +kernel
theorem dX6_init_18 : decode cX6_init 18 = .ok (.putfield 16, 3) := by decide +kernel
theorem dX6_init_21 : decode cX6_init 21 = .ok (.return_, 1) := by decide +kernel
theorem dX6_rankOfTable_0 : decode cX6_rankOfTable 0 = .ok (.iconst 0, 1) := by decide +kernel
theorem dX6_rankOfTable_1 : decode cX6_rankOfTable 1 = .ok (.istore_n 1, 1) := by decide +kernel
theorem dX6_rankOfTable_2 : decode cX6_rankOfTable 2 = .ok (.iload_n 1, 1) := by decide +kernel
theorem dX6_rankOfTable_3 : decode cX6_rankOfTable 3 = .ok (.aload_n 0, 1) := by decide +kernel
theorem dX6_rankOfTable_4 : decode cX6_rankOfTable 4 = .ok (.getfield 16, 3) := by decide +kernel
theorem dX6_rankOfTable_7 : decode cX6_rankOfTable 7 = .ok (.getfield 20, 3) := by decide +kernel
theorem dX6_rankOfTable_10 : decode cX6_rankOfTable 10 = .ok (.if_icmp .ge 46, 3) := by decide +kernel
theorem dX6_rankOfTable_13 : decode cX6_rankOfTable 13 = .ok (.iconst 0, 1) := by decide +kernel
theorem dX6_rankOfTable_14 : decode cX6_rankOfTable 14 = .ok (.istore_n 2, 1) := by decide +kernel
theorem dX6_rankOfTable_15 : decode cX6_rankOfTable 15 = .ok (.iload_n 2, 1) := by decide +kernel
theorem dX6_rankOfTable_16 : decode cX6_rankOfTable 16 = .ok (.aload_n 0, 1) := by decide +kernel
theorem dX6_rankOfTable_17 : decode cX6_rankOfTable 17 = .ok (.getfield 16, 3) := by decide +kernel
theorem dX6_rankOfTable_20 : decode cX6_rankOfTable 20 = .ok (.getfield 26, 3) := by decide +kernel
theorem dX6_rankOfTable_23 : decode cX6_rankOfTable 23 = .ok (.if_icmp .ge 27, 3) := by decide +kernel
theorem dX6_rankOfTable_26 : decode cX6_rankOfTable 26 = .ok (.aload_n 0, 1) := by decide +kernel
theorem dX6_rankOfTable_27 : decode cX6_rankOfTable 27 = .ok (.getfield 11, 3) := by decide +kernel
theorem dX6_rankOfTable_30 : decode cX6_rankOfTable 30 = .ok (.iload_n 1, 1) := by decide +kernel
theorem dX6_rankOfTable_31 : decode cX6_rankOfTable 31 = .ok (.aaload, 1) := by decide +kernel
theorem dX6_rankOfTable_32 : decode cX6_rankOfTable 32 = .ok (.iload_n 2, 1) := by decide +kernel
theorem dX6_rankOfTable_33 : decode cX6_rankOfTable 33 = .ok (.aload_n 0, 1) := by decide +kernel
theorem dX6_rankOfTable_34 : decode cX6_rankOfTable 34 = .ok (.getfield 16, 3) := by decide +kernel
theorem dX6_rankOfTable_37 : decode cX6_rankOfTable 37 = .ok (.iload_n 1, 1) := by decide +kernel
theorem dX6_rankOfTable_38 : decode cX6_rankOfTable 38 = .ok (.iload_n 2, 1) := by decide +kernel
theorem dX6_rankOfTable_39 : decode cX6_rankOfTable 39 = .ok (.invokevirtual 29, 3) := by decide +kernel
theorem dX6_rankOfTable_42 : decode cX6_rankOfTable 42 = .ok (.i2l, 1) := by decide +kernel
theorem dX6_rankOfTable_43 : decode cX6_rankOfTable 43 = .ok (.lastore, 1) := by decide +kernel
theorem dX6_rankOfTable_44 : decode cX6_rankOfTable 44 = .ok (.iinc 2 1, 3) := by decide +kernel
theorem dX6_rankOfTable_47 : decode cX6_rankOfTable 47 = .ok (.goto (-32), 3) := by decide +kernel
theorem dX6_rankOfTable_50 : decode cX6_rankOfTable 50 = .ok (.iinc 1 1, 3) := by decide +kernel
theorem dX6_rankOfTable_53 : decode cX6_rankOfTable 53 = .ok (.goto (-51), 3) := by decide +kernel
theorem dX6_rankOfTable_56 : decode cX6_rankOfTable 56 = .ok (.iconst 0, 1) := by decide +kernel
theorem dX6_rankOfTable_57 : decode cX6_rankOfTable 57 = .ok (.istore_n 1, 1) := by decide +kernel
theorem dX6_rankOfTable_58 : decode cX6_rankOfTable 58 = .ok (.iconst 0, 1) := by decide +kernel
theorem dX6_rankOfTable_59 : decode cX6_rankOfTable 59 = .ok (.istore_n 2, 1) := by decide +kernel
theorem dX6_rankOfTable_60 : decode cX6_rankOfTable 60 = .ok (.iload_n 2, 1) := by decide +kernel
theorem dX6_rankOfTable_61 : decode cX6_rankOfTable 61 = .ok (.aload_n 0, 1) := by decide +kernel
theorem dX6_rankOfTable_62 : decode cX6_rankOfTable 62 = .ok (.getfield 16, 3) := by decide +kernel
theorem dX6_rankOfTable_65 : decode cX6_rankOfTable 65 = .ok (.getfield 26, 3) := by decide +kernel
theorem dX6_rankOfTable_68 : decode cX6_rankOfTable 68 = .ok (.if_icmp .ge 38, 3) := by decide +kernel
theorem dX6_rankOfTable_71 : decode cX6_rankOfTable 71 = .ok (.iload_n 1, 1) := by decide +kernel
theorem dX6_rankOfTable_72 : decode cX6_rankOfTable 72 = .ok (.aload_n 0, 1) := by decide +kernel
theorem dX6_rankOfTable_73 : decode cX6_rankOfTable 73 = .ok (.getfield 16, 3) := by decide +kernel
theorem dX6_rankOfTable_76 : decode cX6_rankOfTable 76 = .ok (.getfield 20, 3) := by decide +kernel
theorem dX6_rankOfTable_79 : decode cX6_rankOfTable 79 = .ok (.if_icmp .ge 27, 3) := by decide +kernel
theorem dX6_rankOfTable_82 : decode cX6_rankOfTable 82 = .ok (.aload_n 0, 1) := by decide +kernel
theorem dX6_rankOfTable_83 : decode cX6_rankOfTable 83 = .ok (.iload_n 1, 1) := by decide +kernel
theorem dX6_rankOfTable_84 : decode cX6_rankOfTable 84 = .ok (.iload_n 2, 1) := by decide +kernel
theorem dX6_rankOfTable_85 : decode cX6_rankOfTable 85 = .ok (.invokevirtual 33, 3) := by decide +kernel
theorem dX6_rankOfTable_88 : decode cX6_rankOfTable 88 = .ok (.ifCond .eq 12, 3) := by decide +kernel
theorem dX6_rankOfTable_91 : decode cX6_rankOfTable 91 = .ok (.aload_n 0, 1) := by decide +kernel
theorem dX6_rankOfTable_92 : decode cX6_rankOfTable 92 = .ok (.iload_n 1, 1) := by decide +kernel
theorem dX6_rankOfTable_93 : decode cX6_rankOfTable 93 = .ok (.iload_n 2, 1) := by decide +kernel
theorem dX6_rankOfTable_94 : decode cX6_rankOfTable 94 = .ok (.invokevirtual 37, 3) := by decide +kernel
theorem dX6_rankOfTable_97 : decode cX6_rankOfTable 97 = .ok (.iinc 1 1, 3) := by decide +kernel
theorem dX6_rankOfTable_100 : decode cX6_rankOfTable 100 = .ok (.iinc 2 1, 3) := by decide +kernel
theorem dX6_rankOfTable_103 : decode cX6_rankOfTable 103 = .ok (.goto (-43), 3) := by decide +kernel
theorem dX6_rankOfTable_106 : decode cX6_rankOfTable 106 = .ok (.iload_n 1, 1) := by decide +kernel
theorem dX6_rankOfTable_107 : decode cX6_rankOfTable 107 = .ok (.ireturn, 1) := by decide +kernel
theorem dX6_bringUp_0 : decode cX6_bringUp 0 = .ok (.iload_n 1, 1) := by decide +kernel
theorem dX6_bringUp_1 : decode cX6_bringUp 1 = .ok (.istore_n 3, 1) := by decide +kernel
theorem dX6_bringUp_2 : decode cX6_bringUp 2 = .ok (.iload_n 3, 1) := by decide +kernel
theorem dX6_bringUp_3 : decode cX6_bringUp 3 = .ok (.aload_n 0, 1) := by decide +kernel
theorem dX6_bringUp_4 : decode cX6_bringUp 4 = .ok (.getfield 16, 3) := by decide +kernel
theorem dX6_bringUp_7 : decode cX6_bringUp 7 = .ok (.getfield 20, 3) := by decide +kernel
theorem dX6_bringUp_10 : decode cX6_bringUp 10 = .ok (.if_icmp .ge 30, 3) := by decide +kernel
theorem dX6_bringUp_13 : decode cX6_bringUp 13 = .ok (.aload_n 0, 1) := by decide +kernel
theorem dX6_bringUp_14 : decode cX6_bringUp 14 = .ok (.getfield 11, 3) := by decide +kernel
theorem dX6_bringUp_17 : decode cX6_bringUp 17 = .ok (.iload_n 3, 1) := by decide +kernel
theorem dX6_bringUp_18 : decode cX6_bringUp 18 = .ok (.aaload, 1) := by decide +kernel
theorem dX6_bringUp_19 : decode cX6_bringUp 19 = .ok (.iload_n 2, 1) := by decide +kernel
theorem dX6_bringUp_20 : decode cX6_bringUp 20 = .ok (.laload, 1) := by decide +kernel
theorem dX6_bringUp_21 : decode cX6_bringUp 21 = .ok (.lconst 0, 1) := by decide +kernel
theorem dX6_bringUp_22 : decode cX6_bringUp 22 = .ok (.lcmp, 1) := by decide +kernel
theorem dX6_bringUp_23 : decode cX6_bringUp 23 = .ok (.ifCond .eq 11, 3) := by decide +kernel
theorem dX6_bringUp_26 : decode cX6_bringUp 26 = .ok (.aload_n 0, 1) := by decide +kernel
theorem dX6_bringUp_27 : decode cX6_bringUp 27 = .ok (.iload_n 1, 1) := by decide +kernel
theorem dX6_bringUp_28 : decode cX6_bringUp 28 = .ok (.iload_n 3, 1) := by decide +kernel
theorem dX6_bringUp_29 : decode cX6_bringUp 29 = .ok (.invokevirtual 41, 3) := by decide +kernel
theorem dX6_bringUp_32 : decode cX6_bringUp 32 = .ok (.iconst 1, 1) := by decide +kernel
theorem dX6_bringUp_33 : decode cX6_bringUp 33 = .ok (.ireturn, 1) := by decide +kernel
theorem dX6_bringUp_34 : decode cX6_bringUp 34 = .ok (.iinc 3 1, 3) := by decide +kernel
theorem dX6_bringUp_37 : decode cX6_bringUp 37 = .ok (.goto (-35), 3) := by decide +kernel
theorem dX6_bringUp_40 : decode cX6_bringUp 40 = .ok (.iconst 0, 1) := by decide +kernel
theorem dX6_bringUp_41 : decode cX6_bringUp 41 = .ok (.ireturn, 1) := by decide +kernel
theorem dX6_exchangeRows_0 : decode cX6_exchangeRows 0 = .ok (.iconst 0, 1) := by decide +kernel
theorem dX6_exchangeRows_1 : decode cX6_exchangeRows 1 = .ok (.istore_n 3, 1) := by decide +kernel
theorem dX6_exchangeRows_2 : decode cX6_exchangeRows 2 = .ok (.iload_n 3, 1) := by decide +kernel
theorem dX6_exchangeRows_3 : decode cX6_exchangeRows 3 = .ok (.aload_n 0, 1) := by decide +kernel
theorem dX6_exchangeRows_4 : decode cX6_exchangeRows 4 = .ok (.getfield 16, 3) := by decide +kernel
theorem dX6_exchangeRows_7 : decode cX6_exchangeRows 7 = .ok (.getfield 26, 3) := by decide +kernel
theorem dX6_exchangeRows_10 : decode cX6_exchangeRows 10 = .ok (.if_icmp .ge 45, 3) := by decide +kernel
theorem dX6_exchangeRows_13 : decode cX6_exchangeRows 13 = .ok (.aload_n 0, 1) := by decide +kernel
theorem dX6_exchangeRows_14 : decode cX6_exchangeRows 14 = .ok (.getfield 11, 3) := by decide +kernel
theorem dX6_exchangeRows_17 : decode cX6_exchangeRows 17 = .ok (.iload_n 1, 1) := by decide +kernel
theorem dX6_exchangeRows_18 : decode cX6_exchangeRows 18 = .ok (.aaload, 1) := by decide +kernel
theorem dX6_exchangeRows_19 : decode cX6_exchangeRows 19 = .ok (.iload_n 3, 1) := by decide +kernel
theorem dX6_exchangeRows_20 : decode cX6_exchangeRows 20 = .ok (.laload, 1) := by decide +kernel
theorem dX6_exchangeRows_21 : decode cX6_exchangeRows 21 = .ok (.lstore 4, 2) := by decide +kernel
theorem dX6_exchangeRows_23 : decode cX6_exchangeRows 23 = .ok (.aload_n 0, 1) := by decide +kernel
theorem dX6_exchangeRows_24 : decode cX6_exchangeRows 24 = .ok (.getfield 11, 3) := by decide +kernel
theorem dX6_exchangeRows_27 : decode cX6_exchangeRows 27 = .ok (.iload_n 1, 1) := by decide +kernel
theorem dX6_exchangeRows_28 : decode cX6_exchangeRows 28 = .ok (.aaload, 1) := by decide +kernel
theorem dX6_exchangeRows_29 : decode cX6_exchangeRows 29 = .ok (.iload_n 3, 1) := by decide +kernel
theorem dX6_exchangeRows_30 : decode cX6_exchangeRows 30 = .ok (.aload_n 0, 1) := by decide +kernel
theorem dX6_exchangeRows_31 : decode cX6_exchangeRows 31 = .ok (.getfield 11, 3) := by decide +kernel
theorem dX6_exchangeRows_34 : decode cX6_exchangeRows 34 = .ok (.iload_n 2, 1) := by decide +kernel
theorem dX6_exchangeRows_35 : decode cX6_exchangeRows 35 = .ok (.aaload, 1) := by decide +kernel
theorem dX6_exchangeRows_36 : decode cX6_exchangeRows 36 = .ok (.iload_n 3, 1) := by decide +kernel
theorem dX6_exchangeRows_37 : decode cX6_exchangeRows 37 = .ok (.laload, 1) := by decide +kernel
theorem dX6_exchangeRows_38 : decode cX6_exchangeRows 38 = .ok (.lastore, 1) := by decide +kernel
theorem dX6_exchangeRows_39 : decode cX6_exchangeRows 39 = .ok (.aload_n 0, 1) := by decide +kernel
theorem dX6_exchangeRows_40 : decode cX6_exchangeRows 40 = .ok (.getfield 11, 3) := by decide +kernel
theorem dX6_exchangeRows_43 : decode cX6_exchangeRows 43 = .ok (.iload_n 2, 1) := by decide +kernel
theorem dX6_exchangeRows_44 : decode cX6_exchangeRows 44 = .ok (.aaload, 1) := by decide +kernel
theorem dX6_exchangeRows_45 : decode cX6_exchangeRows 45 = .ok (.iload_n 3, 1) := by decide +kernel
theorem dX6_exchangeRows_46 : decode cX6_exchangeRows 46 = .ok (.lload 4, 2) := by decide +kernel
theorem dX6_exchangeRows_48 : decode cX6_exchangeRows 48 = .ok (.lastore, 1) := by decide +kernel
theorem dX6_exchangeRows_49 : decode cX6_exchangeRows 49 = .ok (.iinc 3 1, 3) := by decide +kernel
theorem dX6_exchangeRows_52 : decode cX6_exchangeRows 52 = .ok (.goto (-50), 3) := by decide +kernel
theorem dX6_exchangeRows_55 : decode cX6_exchangeRows 55 = .ok (.return_, 1) := by decide +kernel
theorem dX6_clearBelow_0 : decode cX6_clearBelow 0 = .ok (.aload_n 0, 1) := by decide +kernel
theorem dX6_clearBelow_1 : decode cX6_clearBelow 1 = .ok (.getfield 11, 3) := by decide +kernel
theorem dX6_clearBelow_4 : decode cX6_clearBelow 4 = .ok (.iload_n 1, 1) := by decide +kernel
theorem dX6_clearBelow_5 : decode cX6_clearBelow 5 = .ok (.aaload, 1) := by decide +kernel
theorem dX6_clearBelow_6 : decode cX6_clearBelow 6 = .ok (.iload_n 2, 1) := by decide +kernel
theorem dX6_clearBelow_7 : decode cX6_clearBelow 7 = .ok (.laload, 1) := by decide +kernel
theorem dX6_clearBelow_8 : decode cX6_clearBelow 8 = .ok (.lstore_n 3, 1) := by decide +kernel
theorem dX6_clearBelow_9 : decode cX6_clearBelow 9 = .ok (.iload_n 1, 1) := by decide +kernel
theorem dX6_clearBelow_10 : decode cX6_clearBelow 10 = .ok (.iconst 1, 1) := by decide +kernel
theorem dX6_clearBelow_11 : decode cX6_clearBelow 11 = .ok (.iadd, 1) := by decide +kernel
theorem dX6_clearBelow_12 : decode cX6_clearBelow 12 = .ok (.istore 5, 2) := by decide +kernel
theorem dX6_clearBelow_14 : decode cX6_clearBelow 14 = .ok (.iload 5, 2) := by decide +kernel
theorem dX6_clearBelow_16 : decode cX6_clearBelow 16 = .ok (.aload_n 0, 1) := by decide +kernel
theorem dX6_clearBelow_17 : decode cX6_clearBelow 17 = .ok (.getfield 16, 3) := by decide +kernel
theorem dX6_clearBelow_20 : decode cX6_clearBelow 20 = .ok (.getfield 20, 3) := by decide +kernel
theorem dX6_clearBelow_23 : decode cX6_clearBelow 23 = .ok (.if_icmp .ge 80, 3) := by decide +kernel
theorem dX6_clearBelow_26 : decode cX6_clearBelow 26 = .ok (.aload_n 0, 1) := by decide +kernel
theorem dX6_clearBelow_27 : decode cX6_clearBelow 27 = .ok (.getfield 11, 3) := by decide +kernel
theorem dX6_clearBelow_30 : decode cX6_clearBelow 30 = .ok (.iload 5, 2) := by decide +kernel
theorem dX6_clearBelow_32 : decode cX6_clearBelow 32 = .ok (.aaload, 1) := by decide +kernel
theorem dX6_clearBelow_33 : decode cX6_clearBelow 33 = .ok (.iload_n 2, 1) := by decide +kernel
theorem dX6_clearBelow_34 : decode cX6_clearBelow 34 = .ok (.laload, 1) := by decide +kernel
theorem dX6_clearBelow_35 : decode cX6_clearBelow 35 = .ok (.lstore 6, 2) := by decide +kernel
theorem dX6_clearBelow_37 : decode cX6_clearBelow 37 = .ok (.iload_n 2, 1) := by decide +kernel
theorem dX6_clearBelow_38 : decode cX6_clearBelow 38 = .ok (.istore 8, 2) := by decide +kernel
theorem dX6_clearBelow_40 : decode cX6_clearBelow 40 = .ok (.iload 8, 2) := by decide +kernel
theorem dX6_clearBelow_42 : decode cX6_clearBelow 42 = .ok (.aload_n 0, 1) := by decide +kernel
theorem dX6_clearBelow_43 : decode cX6_clearBelow 43 = .ok (.getfield 16, 3) := by decide +kernel
theorem dX6_clearBelow_46 : decode cX6_clearBelow 46 = .ok (.getfield 26, 3) := by decide +kernel
theorem dX6_clearBelow_49 : decode cX6_clearBelow 49 = .ok (.if_icmp .ge 48, 3) := by decide +kernel
theorem dX6_clearBelow_52 : decode cX6_clearBelow 52 = .ok (.aload_n 0, 1) := by decide +kernel
theorem dX6_clearBelow_53 : decode cX6_clearBelow 53 = .ok (.getfield 11, 3) := by decide +kernel
theorem dX6_clearBelow_56 : decode cX6_clearBelow 56 = .ok (.iload 5, 2) := by decide +kernel
theorem dX6_clearBelow_58 : decode cX6_clearBelow 58 = .ok (.aaload, 1) := by decide +kernel
theorem dX6_clearBelow_59 : decode cX6_clearBelow 59 = .ok (.iload 8, 2) := by decide +kernel
theorem dX6_clearBelow_61 : decode cX6_clearBelow 61 = .ok (.aload_n 0, 1) := by decide +kernel
theorem dX6_clearBelow_62 : decode cX6_clearBelow 62 = .ok (.getfield 11, 3) := by decide +kernel
theorem dX6_clearBelow_65 : decode cX6_clearBelow 65 = .ok (.iload 5, 2) := by decide +kernel
theorem dX6_clearBelow_67 : decode cX6_clearBelow 67 = .ok (.aaload, 1) := by decide +kernel
theorem dX6_clearBelow_68 : decode cX6_clearBelow 68 = .ok (.iload 8, 2) := by decide +kernel
theorem dX6_clearBelow_70 : decode cX6_clearBelow 70 = .ok (.laload, 1) := by decide +kernel
theorem dX6_clearBelow_71 : decode cX6_clearBelow 71 = .ok (.lload_n 3, 1) := by decide +kernel
theorem dX6_clearBelow_72 : decode cX6_clearBelow 72 = .ok (.lmul, 1) := by decide +kernel
theorem dX6_clearBelow_73 : decode cX6_clearBelow 73 = .ok (.aload_n 0, 1) := by decide +kernel
theorem dX6_clearBelow_74 : decode cX6_clearBelow 74 = .ok (.getfield 11, 3) := by decide +kernel
theorem dX6_clearBelow_77 : decode cX6_clearBelow 77 = .ok (.iload_n 1, 1) := by decide +kernel
theorem dX6_clearBelow_78 : decode cX6_clearBelow 78 = .ok (.aaload, 1) := by decide +kernel
theorem dX6_clearBelow_79 : decode cX6_clearBelow 79 = .ok (.iload 8, 2) := by decide +kernel
theorem dX6_clearBelow_81 : decode cX6_clearBelow 81 = .ok (.laload, 1) := by decide +kernel
theorem dX6_clearBelow_82 : decode cX6_clearBelow 82 = .ok (.lload 6, 2) := by decide +kernel
theorem dX6_clearBelow_84 : decode cX6_clearBelow 84 = .ok (.lmul, 1) := by decide +kernel
theorem dX6_clearBelow_85 : decode cX6_clearBelow 85 = .ok (.lsub, 1) := by decide +kernel
theorem dX6_clearBelow_86 : decode cX6_clearBelow 86 = .ok (.ldc2_w 44, 3) := by decide +kernel
theorem dX6_clearBelow_89 : decode cX6_clearBelow 89 = .ok (.lrem, 1) := by decide +kernel
theorem dX6_clearBelow_90 : decode cX6_clearBelow 90 = .ok (.lastore, 1) := by decide +kernel
theorem dX6_clearBelow_91 : decode cX6_clearBelow 91 = .ok (.iinc 8 1, 3) := by decide +kernel
theorem dX6_clearBelow_94 : decode cX6_clearBelow 94 = .ok (.goto (-54), 3) := by decide +kernel
theorem dX6_clearBelow_97 : decode cX6_clearBelow 97 = .ok (.iinc 5 1, 3) := by decide +kernel
theorem dX6_clearBelow_100 : decode cX6_clearBelow 100 = .ok (.goto (-86), 3) := by decide +kernel
theorem dX6_clearBelow_103 : decode cX6_clearBelow 103 = .ok (.return_, 1) := by decide +kernel
theorem dX6_reached_0 : decode cX6_reached 0 = .ok (.iconst 1, 1) := by decide +kernel
theorem dX6_reached_1 : decode cX6_reached 1 = .ok (.iload_n 1, 1) := by decide +kernel
theorem dX6_reached_2 : decode cX6_reached 2 = .ok (.ishl, 1) := by decide +kernel
theorem dX6_reached_3 : decode cX6_reached 3 = .ok (.istore_n 2, 1) := by decide +kernel
theorem dX6_reached_4 : decode cX6_reached 4 = .ok (.iconst 0, 1) := by decide +kernel
theorem dX6_reached_5 : decode cX6_reached 5 = .ok (.istore_n 3, 1) := by decide +kernel
theorem dX6_reached_6 : decode cX6_reached 6 = .ok (.iload_n 3, 1) := by decide +kernel
theorem dX6_reached_7 : decode cX6_reached 7 = .ok (.bipush 14, 2) := by decide +kernel
theorem dX6_reached_9 : decode cX6_reached 9 = .ok (.if_icmp .ge 96, 3) := by decide +kernel
theorem dX6_reached_12 : decode cX6_reached 12 = .ok (.iload_n 2, 1) := by decide +kernel
theorem dX6_reached_13 : decode cX6_reached 13 = .ok (.istore 4, 2) := by decide +kernel
theorem dX6_reached_15 : decode cX6_reached 15 = .ok (.iconst 0, 1) := by decide +kernel
theorem dX6_reached_16 : decode cX6_reached 16 = .ok (.istore 5, 2) := by decide +kernel
theorem dX6_reached_18 : decode cX6_reached 18 = .ok (.iload 5, 2) := by decide +kernel
theorem dX6_reached_20 : decode cX6_reached 20 = .ok (.aload_n 0, 1) := by decide +kernel
theorem dX6_reached_21 : decode cX6_reached 21 = .ok (.getfield 16, 3) := by decide +kernel
theorem dX6_reached_24 : decode cX6_reached 24 = .ok (.getfield 26, 3) := by decide +kernel
theorem dX6_reached_27 : decode cX6_reached 27 = .ok (.if_icmp .ge 63, 3) := by decide +kernel
theorem dX6_reached_30 : decode cX6_reached 30 = .ok (.iload_n 2, 1) := by decide +kernel
theorem dX6_reached_31 : decode cX6_reached 31 = .ok (.iload_n 2, 1) := by decide +kernel
theorem dX6_reached_32 : decode cX6_reached 32 = .ok (.aload_n 0, 1) := by decide +kernel
theorem dX6_reached_33 : decode cX6_reached 33 = .ok (.getfield 16, 3) := by decide +kernel
theorem dX6_reached_36 : decode cX6_reached 36 = .ok (.getfield 46, 3) := by decide +kernel
theorem dX6_reached_39 : decode cX6_reached 39 = .ok (.iload 5, 2) := by decide +kernel
theorem dX6_reached_41 : decode cX6_reached 41 = .ok (.iaload, 1) := by decide +kernel
theorem dX6_reached_42 : decode cX6_reached 42 = .ok (.aload_n 0, 1) := by decide +kernel
theorem dX6_reached_43 : decode cX6_reached 43 = .ok (.getfield 16, 3) := by decide +kernel
theorem dX6_reached_46 : decode cX6_reached 46 = .ok (.getfield 50, 3) := by decide +kernel
theorem dX6_reached_49 : decode cX6_reached 49 = .ok (.iload 5, 2) := by decide +kernel
theorem dX6_reached_51 : decode cX6_reached 51 = .ok (.iaload, 1) := by decide +kernel
theorem dX6_reached_52 : decode cX6_reached 52 = .ok (.invokestatic 53, 3) := by decide +kernel
theorem dX6_reached_55 : decode cX6_reached 55 = .ok (.ior, 1) := by decide +kernel
theorem dX6_reached_56 : decode cX6_reached 56 = .ok (.istore_n 2, 1) := by decide +kernel
theorem dX6_reached_57 : decode cX6_reached 57 = .ok (.iload_n 2, 1) := by decide +kernel
theorem dX6_reached_58 : decode cX6_reached 58 = .ok (.iload_n 2, 1) := by decide +kernel
theorem dX6_reached_59 : decode cX6_reached 59 = .ok (.aload_n 0, 1) := by decide +kernel
theorem dX6_reached_60 : decode cX6_reached 60 = .ok (.getfield 16, 3) := by decide +kernel
theorem dX6_reached_63 : decode cX6_reached 63 = .ok (.getfield 50, 3) := by decide +kernel
theorem dX6_reached_66 : decode cX6_reached 66 = .ok (.iload 5, 2) := by decide +kernel
theorem dX6_reached_68 : decode cX6_reached 68 = .ok (.iaload, 1) := by decide +kernel
theorem dX6_reached_69 : decode cX6_reached 69 = .ok (.aload_n 0, 1) := by decide +kernel
theorem dX6_reached_70 : decode cX6_reached 70 = .ok (.getfield 16, 3) := by decide +kernel
theorem dX6_reached_73 : decode cX6_reached 73 = .ok (.getfield 46, 3) := by decide +kernel
theorem dX6_reached_76 : decode cX6_reached 76 = .ok (.iload 5, 2) := by decide +kernel
theorem dX6_reached_78 : decode cX6_reached 78 = .ok (.iaload, 1) := by decide +kernel
theorem dX6_reached_79 : decode cX6_reached 79 = .ok (.invokestatic 53, 3) := by decide +kernel
theorem dX6_reached_82 : decode cX6_reached 82 = .ok (.ior, 1) := by decide +kernel
theorem dX6_reached_83 : decode cX6_reached 83 = .ok (.istore_n 2, 1) := by decide +kernel
theorem dX6_reached_84 : decode cX6_reached 84 = .ok (.iinc 5 1, 3) := by decide +kernel
theorem dX6_reached_87 : decode cX6_reached 87 = .ok (.goto (-69), 3) := by decide +kernel
theorem dX6_reached_90 : decode cX6_reached 90 = .ok (.iload_n 2, 1) := by decide +kernel
theorem dX6_reached_91 : decode cX6_reached 91 = .ok (.iload 4, 2) := by decide +kernel
theorem dX6_reached_93 : decode cX6_reached 93 = .ok (.if_icmp .ne 6, 3) := by decide +kernel
theorem dX6_reached_96 : decode cX6_reached 96 = .ok (.goto 9, 3) := by decide +kernel
theorem dX6_reached_99 : decode cX6_reached 99 = .ok (.iinc 3 1, 3) := by decide +kernel
theorem dX6_reached_102 : decode cX6_reached 102 = .ok (.goto (-96), 3) := by decide +kernel
theorem dX6_reached_105 : decode cX6_reached 105 = .ok (.iload_n 2, 1) := by decide +kernel
theorem dX6_reached_106 : decode cX6_reached 106 = .ok (.ireturn, 1) := by decide +kernel
theorem dX6_across_0 : decode cX6_across 0 = .ok (.iload_n 0, 1) := by decide +kernel
theorem dX6_across_1 : decode cX6_across 1 = .ok (.iload_n 1, 1) := by decide +kernel
theorem dX6_across_2 : decode cX6_across 2 = .ok (.ishr, 1) := by decide +kernel
theorem dX6_across_3 : decode cX6_across 3 = .ok (.iconst 1, 1) := by decide +kernel
theorem dX6_across_4 : decode cX6_across 4 = .ok (.iand, 1) := by decide +kernel
theorem dX6_across_5 : decode cX6_across 5 = .ok (.iload_n 2, 1) := by decide +kernel
theorem dX6_across_6 : decode cX6_across 6 = .ok (.bipush 7, 2) := by decide +kernel
theorem dX6_across_8 : decode cX6_across 8 = .ok (.iadd, 1) := by decide +kernel
theorem dX6_across_9 : decode cX6_across 9 = .ok (.ishl, 1) := by decide +kernel
theorem dX6_across_10 : decode cX6_across 10 = .ok (.istore_n 3, 1) := by decide +kernel
theorem dX6_across_11 : decode cX6_across 11 = .ok (.iload_n 0, 1) := by decide +kernel
theorem dX6_across_12 : decode cX6_across 12 = .ok (.iload_n 1, 1) := by decide +kernel
theorem dX6_across_13 : decode cX6_across 13 = .ok (.bipush 7, 2) := by decide +kernel
theorem dX6_across_15 : decode cX6_across 15 = .ok (.iadd, 1) := by decide +kernel
theorem dX6_across_16 : decode cX6_across 16 = .ok (.ishr, 1) := by decide +kernel
theorem dX6_across_17 : decode cX6_across 17 = .ok (.iconst 1, 1) := by decide +kernel
theorem dX6_across_18 : decode cX6_across 18 = .ok (.iand, 1) := by decide +kernel
theorem dX6_across_19 : decode cX6_across 19 = .ok (.iload_n 2, 1) := by decide +kernel
theorem dX6_across_20 : decode cX6_across 20 = .ok (.ishl, 1) := by decide +kernel
theorem dX6_across_21 : decode cX6_across 21 = .ok (.istore 4, 2) := by decide +kernel
theorem dX6_across_23 : decode cX6_across 23 = .ok (.iload_n 3, 1) := by decide +kernel
theorem dX6_across_24 : decode cX6_across 24 = .ok (.iload 4, 2) := by decide +kernel
theorem dX6_across_26 : decode cX6_across 26 = .ok (.ior, 1) := by decide +kernel
theorem dX6_across_27 : decode cX6_across 27 = .ok (.ireturn, 1) := by decide +kernel
theorem dX6_partOf_0 : decode cX6_partOf 0 = .ok (.aload_n 0, 1) := by decide +kernel
theorem dX6_partOf_1 : decode cX6_partOf 1 = .ok (.iload_n 1, 1) := by decide +kernel
theorem dX6_partOf_2 : decode cX6_partOf 2 = .ok (.invokevirtual 57, 3) := by decide +kernel
theorem dX6_partOf_5 : decode cX6_partOf 5 = .ok (.istore_n 2, 1) := by decide +kernel
theorem dX6_partOf_6 : decode cX6_partOf 6 = .ok (.iload_n 2, 1) := by decide +kernel
theorem dX6_partOf_7 : decode cX6_partOf 7 = .ok (.iload_n 2, 1) := by decide +kernel
theorem dX6_partOf_8 : decode cX6_partOf 8 = .ok (.bipush 7, 2) := by decide +kernel
theorem dX6_partOf_10 : decode cX6_partOf 10 = .ok (.ishr, 1) := by decide +kernel
theorem dX6_partOf_11 : decode cX6_partOf 11 = .ok (.ior, 1) := by decide +kernel
theorem dX6_partOf_12 : decode cX6_partOf 12 = .ok (.bipush 127, 2) := by decide +kernel
theorem dX6_partOf_14 : decode cX6_partOf 14 = .ok (.iand, 1) := by decide +kernel
theorem dX6_partOf_15 : decode cX6_partOf 15 = .ok (.ireturn, 1) := by decide +kernel
theorem dX6_partCount_0 : decode cX6_partCount 0 = .ok (.iconst 0, 1) := by decide +kernel
theorem dX6_partCount_1 : decode cX6_partCount 1 = .ok (.istore_n 1, 1) := by decide +kernel
theorem dX6_partCount_2 : decode cX6_partCount 2 = .ok (.iconst 0, 1) := by decide +kernel
theorem dX6_partCount_3 : decode cX6_partCount 3 = .ok (.istore_n 2, 1) := by decide +kernel
theorem dX6_partCount_4 : decode cX6_partCount 4 = .ok (.iload_n 2, 1) := by decide +kernel
theorem dX6_partCount_5 : decode cX6_partCount 5 = .ok (.aload_n 0, 1) := by decide +kernel
theorem dX6_partCount_6 : decode cX6_partCount 6 = .ok (.getfield 16, 3) := by decide +kernel
theorem dX6_partCount_9 : decode cX6_partCount 9 = .ok (.getfield 20, 3) := by decide +kernel
theorem dX6_partCount_12 : decode cX6_partCount 12 = .ok (.if_icmp .ge 24, 3) := by decide +kernel
theorem dX6_partCount_15 : decode cX6_partCount 15 = .ok (.aload_n 0, 1) := by decide +kernel
theorem dX6_partCount_16 : decode cX6_partCount 16 = .ok (.iload_n 2, 1) := by decide +kernel
theorem dX6_partCount_17 : decode cX6_partCount 17 = .ok (.invokevirtual 61, 3) := by decide +kernel
theorem dX6_partCount_20 : decode cX6_partCount 20 = .ok (.invokestatic 64, 3) := by decide +kernel
theorem dX6_partCount_23 : decode cX6_partCount 23 = .ok (.iload_n 2, 1) := by decide +kernel
theorem dX6_partCount_24 : decode cX6_partCount 24 = .ok (.if_icmp .ne 6, 3) := by decide +kernel
theorem dX6_partCount_27 : decode cX6_partCount 27 = .ok (.iinc 1 1, 3) := by decide +kernel
theorem dX6_partCount_30 : decode cX6_partCount 30 = .ok (.iinc 2 1, 3) := by decide +kernel
theorem dX6_partCount_33 : decode cX6_partCount 33 = .ok (.goto (-29), 3) := by decide +kernel
theorem dX6_partCount_36 : decode cX6_partCount 36 = .ok (.iload_n 1, 1) := by decide +kernel
theorem dX6_partCount_37 : decode cX6_partCount 37 = .ok (.ireturn, 1) := by decide +kernel
theorem dX6_leastOf_0 : decode cX6_leastOf 0 = .ok (.iconst 0, 1) := by decide +kernel
theorem dX6_leastOf_1 : decode cX6_leastOf 1 = .ok (.istore_n 1, 1) := by decide +kernel
theorem dX6_leastOf_2 : decode cX6_leastOf 2 = .ok (.iload_n 1, 1) := by decide +kernel
theorem dX6_leastOf_3 : decode cX6_leastOf 3 = .ok (.bipush 7, 2) := by decide +kernel
theorem dX6_leastOf_5 : decode cX6_leastOf 5 = .ok (.if_icmp .ge 17, 3) := by decide +kernel
theorem dX6_leastOf_8 : decode cX6_leastOf 8 = .ok (.iload_n 0, 1) := by decide +kernel
theorem dX6_leastOf_9 : decode cX6_leastOf 9 = .ok (.iload_n 1, 1) := by decide +kernel
theorem dX6_leastOf_10 : decode cX6_leastOf 10 = .ok (.ishr, 1) := by decide +kernel
theorem dX6_leastOf_11 : decode cX6_leastOf 11 = .ok (.iconst 1, 1) := by decide +kernel
theorem dX6_leastOf_12 : decode cX6_leastOf 12 = .ok (.iand, 1) := by decide +kernel
theorem dX6_leastOf_13 : decode cX6_leastOf 13 = .ok (.ifCond .ne 9, 3) := by decide +kernel
theorem dX6_leastOf_16 : decode cX6_leastOf 16 = .ok (.iinc 1 1, 3) := by decide +kernel
theorem dX6_leastOf_19 : decode cX6_leastOf 19 = .ok (.goto (-17), 3) := by decide +kernel
theorem dX6_leastOf_22 : decode cX6_leastOf 22 = .ok (.iload_n 1, 1) := by decide +kernel
theorem dX6_leastOf_23 : decode cX6_leastOf 23 = .ok (.ireturn, 1) := by decide +kernel
theorem dX6_hasSides_0 : decode cX6_hasSides 0 = .ok (.iconst 0, 1) := by decide +kernel
theorem dX6_hasSides_1 : decode cX6_hasSides 1 = .ok (.istore_n 1, 1) := by decide +kernel
theorem dX6_hasSides_2 : decode cX6_hasSides 2 = .ok (.iload_n 1, 1) := by decide +kernel
theorem dX6_hasSides_3 : decode cX6_hasSides 3 = .ok (.aload_n 0, 1) := by decide +kernel
theorem dX6_hasSides_4 : decode cX6_hasSides 4 = .ok (.getfield 16, 3) := by decide +kernel
theorem dX6_hasSides_7 : decode cX6_hasSides 7 = .ok (.getfield 20, 3) := by decide +kernel
theorem dX6_hasSides_10 : decode cX6_hasSides 10 = .ok (.if_icmp .ge 20, 3) := by decide +kernel
theorem dX6_hasSides_13 : decode cX6_hasSides 13 = .ok (.aload_n 0, 1) := by decide +kernel
theorem dX6_hasSides_14 : decode cX6_hasSides 14 = .ok (.iload_n 1, 1) := by decide +kernel
theorem dX6_hasSides_15 : decode cX6_hasSides 15 = .ok (.iload_n 1, 1) := by decide +kernel
theorem dX6_hasSides_16 : decode cX6_hasSides 16 = .ok (.invokevirtual 67, 3) := by decide +kernel
theorem dX6_hasSides_19 : decode cX6_hasSides 19 = .ok (.ifCond .eq 5, 3) := by decide +kernel
theorem dX6_hasSides_22 : decode cX6_hasSides 22 = .ok (.iconst 0, 1) := by decide +kernel
theorem dX6_hasSides_23 : decode cX6_hasSides 23 = .ok (.ireturn, 1) := by decide +kernel
theorem dX6_hasSides_24 : decode cX6_hasSides 24 = .ok (.iinc 1 1, 3) := by decide +kernel
theorem dX6_hasSides_27 : decode cX6_hasSides 27 = .ok (.goto (-25), 3) := by decide +kernel
theorem dX6_hasSides_30 : decode cX6_hasSides 30 = .ok (.iconst 1, 1) := by decide +kernel
theorem dX6_hasSides_31 : decode cX6_hasSides 31 = .ok (.ireturn, 1) := by decide +kernel
theorem dX6_sideOf_0 : decode cX6_sideOf 0 = .ok (.aload_n 0, 1) := by decide +kernel
theorem dX6_sideOf_1 : decode cX6_sideOf 1 = .ok (.aload_n 0, 1) := by decide +kernel
theorem dX6_sideOf_2 : decode cX6_sideOf 2 = .ok (.iload_n 1, 1) := by decide +kernel
theorem dX6_sideOf_3 : decode cX6_sideOf 3 = .ok (.invokevirtual 61, 3) := by decide +kernel
theorem dX6_sideOf_6 : decode cX6_sideOf 6 = .ok (.invokestatic 64, 3) := by decide +kernel
theorem dX6_sideOf_9 : decode cX6_sideOf 9 = .ok (.iload_n 1, 1) := by decide +kernel
theorem dX6_sideOf_10 : decode cX6_sideOf 10 = .ok (.invokevirtual 67, 3) := by decide +kernel
theorem dX6_sideOf_13 : decode cX6_sideOf 13 = .ok (.ifCond .eq 7, 3) := by decide +kernel
theorem dX6_sideOf_16 : decode cX6_sideOf 16 = .ok (.iconst 1, 1) := by decide +kernel
theorem dX6_sideOf_17 : decode cX6_sideOf 17 = .ok (.goto 4, 3) := by decide +kernel
theorem dX6_sideOf_20 : decode cX6_sideOf 20 = .ok (.iconst 0, 1) := by decide +kernel
theorem dX6_sideOf_21 : decode cX6_sideOf 21 = .ok (.ireturn, 1) := by decide +kernel
theorem dX6_isOddFrom_0 : decode cX6_isOddFrom 0 = .ok (.aload_n 0, 1) := by decide +kernel
theorem dX6_isOddFrom_1 : decode cX6_isOddFrom 1 = .ok (.iload_n 1, 1) := by decide +kernel
theorem dX6_isOddFrom_2 : decode cX6_isOddFrom 2 = .ok (.invokevirtual 57, 3) := by decide +kernel
theorem dX6_isOddFrom_5 : decode cX6_isOddFrom 5 = .ok (.iload_n 2, 1) := by decide +kernel
theorem dX6_isOddFrom_6 : decode cX6_isOddFrom 6 = .ok (.bipush 7, 2) := by decide +kernel
theorem dX6_isOddFrom_8 : decode cX6_isOddFrom 8 = .ok (.iadd, 1) := by decide +kernel
theorem dX6_isOddFrom_9 : decode cX6_isOddFrom 9 = .ok (.ishr, 1) := by decide +kernel
theorem dX6_isOddFrom_10 : decode cX6_isOddFrom 10 = .ok (.iconst 1, 1) := by decide +kernel
theorem dX6_isOddFrom_11 : decode cX6_isOddFrom 11 = .ok (.iand, 1) := by decide +kernel
theorem dX6_isOddFrom_12 : decode cX6_isOddFrom 12 = .ok (.ifCond .eq 7, 3) := by decide +kernel
theorem dX6_isOddFrom_15 : decode cX6_isOddFrom 15 = .ok (.iconst 1, 1) := by decide +kernel
theorem dX6_isOddFrom_16 : decode cX6_isOddFrom 16 = .ok (.goto 4, 3) := by decide +kernel
theorem dX6_isOddFrom_19 : decode cX6_isOddFrom 19 = .ok (.iconst 0, 1) := by decide +kernel
theorem dX6_isOddFrom_20 : decode cX6_isOddFrom 20 = .ok (.ireturn, 1) := by decide +kernel
theorem dX7_init_0 : decode cX7_init 0 = .ok (.aload_n 0, 1) := by decide +kernel
theorem dX7_init_1 : decode cX7_init 1 = .ok (.invokespecial 3, 3) := by decide +kernel
theorem dX7_init_4 : decode cX7_init 4 = .ok (.aload_n 0, 1) := by decide +kernel
theorem dX7_init_5 : decode cX7_init 5 = .ok (.bipush 8, 2) := by decide +kernel
theorem dX7_init_7 : decode cX7_init 7 = .ok (.newarray .int, 2) := by decide +kernel
theorem dX7_init_9 : decode cX7_init 9 = .ok (.putfield 9, 3) := by decide +kernel
theorem dX7_init_12 : decode cX7_init 12 = .ok (.aload_n 0, 1) := by decide +kernel
theorem dX7_init_13 : decode cX7_init 13 = .ok (.bipush 7, 2) := by decide +kernel
theorem dX7_init_15 : decode cX7_init 15 = .ok (.newarray .int, 2) := by decide +kernel
theorem dX7_init_17 : decode cX7_init 17 = .ok (.putfield 15, 3) := by decide +kernel
theorem dX7_init_20 : decode cX7_init 20 = .ok (.aload_n 0, 1) := by decide +kernel
theorem dX7_init_21 : decode cX7_init 21 = .ok (.bipush 8, 2) := by decide +kernel
theorem dX7_init_23 : decode cX7_init 23 = .ok (.newarray .int, 2) := by decide +kernel
theorem dX7_init_25 : decode cX7_init 25 = .ok (.putfield 18, 3) := by decide +kernel
theorem dX7_init_28 : decode cX7_init 28 = .ok (.aload_n 0, 1) := by decide +kernel
theorem dX7_init_29 : decode cX7_init 29 = .ok (.bipush 8, 2) := by decide +kernel
theorem dX7_init_31 : decode cX7_init 31 = .ok (.newarray .int, 2) := by decide +kernel
theorem dX7_init_33 : decode cX7_init 33 = .ok (.putfield 21, 3) := by decide +kernel
theorem dX7_init_36 : decode cX7_init 36 = .ok (.aload_n 0, 1) := by decide +kernel
theorem dX7_init_37 : decode cX7_init 37 = .ok (.bipush 7, 2) := by decide +kernel
theorem dX7_init_39 : decode cX7_init 39 = .ok (.newarray .int, 2) := by decide +kernel
theorem dX7_init_41 : decode cX7_init 41 = .ok (.putfield 24, 3) := by decide +kernel
theorem dX7_init_44 : decode cX7_init 44 = .ok (.aload_n 0, 1) := by decide +kernel
theorem dX7_init_45 : decode cX7_init 45 = .ok (.iconst 0, 1) := by decide +kernel
theorem dX7_init_46 : decode cX7_init 46 = .ok (.putfield 27, 3) := by decide +kernel
theorem dX7_init_49 : decode cX7_init 49 = .ok (.aload_n 0, 1) := by decide +kernel
theorem dX7_init_50 : decode cX7_init 50 = .ok (.iconst 0, 1) := by decide +kernel
theorem dX7_init_51 : decode cX7_init 51 = .ok (.putfield 31, 3) := by decide +kernel
theorem dX7_init_54 : decode cX7_init 54 = .ok (.aload_n 0, 1) := by decide +kernel
theorem dX7_init_55 : decode cX7_init 55 = .ok (.aload_n 1, 1) := by decide +kernel
theorem dX7_init_56 : decode cX7_init 56 = .ok (.putfield 34, 3) := by decide +kernel
theorem dX7_init_59 : decode cX7_init 59 = .ok (.return_, 1) := by decide +kernel
theorem dX7_begin_0 : decode cX7_begin 0 = .ok (.iconst 0, 1) := by decide +kernel
theorem dX7_begin_1 : decode cX7_begin 1 = .ok (.istore_n 1, 1) := by decide +kernel
theorem dX7_begin_2 : decode cX7_begin 2 = .ok (.iload_n 1, 1) := by decide +kernel
theorem dX7_begin_3 : decode cX7_begin 3 = .ok (.bipush 7, 2) := by decide +kernel
theorem dX7_begin_5 : decode cX7_begin 5 = .ok (.if_icmp .ge 23, 3) := by decide +kernel
theorem dX7_begin_8 : decode cX7_begin 8 = .ok (.aload_n 0, 1) := by decide +kernel
theorem dX7_begin_9 : decode cX7_begin 9 = .ok (.getfield 15, 3) := by decide +kernel
theorem dX7_begin_12 : decode cX7_begin 12 = .ok (.iload_n 1, 1) := by decide +kernel
theorem dX7_begin_13 : decode cX7_begin 13 = .ok (.iconst 0, 1) := by decide +kernel
theorem dX7_begin_14 : decode cX7_begin 14 = .ok (.iastore, 1) := by decide +kernel
theorem dX7_begin_15 : decode cX7_begin 15 = .ok (.aload_n 0, 1) := by decide +kernel
theorem dX7_begin_16 : decode cX7_begin 16 = .ok (.getfield 24, 3) := by decide +kernel
theorem dX7_begin_19 : decode cX7_begin 19 = .ok (.iload_n 1, 1) := by decide +kernel
theorem dX7_begin_20 : decode cX7_begin 20 = .ok (.iconst (-1), 1) := by decide +kernel
theorem dX7_begin_21 : decode cX7_begin 21 = .ok (.iastore, 1) := by decide +kernel
theorem dX7_begin_22 : decode cX7_begin 22 = .ok (.iinc 1 1, 3) := by decide +kernel
theorem dX7_begin_25 : decode cX7_begin 25 = .ok (.goto (-23), 3) := by decide +kernel
theorem dX7_begin_28 : decode cX7_begin 28 = .ok (.iconst 0, 1) := by decide +kernel
theorem dX7_begin_29 : decode cX7_begin 29 = .ok (.istore_n 1, 1) := by decide +kernel
theorem dX7_begin_30 : decode cX7_begin 30 = .ok (.iload_n 1, 1) := by decide +kernel
theorem dX7_begin_31 : decode cX7_begin 31 = .ok (.aload_n 0, 1) := by decide +kernel
theorem dX7_begin_32 : decode cX7_begin 32 = .ok (.getfield 34, 3) := by decide +kernel
theorem dX7_begin_35 : decode cX7_begin 35 = .ok (.getfield 38, 3) := by decide +kernel
theorem dX7_begin_38 : decode cX7_begin 38 = .ok (.if_icmp .ge 92, 3) := by decide +kernel
theorem dX7_begin_41 : decode cX7_begin 41 = .ok (.aload_n 0, 1) := by decide +kernel
theorem dX7_begin_42 : decode cX7_begin 42 = .ok (.getfield 9, 3) := by decide +kernel
theorem dX7_begin_45 : decode cX7_begin 45 = .ok (.iload_n 1, 1) := by decide +kernel
theorem dX7_begin_46 : decode cX7_begin 46 = .ok (.iconst 0, 1) := by decide +kernel
theorem dX7_begin_47 : decode cX7_begin 47 = .ok (.iastore, 1) := by decide +kernel
theorem dX7_begin_48 : decode cX7_begin 48 = .ok (.aload_n 0, 1) := by decide +kernel
theorem dX7_begin_49 : decode cX7_begin 49 = .ok (.getfield 18, 3) := by decide +kernel
theorem dX7_begin_52 : decode cX7_begin 52 = .ok (.iload_n 1, 1) := by decide +kernel
theorem dX7_begin_53 : decode cX7_begin 53 = .ok (.aload_n 0, 1) := by decide +kernel
theorem dX7_begin_54 : decode cX7_begin 54 = .ok (.getfield 34, 3) := by decide +kernel
theorem dX7_begin_57 : decode cX7_begin 57 = .ok (.iload_n 1, 1) := by decide +kernel
theorem dX7_begin_58 : decode cX7_begin 58 = .ok (.invokevirtual 43, 3) := by decide +kernel
theorem dX7_begin_61 : decode cX7_begin 61 = .ok (.iastore, 1) := by decide +kernel
theorem dX7_begin_62 : decode cX7_begin 62 = .ok (.aload_n 0, 1) := by decide +kernel
theorem dX7_begin_63 : decode cX7_begin 63 = .ok (.getfield 21, 3) := by decide +kernel
theorem dX7_begin_66 : decode cX7_begin 66 = .ok (.iload_n 1, 1) := by decide +kernel
theorem dX7_begin_67 : decode cX7_begin 67 = .ok (.aload_n 0, 1) := by decide +kernel
theorem dX7_begin_68 : decode cX7_begin 68 = .ok (.getfield 34, 3) := by decide +kernel
theorem dX7_begin_71 : decode cX7_begin 71 = .ok (.iload_n 1, 1) := by decide +kernel
theorem dX7_begin_72 : decode cX7_begin 72 = .ok (.invokevirtual 47, 3) := by decide +kernel
theorem dX7_begin_75 : decode cX7_begin 75 = .ok (.iastore, 1) := by decide +kernel
theorem dX7_begin_76 : decode cX7_begin 76 = .ok (.aload_n 0, 1) := by decide +kernel
theorem dX7_begin_77 : decode cX7_begin 77 = .ok (.getfield 18, 3) := by decide +kernel
theorem dX7_begin_80 : decode cX7_begin 80 = .ok (.iload_n 1, 1) := by decide +kernel
theorem dX7_begin_81 : decode cX7_begin 81 = .ok (.iaload, 1) := by decide +kernel
theorem dX7_begin_82 : decode cX7_begin 82 = .ok (.ifCond .le 18, 3) := by decide +kernel
theorem dX7_begin_85 : decode cX7_begin 85 = .ok (.aload_n 0, 1) := by decide +kernel
theorem dX7_begin_86 : decode cX7_begin 86 = .ok (.getfield 24, 3) := by decide +kernel
theorem dX7_begin_89 : decode cX7_begin 89 = .ok (.aload_n 0, 1) := by decide +kernel
theorem dX7_begin_90 : decode cX7_begin 90 = .ok (.getfield 34, 3) := by decide +kernel
theorem dX7_begin_93 : decode cX7_begin 93 = .ok (.getfield 50, 3) := by decide +kernel
theorem dX7_begin_96 : decode cX7_begin 96 = .ok (.iload_n 1, 1) := by decide +kernel
theorem dX7_begin_97 : decode cX7_begin 97 = .ok (.iaload, 1) := by decide +kernel
theorem dX7_begin_98 : decode cX7_begin 98 = .ok (.iload_n 1, 1) := by decide +kernel
theorem dX7_begin_99 : decode cX7_begin 99 = .ok (.iastore, 1) := by decide +kernel
theorem dX7_begin_100 : decode cX7_begin 100 = .ok (.aload_n 0, 1) := by decide +kernel
theorem dX7_begin_101 : decode cX7_begin 101 = .ok (.getfield 21, 3) := by decide +kernel
theorem dX7_begin_104 : decode cX7_begin 104 = .ok (.iload_n 1, 1) := by decide +kernel
theorem dX7_begin_105 : decode cX7_begin 105 = .ok (.iaload, 1) := by decide +kernel
theorem dX7_begin_106 : decode cX7_begin 106 = .ok (.ifCond .le 18, 3) := by decide +kernel
theorem dX7_begin_109 : decode cX7_begin 109 = .ok (.aload_n 0, 1) := by decide +kernel
theorem dX7_begin_110 : decode cX7_begin 110 = .ok (.getfield 24, 3) := by decide +kernel
theorem dX7_begin_113 : decode cX7_begin 113 = .ok (.aload_n 0, 1) := by decide +kernel
theorem dX7_begin_114 : decode cX7_begin 114 = .ok (.getfield 34, 3) := by decide +kernel
theorem dX7_begin_117 : decode cX7_begin 117 = .ok (.getfield 53, 3) := by decide +kernel
theorem dX7_begin_120 : decode cX7_begin 120 = .ok (.iload_n 1, 1) := by decide +kernel
theorem dX7_begin_121 : decode cX7_begin 121 = .ok (.iaload, 1) := by decide +kernel
theorem dX7_begin_122 : decode cX7_begin 122 = .ok (.iload_n 1, 1) := by decide +kernel
theorem dX7_begin_123 : decode cX7_begin 123 = .ok (.iastore, 1) := by decide +kernel
theorem dX7_begin_124 : decode cX7_begin 124 = .ok (.iinc 1 1, 3) := by decide +kernel
theorem dX7_begin_127 : decode cX7_begin 127 = .ok (.goto (-97), 3) := by decide +kernel
theorem dX7_begin_130 : decode cX7_begin 130 = .ok (.return_, 1) := by decide +kernel
theorem dX7_relabel_0 : decode cX7_relabel 0 = .ok (.iload_n 2, 1) := by decide +kernel
theorem dX7_relabel_1 : decode cX7_relabel 1 = .ok (.aload_n 0, 1) := by decide +kernel
theorem dX7_relabel_2 : decode cX7_relabel 2 = .ok (.getfield 9, 3) := by decide +kernel
theorem dX7_relabel_5 : decode cX7_relabel 5 = .ok (.iload_n 1, 1) := by decide +kernel
theorem dX7_relabel_6 : decode cX7_relabel 6 = .ok (.iaload, 1) := by decide +kernel
theorem dX7_relabel_7 : decode cX7_relabel 7 = .ok (.isub, 1) := by decide +kernel
theorem dX7_relabel_8 : decode cX7_relabel 8 = .ok (.istore_n 3, 1) := by decide +kernel
theorem dX7_relabel_9 : decode cX7_relabel 9 = .ok (.aload_n 0, 1) := by decide +kernel
theorem dX7_relabel_10 : decode cX7_relabel 10 = .ok (.getfield 9, 3) := by decide +kernel
theorem dX7_relabel_13 : decode cX7_relabel 13 = .ok (.iload_n 1, 1) := by decide +kernel
theorem dX7_relabel_14 : decode cX7_relabel 14 = .ok (.iload_n 2, 1) := by decide +kernel
theorem dX7_relabel_15 : decode cX7_relabel 15 = .ok (.iastore, 1) := by decide +kernel
theorem dX7_relabel_16 : decode cX7_relabel 16 = .ok (.aload_n 0, 1) := by decide +kernel
theorem dX7_relabel_17 : decode cX7_relabel 17 = .ok (.getfield 15, 3) := by decide +kernel
theorem dX7_relabel_20 : decode cX7_relabel 20 = .ok (.aload_n 0, 1) := by decide +kernel
theorem dX7_relabel_21 : decode cX7_relabel 21 = .ok (.getfield 34, 3) := by decide +kernel
theorem dX7_relabel_24 : decode cX7_relabel 24 = .ok (.getfield 50, 3) := by decide +kernel
theorem dX7_relabel_27 : decode cX7_relabel 27 = .ok (.iload_n 1, 1) := by decide +kernel
theorem dX7_relabel_28 : decode cX7_relabel 28 = .ok (.iaload, 1) := by decide +kernel
theorem dX7_relabel_29 : decode cX7_relabel 29 = .ok (.dup2, 1) := by decide +kernel
theorem dX7_relabel_30 : decode cX7_relabel 30 = .ok (.iaload, 1) := by decide +kernel
theorem dX7_relabel_31 : decode cX7_relabel 31 = .ok (.iload_n 3, 1) := by decide +kernel
theorem dX7_relabel_32 : decode cX7_relabel 32 = .ok (.aload_n 0, 1) := by decide +kernel
theorem dX7_relabel_33 : decode cX7_relabel 33 = .ok (.getfield 18, 3) := by decide +kernel
theorem dX7_relabel_36 : decode cX7_relabel 36 = .ok (.iload_n 1, 1) := by decide +kernel
theorem dX7_relabel_37 : decode cX7_relabel 37 = .ok (.iaload, 1) := by decide +kernel
theorem dX7_relabel_38 : decode cX7_relabel 38 = .ok (.imul, 1) := by decide +kernel
theorem dX7_relabel_39 : decode cX7_relabel 39 = .ok (.iadd, 1) := by decide +kernel
theorem dX7_relabel_40 : decode cX7_relabel 40 = .ok (.iastore, 1) := by decide +kernel
theorem dX7_relabel_41 : decode cX7_relabel 41 = .ok (.aload_n 0, 1) := by decide +kernel
theorem dX7_relabel_42 : decode cX7_relabel 42 = .ok (.getfield 15, 3) := by decide +kernel
theorem dX7_relabel_45 : decode cX7_relabel 45 = .ok (.aload_n 0, 1) := by decide +kernel
theorem dX7_relabel_46 : decode cX7_relabel 46 = .ok (.getfield 34, 3) := by decide +kernel
theorem dX7_relabel_49 : decode cX7_relabel 49 = .ok (.getfield 53, 3) := by decide +kernel
theorem dX7_relabel_52 : decode cX7_relabel 52 = .ok (.iload_n 1, 1) := by decide +kernel
theorem dX7_relabel_53 : decode cX7_relabel 53 = .ok (.iaload, 1) := by decide +kernel
theorem dX7_relabel_54 : decode cX7_relabel 54 = .ok (.dup2, 1) := by decide +kernel
theorem dX7_relabel_55 : decode cX7_relabel 55 = .ok (.iaload, 1) := by decide +kernel
theorem dX7_relabel_56 : decode cX7_relabel 56 = .ok (.iload_n 3, 1) := by decide +kernel
theorem dX7_relabel_57 : decode cX7_relabel 57 = .ok (.aload_n 0, 1) := by decide +kernel
theorem dX7_relabel_58 : decode cX7_relabel 58 = .ok (.getfield 21, 3) := by decide +kernel
theorem dX7_relabel_61 : decode cX7_relabel 61 = .ok (.iload_n 1, 1) := by decide +kernel
theorem dX7_relabel_62 : decode cX7_relabel 62 = .ok (.iaload, 1) := by decide +kernel
theorem dX7_relabel_63 : decode cX7_relabel 63 = .ok (.imul, 1) := by decide +kernel
theorem dX7_relabel_64 : decode cX7_relabel 64 = .ok (.iadd, 1) := by decide +kernel
theorem dX7_relabel_65 : decode cX7_relabel 65 = .ok (.iastore, 1) := by decide +kernel
theorem dX7_relabel_66 : decode cX7_relabel 66 = .ok (.return_, 1) := by decide +kernel
theorem dX7_findWays_0 : decode cX7_findWays 0 = .ok (.aload_n 0, 1) := by decide +kernel
theorem dX7_findWays_1 : decode cX7_findWays 1 = .ok (.invokevirtual 56, 3) := by decide +kernel
theorem dX7_findWays_4 : decode cX7_findWays 4 = .ok (.iload_n 2, 1) := by decide +kernel
theorem dX7_findWays_5 : decode cX7_findWays 5 = .ok (.iconst 1, 1) := by decide +kernel
theorem dX7_findWays_6 : decode cX7_findWays 6 = .ok (.iadd, 1) := by decide +kernel
theorem dX7_findWays_7 : decode cX7_findWays 7 = .ok (.aload_n 0, 1) := by decide +kernel
theorem dX7_findWays_8 : decode cX7_findWays 8 = .ok (.getfield 34, 3) := by decide +kernel
theorem dX7_findWays_11 : decode cX7_findWays 11 = .ok (.getfield 38, 3) := by decide +kernel
theorem dX7_findWays_14 : decode cX7_findWays 14 = .ok (.invokestatic 59, 3) := by decide +kernel
theorem dX7_findWays_17 : decode cX7_findWays 17 = .ok (.istore 4, 2) := by decide +kernel
theorem dX7_findWays_19 : decode cX7_findWays 19 = .ok (.iconst 0, 1) := by decide +kernel
theorem dX7_findWays_20 : decode cX7_findWays 20 = .ok (.istore 5, 2) := by decide +kernel
theorem dX7_findWays_22 : decode cX7_findWays 22 = .ok (.iconst 0, 1) := by decide +kernel
theorem dX7_findWays_23 : decode cX7_findWays 23 = .ok (.istore 6, 2) := by decide +kernel
theorem dX7_findWays_25 : decode cX7_findWays 25 = .ok (.iload 6, 2) := by decide +kernel
theorem dX7_findWays_27 : decode cX7_findWays 27 = .ok (.iload 4, 2) := by decide +kernel
theorem dX7_findWays_29 : decode cX7_findWays 29 = .ok (.if_icmp .ge 46, 3) := by decide +kernel
theorem dX7_findWays_32 : decode cX7_findWays 32 = .ok (.iload_n 1, 1) := by decide +kernel
theorem dX7_findWays_33 : decode cX7_findWays 33 = .ok (.aload_n 0, 1) := by decide +kernel
theorem dX7_findWays_34 : decode cX7_findWays 34 = .ok (.getfield 15, 3) := by decide +kernel
theorem dX7_findWays_37 : decode cX7_findWays 37 = .ok (.aload_n 0, 1) := by decide +kernel
theorem dX7_findWays_38 : decode cX7_findWays 38 = .ok (.getfield 34, 3) := by decide +kernel
theorem dX7_findWays_41 : decode cX7_findWays 41 = .ok (.getfield 63, 3) := by decide +kernel
theorem dX7_findWays_44 : decode cX7_findWays 44 = .ok (.invokestatic 66, 3) := by decide +kernel
theorem dX7_findWays_47 : decode cX7_findWays 47 = .ok (.ifCond .eq 17, 3) := by decide +kernel
theorem dX7_findWays_50 : decode cX7_findWays 50 = .ok (.iinc 5 1, 3) := by decide +kernel
theorem dX7_findWays_53 : decode cX7_findWays 53 = .ok (.iload 5, 2) := by decide +kernel
theorem dX7_findWays_55 : decode cX7_findWays 55 = .ok (.iconst 1, 1) := by decide +kernel
theorem dX7_findWays_56 : decode cX7_findWays 56 = .ok (.isub, 1) := by decide +kernel
theorem dX7_findWays_57 : decode cX7_findWays 57 = .ok (.iload_n 3, 1) := by decide +kernel
theorem dX7_findWays_58 : decode cX7_findWays 58 = .ok (.if_icmp .ne 6, 3) := by decide +kernel
theorem dX7_findWays_61 : decode cX7_findWays 61 = .ok (.iload 5, 2) := by decide +kernel
theorem dX7_findWays_63 : decode cX7_findWays 63 = .ok (.ireturn, 1) := by decide +kernel
theorem dX7_findWays_64 : decode cX7_findWays 64 = .ok (.aload_n 0, 1) := by decide +kernel
theorem dX7_findWays_65 : decode cX7_findWays 65 = .ok (.iload_n 2, 1) := by decide +kernel
theorem dX7_findWays_66 : decode cX7_findWays 66 = .ok (.invokevirtual 72, 3) := by decide +kernel
theorem dX7_findWays_69 : decode cX7_findWays 69 = .ok (.iinc 6 1, 3) := by decide +kernel
theorem dX7_findWays_72 : decode cX7_findWays 72 = .ok (.goto (-47), 3) := by decide +kernel
theorem dX7_findWays_75 : decode cX7_findWays 75 = .ok (.iload 5, 2) := by decide +kernel
theorem dX7_findWays_77 : decode cX7_findWays 77 = .ok (.ireturn, 1) := by decide +kernel
theorem dX7_nextLabels_0 : decode cX7_nextLabels 0 = .ok (.aload_n 0, 1) := by decide +kernel
theorem dX7_nextLabels_1 : decode cX7_nextLabels 1 = .ok (.getfield 34, 3) := by decide +kernel
theorem dX7_nextLabels_4 : decode cX7_nextLabels 4 = .ok (.getfield 38, 3) := by decide +kernel
theorem dX7_nextLabels_7 : decode cX7_nextLabels 7 = .ok (.iconst 1, 1) := by decide +kernel
theorem dX7_nextLabels_8 : decode cX7_nextLabels 8 = .ok (.isub, 1) := by decide +kernel
theorem dX7_nextLabels_9 : decode cX7_nextLabels 9 = .ok (.istore_n 2, 1) := by decide +kernel
theorem dX7_nextLabels_10 : decode cX7_nextLabels 10 = .ok (.iload_n 2, 1) := by decide +kernel
theorem dX7_nextLabels_11 : decode cX7_nextLabels 11 = .ok (.ifCond .lt 39, 3) := by decide +kernel
theorem dX7_nextLabels_14 : decode cX7_nextLabels 14 = .ok (.aload_n 0, 1) := by decide +kernel
theorem dX7_nextLabels_15 : decode cX7_nextLabels 15 = .ok (.getfield 9, 3) := by decide +kernel
theorem dX7_nextLabels_18 : decode cX7_nextLabels 18 = .ok (.iload_n 2, 1) := by decide +kernel
theorem dX7_nextLabels_19 : decode cX7_nextLabels 19 = .ok (.iaload, 1) := by decide +kernel
theorem dX7_nextLabels_20 : decode cX7_nextLabels 20 = .ok (.iload_n 1, 1) := by decide +kernel
theorem dX7_nextLabels_21 : decode cX7_nextLabels 21 = .ok (.if_icmp .ge 17, 3) := by decide +kernel
theorem dX7_nextLabels_24 : decode cX7_nextLabels 24 = .ok (.aload_n 0, 1) := by decide +kernel
theorem dX7_nextLabels_25 : decode cX7_nextLabels 25 = .ok (.iload_n 2, 1) := by decide +kernel
theorem dX7_nextLabels_26 : decode cX7_nextLabels 26 = .ok (.aload_n 0, 1) := by decide +kernel
theorem dX7_nextLabels_27 : decode cX7_nextLabels 27 = .ok (.getfield 9, 3) := by decide +kernel
theorem dX7_nextLabels_30 : decode cX7_nextLabels 30 = .ok (.iload_n 2, 1) := by decide +kernel
theorem dX7_nextLabels_31 : decode cX7_nextLabels 31 = .ok (.iaload, 1) := by decide +kernel
theorem dX7_nextLabels_32 : decode cX7_nextLabels 32 = .ok (.iconst 1, 1) := by decide +kernel
theorem dX7_nextLabels_33 : decode cX7_nextLabels 33 = .ok (.iadd, 1) := by decide +kernel
theorem dX7_nextLabels_34 : decode cX7_nextLabels 34 = .ok (.invokevirtual 76, 3) := by decide +kernel
theorem dX7_nextLabels_37 : decode cX7_nextLabels 37 = .ok (.return_, 1) := by decide +kernel
theorem dX7_nextLabels_38 : decode cX7_nextLabels 38 = .ok (.aload_n 0, 1) := by decide +kernel
theorem dX7_nextLabels_39 : decode cX7_nextLabels 39 = .ok (.iload_n 2, 1) := by decide +kernel
theorem dX7_nextLabels_40 : decode cX7_nextLabels 40 = .ok (.iconst 0, 1) := by decide +kernel
theorem dX7_nextLabels_41 : decode cX7_nextLabels 41 = .ok (.invokevirtual 76, 3) := by decide +kernel
theorem dX7_nextLabels_44 : decode cX7_nextLabels 44 = .ok (.iinc 2 (-1), 3) := by decide +kernel
theorem dX7_nextLabels_47 : decode cX7_nextLabels 47 = .ok (.goto (-37), 3) := by decide +kernel
theorem dX7_nextLabels_50 : decode cX7_nextLabels 50 = .ok (.return_, 1) := by decide +kernel
theorem dX7_findMagic_0 : decode cX7_findMagic 0 = .ok (.aload_n 0, 1) := by decide +kernel
theorem dX7_findMagic_1 : decode cX7_findMagic 1 = .ok (.invokevirtual 56, 3) := by decide +kernel
theorem dX7_findMagic_4 : decode cX7_findMagic 4 = .ok (.aload_n 0, 1) := by decide +kernel
theorem dX7_findMagic_5 : decode cX7_findMagic 5 = .ok (.iconst 0, 1) := by decide +kernel
theorem dX7_findMagic_6 : decode cX7_findMagic 6 = .ok (.putfield 27, 3) := by decide +kernel
theorem dX7_findMagic_9 : decode cX7_findMagic 9 = .ok (.iload_n 1, 1) := by decide +kernel
theorem dX7_findMagic_10 : decode cX7_findMagic 10 = .ok (.ifCond .eq 10, 3) := by decide +kernel
theorem dX7_findMagic_13 : decode cX7_findMagic 13 = .ok (.aload_n 0, 1) := by decide +kernel
theorem dX7_findMagic_14 : decode cX7_findMagic 14 = .ok (.invokevirtual 80, 3) := by decide +kernel
theorem dX7_findMagic_17 : decode cX7_findMagic 17 = .ok (.ifCond .eq 11, 3) := by decide +kernel
theorem dX7_findMagic_20 : decode cX7_findMagic 20 = .ok (.aload_n 0, 1) := by decide +kernel
theorem dX7_findMagic_21 : decode cX7_findMagic 21 = .ok (.iconst 0, 1) := by decide +kernel
theorem dX7_findMagic_22 : decode cX7_findMagic 22 = .ok (.iload_n 1, 1) := by decide +kernel
theorem dX7_findMagic_23 : decode cX7_findMagic 23 = .ok (.iload_n 2, 1) := by decide +kernel
theorem dX7_findMagic_24 : decode cX7_findMagic 24 = .ok (.invokestatic 84, 3) := by decide +kernel
theorem dX7_findMagic_27 : decode cX7_findMagic 27 = .ok (.pop, 1) := by decide +kernel
theorem dX7_findMagic_28 : decode cX7_findMagic 28 = .ok (.aload_n 0, 1) := by decide +kernel
theorem dX7_findMagic_29 : decode cX7_findMagic 29 = .ok (.getfield 27, 3) := by decide +kernel
theorem dX7_findMagic_32 : decode cX7_findMagic 32 = .ok (.ireturn, 1) := by decide +kernel
theorem dX7_allPointsCount_0 : decode cX7_allPointsCount 0 = .ok (.iconst 0, 1) := by decide +kernel
theorem dX7_allPointsCount_1 : decode cX7_allPointsCount 1 = .ok (.istore_n 1, 1) := by decide +kernel
theorem dX7_allPointsCount_2 : decode cX7_allPointsCount 2 = .ok (.iload_n 1, 1) := by decide +kernel
theorem dX7_allPointsCount_3 : decode cX7_allPointsCount 3 = .ok (.aload_n 0, 1) := by decide +kernel
theorem dX7_allPointsCount_4 : decode cX7_allPointsCount 4 = .ok (.getfield 34, 3) := by decide +kernel
theorem dX7_allPointsCount_7 : decode cX7_allPointsCount 7 = .ok (.getfield 63, 3) := by decide +kernel
theorem dX7_allPointsCount_10 : decode cX7_allPointsCount 10 = .ok (.if_icmp .ge 20, 3) := by decide +kernel
theorem dX7_allPointsCount_13 : decode cX7_allPointsCount 13 = .ok (.aload_n 0, 1) := by decide +kernel
theorem dX7_allPointsCount_14 : decode cX7_allPointsCount 14 = .ok (.getfield 24, 3) := by decide +kernel
theorem dX7_allPointsCount_17 : decode cX7_allPointsCount 17 = .ok (.iload_n 1, 1) := by decide +kernel
theorem dX7_allPointsCount_18 : decode cX7_allPointsCount 18 = .ok (.iaload, 1) := by decide +kernel
theorem dX7_allPointsCount_19 : decode cX7_allPointsCount 19 = .ok (.ifCond .ge 5, 3) := by decide +kernel
theorem dX7_allPointsCount_22 : decode cX7_allPointsCount 22 = .ok (.iconst 0, 1) := by decide +kernel
theorem dX7_allPointsCount_23 : decode cX7_allPointsCount 23 = .ok (.ireturn, 1) := by decide +kernel
theorem dX7_allPointsCount_24 : decode cX7_allPointsCount 24 = .ok (.iinc 1 1, 3) := by decide +kernel
theorem dX7_allPointsCount_27 : decode cX7_allPointsCount 27 = .ok (.goto (-25), 3) := by decide +kernel
theorem dX7_allPointsCount_30 : decode cX7_allPointsCount 30 = .ok (.iconst 1, 1) := by decide +kernel
theorem dX7_allPointsCount_31 : decode cX7_allPointsCount 31 = .ok (.ireturn, 1) := by decide +kernel
theorem dX7_seekMagic_0 : decode cX7_seekMagic 0 = .ok (.iload_n 1, 1) := by decide +kernel
theorem dX7_seekMagic_1 : decode cX7_seekMagic 1 = .ok (.aload_n 0, 1) := by decide +kernel
theorem dX7_seekMagic_2 : decode cX7_seekMagic 2 = .ok (.getfield 34, 3) := by decide +kernel
theorem dX7_seekMagic_5 : decode cX7_seekMagic 5 = .ok (.getfield 38, 3) := by decide +kernel
theorem dX7_seekMagic_8 : decode cX7_seekMagic 8 = .ok (.if_icmp .lt 29, 3) := by decide +kernel
theorem dX7_seekMagic_11 : decode cX7_seekMagic 11 = .ok (.aload_n 0, 1) := by decide +kernel
theorem dX7_seekMagic_12 : decode cX7_seekMagic 12 = .ok (.dup, 1) := by decide +kernel
theorem dX7_seekMagic_13 : decode cX7_seekMagic 13 = .ok (.getfield 27, 3) := by decide +kernel
theorem dX7_seekMagic_16 : decode cX7_seekMagic 16 = .ok (.iconst 1, 1) := by decide +kernel
theorem dX7_seekMagic_17 : decode cX7_seekMagic 17 = .ok (.iadd, 1) := by decide +kernel
theorem dX7_seekMagic_18 : decode cX7_seekMagic 18 = .ok (.putfield 27, 3) := by decide +kernel
theorem dX7_seekMagic_21 : decode cX7_seekMagic 21 = .ok (.aload_n 0, 1) := by decide +kernel
theorem dX7_seekMagic_22 : decode cX7_seekMagic 22 = .ok (.getfield 27, 3) := by decide +kernel
theorem dX7_seekMagic_25 : decode cX7_seekMagic 25 = .ok (.iconst 1, 1) := by decide +kernel
theorem dX7_seekMagic_26 : decode cX7_seekMagic 26 = .ok (.isub, 1) := by decide +kernel
theorem dX7_seekMagic_27 : decode cX7_seekMagic 27 = .ok (.iload_n 3, 1) := by decide +kernel
theorem dX7_seekMagic_28 : decode cX7_seekMagic 28 = .ok (.if_icmp .ne 7, 3) := by decide +kernel
theorem dX7_seekMagic_31 : decode cX7_seekMagic 31 = .ok (.iconst 1, 1) := by decide +kernel
theorem dX7_seekMagic_32 : decode cX7_seekMagic 32 = .ok (.goto 4, 3) := by decide +kernel
theorem dX7_seekMagic_35 : decode cX7_seekMagic 35 = .ok (.iconst 0, 1) := by decide +kernel
theorem dX7_seekMagic_36 : decode cX7_seekMagic 36 = .ok (.ireturn, 1) := by decide +kernel
theorem dX7_seekMagic_37 : decode cX7_seekMagic 37 = .ok (.iconst 0, 1) := by decide +kernel
theorem dX7_seekMagic_38 : decode cX7_seekMagic 38 = .ok (.istore 4, 2) := by decide +kernel
theorem dX7_seekMagic_40 : decode cX7_seekMagic 40 = .ok (.iload 4, 2) := by decide +kernel
theorem dX7_seekMagic_42 : decode cX7_seekMagic 42 = .ok (.iload_n 2, 1) := by decide +kernel
theorem dX7_seekMagic_43 : decode cX7_seekMagic 43 = .ok (.if_icmp .gt 51, 3) := by decide +kernel
theorem dX7_seekMagic_46 : decode cX7_seekMagic 46 = .ok (.aload_n 0, 1) := by decide +kernel
theorem dX7_seekMagic_47 : decode cX7_seekMagic 47 = .ok (.iload_n 1, 1) := by decide +kernel
theorem dX7_seekMagic_48 : decode cX7_seekMagic 48 = .ok (.iload 4, 2) := by decide +kernel
theorem dX7_seekMagic_50 : decode cX7_seekMagic 50 = .ok (.invokevirtual 76, 3) := by decide +kernel
theorem dX7_seekMagic_53 : decode cX7_seekMagic 53 = .ok (.aload_n 0, 1) := by decide +kernel
theorem dX7_seekMagic_54 : decode cX7_seekMagic 54 = .ok (.iload_n 1, 1) := by decide +kernel
theorem dX7_seekMagic_55 : decode cX7_seekMagic 55 = .ok (.iload_n 2, 1) := by decide +kernel
theorem dX7_seekMagic_56 : decode cX7_seekMagic 56 = .ok (.invokevirtual 88, 3) := by decide +kernel
theorem dX7_seekMagic_59 : decode cX7_seekMagic 59 = .ok (.ifCond .eq 6, 3) := by decide +kernel
theorem dX7_seekMagic_62 : decode cX7_seekMagic 62 = .ok (.goto 32, 3) := by decide +kernel
theorem dX7_seekMagic_65 : decode cX7_seekMagic 65 = .ok (.aload_n 0, 1) := by decide +kernel
theorem dX7_seekMagic_66 : decode cX7_seekMagic 66 = .ok (.iload_n 1, 1) := by decide +kernel
theorem dX7_seekMagic_67 : decode cX7_seekMagic 67 = .ok (.iload_n 2, 1) := by decide +kernel
theorem dX7_seekMagic_68 : decode cX7_seekMagic 68 = .ok (.invokevirtual 92, 3) := by decide +kernel
theorem dX7_seekMagic_71 : decode cX7_seekMagic 71 = .ok (.ifCond .eq 17, 3) := by decide +kernel
theorem dX7_seekMagic_74 : decode cX7_seekMagic 74 = .ok (.aload_n 0, 1) := by decide +kernel
theorem dX7_seekMagic_75 : decode cX7_seekMagic 75 = .ok (.iload_n 1, 1) := by decide +kernel
theorem dX7_seekMagic_76 : decode cX7_seekMagic 76 = .ok (.iconst 1, 1) := by decide +kernel
theorem dX7_seekMagic_77 : decode cX7_seekMagic 77 = .ok (.iadd, 1) := by decide +kernel
theorem dX7_seekMagic_78 : decode cX7_seekMagic 78 = .ok (.iload_n 2, 1) := by decide +kernel
theorem dX7_seekMagic_79 : decode cX7_seekMagic 79 = .ok (.iload_n 3, 1) := by decide +kernel
theorem dX7_seekMagic_80 : decode cX7_seekMagic 80 = .ok (.invokestatic 84, 3) := by decide +kernel
theorem dX7_seekMagic_83 : decode cX7_seekMagic 83 = .ok (.ifCond .eq 5, 3) := by decide +kernel
theorem dX7_seekMagic_86 : decode cX7_seekMagic 86 = .ok (.iconst 1, 1) := by decide +kernel
theorem dX7_seekMagic_87 : decode cX7_seekMagic 87 = .ok (.ireturn, 1) := by decide +kernel
theorem dX7_seekMagic_88 : decode cX7_seekMagic 88 = .ok (.iinc 4 1, 3) := by decide +kernel
theorem dX7_seekMagic_91 : decode cX7_seekMagic 91 = .ok (.goto (-51), 3) := by decide +kernel
theorem dX7_seekMagic_94 : decode cX7_seekMagic 94 = .ok (.aload_n 0, 1) := by decide +kernel
theorem dX7_seekMagic_95 : decode cX7_seekMagic 95 = .ok (.iload_n 1, 1) := by decide +kernel
theorem dX7_seekMagic_96 : decode cX7_seekMagic 96 = .ok (.iconst 0, 1) := by decide +kernel
theorem dX7_seekMagic_97 : decode cX7_seekMagic 97 = .ok (.invokevirtual 76, 3) := by decide +kernel
theorem dX7_seekMagic_100 : decode cX7_seekMagic 100 = .ok (.iconst 0, 1) := by decide +kernel
theorem dX7_seekMagic_101 : decode cX7_seekMagic 101 = .ok (.ireturn, 1) := by decide +kernel
theorem dX7_isAbove_0 : decode cX7_isAbove 0 = .ok (.aload_n 0, 1) := by decide +kernel
theorem dX7_isAbove_1 : decode cX7_isAbove 1 = .ok (.getfield 15, 3) := by decide +kernel
theorem dX7_isAbove_4 : decode cX7_isAbove 4 = .ok (.aload_n 0, 1) := by decide +kernel
theorem dX7_isAbove_5 : decode cX7_isAbove 5 = .ok (.getfield 34, 3) := by decide +kernel
theorem dX7_isAbove_8 : decode cX7_isAbove 8 = .ok (.getfield 50, 3) := by decide +kernel
theorem dX7_isAbove_11 : decode cX7_isAbove 11 = .ok (.iload_n 1, 1) := by decide +kernel
theorem dX7_isAbove_12 : decode cX7_isAbove 12 = .ok (.iaload, 1) := by decide +kernel
theorem dX7_isAbove_13 : decode cX7_isAbove 13 = .ok (.iaload, 1) := by decide +kernel
theorem dX7_isAbove_14 : decode cX7_isAbove 14 = .ok (.iload_n 2, 1) := by decide +kernel
theorem dX7_isAbove_15 : decode cX7_isAbove 15 = .ok (.if_icmp .gt 21, 3) := by decide +kernel
theorem dX7_isAbove_18 : decode cX7_isAbove 18 = .ok (.aload_n 0, 1) := by decide +kernel
theorem dX7_isAbove_19 : decode cX7_isAbove 19 = .ok (.getfield 15, 3) := by decide +kernel
theorem dX7_isAbove_22 : decode cX7_isAbove 22 = .ok (.aload_n 0, 1) := by decide +kernel
theorem dX7_isAbove_23 : decode cX7_isAbove 23 = .ok (.getfield 34, 3) := by decide +kernel
theorem dX7_isAbove_26 : decode cX7_isAbove 26 = .ok (.getfield 53, 3) := by decide +kernel
theorem dX7_isAbove_29 : decode cX7_isAbove 29 = .ok (.iload_n 1, 1) := by decide +kernel
theorem dX7_isAbove_30 : decode cX7_isAbove 30 = .ok (.iaload, 1) := by decide +kernel
theorem dX7_isAbove_31 : decode cX7_isAbove 31 = .ok (.iaload, 1) := by decide +kernel
theorem dX7_isAbove_32 : decode cX7_isAbove 32 = .ok (.iload_n 2, 1) := by decide +kernel
theorem dX7_isAbove_33 : decode cX7_isAbove 33 = .ok (.if_icmp .le 7, 3) := by decide +kernel
theorem dX7_isAbove_36 : decode cX7_isAbove 36 = .ok (.iconst 1, 1) := by decide +kernel
theorem dX7_isAbove_37 : decode cX7_isAbove 37 = .ok (.goto 4, 3) := by decide +kernel
theorem dX7_isAbove_40 : decode cX7_isAbove 40 = .ok (.iconst 0, 1) := by decide +kernel
theorem dX7_isAbove_41 : decode cX7_isAbove 41 = .ok (.ireturn, 1) := by decide +kernel
theorem dX7_leavesNoLess_0 : decode cX7_leavesNoLess 0 = .ok (.aload_n 0, 1) := by decide +kernel
theorem dX7_leavesNoLess_1 : decode cX7_leavesNoLess 1 = .ok (.getfield 34, 3) := by decide +kernel
theorem dX7_leavesNoLess_4 : decode cX7_leavesNoLess 4 = .ok (.getfield 50, 3) := by decide +kernel
theorem dX7_leavesNoLess_7 : decode cX7_leavesNoLess 7 = .ok (.iload_n 1, 1) := by decide +kernel
theorem dX7_leavesNoLess_8 : decode cX7_leavesNoLess 8 = .ok (.iaload, 1) := by decide +kernel
theorem dX7_leavesNoLess_9 : decode cX7_leavesNoLess 9 = .ok (.istore_n 3, 1) := by decide +kernel
theorem dX7_leavesNoLess_10 : decode cX7_leavesNoLess 10 = .ok (.aload_n 0, 1) := by decide +kernel
theorem dX7_leavesNoLess_11 : decode cX7_leavesNoLess 11 = .ok (.getfield 34, 3) := by decide +kernel
theorem dX7_leavesNoLess_14 : decode cX7_leavesNoLess 14 = .ok (.getfield 53, 3) := by decide +kernel
theorem dX7_leavesNoLess_17 : decode cX7_leavesNoLess 17 = .ok (.iload_n 1, 1) := by decide +kernel
theorem dX7_leavesNoLess_18 : decode cX7_leavesNoLess 18 = .ok (.iaload, 1) := by decide +kernel
theorem dX7_leavesNoLess_19 : decode cX7_leavesNoLess 19 = .ok (.istore 4, 2) := by decide +kernel
theorem dX7_leavesNoLess_21 : decode cX7_leavesNoLess 21 = .ok (.aload_n 0, 1) := by decide +kernel
theorem dX7_leavesNoLess_22 : decode cX7_leavesNoLess 22 = .ok (.getfield 24, 3) := by decide +kernel
theorem dX7_leavesNoLess_25 : decode cX7_leavesNoLess 25 = .ok (.iload_n 3, 1) := by decide +kernel
theorem dX7_leavesNoLess_26 : decode cX7_leavesNoLess 26 = .ok (.iaload, 1) := by decide +kernel
theorem dX7_leavesNoLess_27 : decode cX7_leavesNoLess 27 = .ok (.iload_n 1, 1) := by decide +kernel
theorem dX7_leavesNoLess_28 : decode cX7_leavesNoLess 28 = .ok (.if_icmp .ne 13, 3) := by decide +kernel
theorem dX7_leavesNoLess_31 : decode cX7_leavesNoLess 31 = .ok (.aload_n 0, 1) := by decide +kernel
theorem dX7_leavesNoLess_32 : decode cX7_leavesNoLess 32 = .ok (.getfield 15, 3) := by decide +kernel
theorem dX7_leavesNoLess_35 : decode cX7_leavesNoLess 35 = .ok (.iload_n 3, 1) := by decide +kernel
theorem dX7_leavesNoLess_36 : decode cX7_leavesNoLess 36 = .ok (.iaload, 1) := by decide +kernel
theorem dX7_leavesNoLess_37 : decode cX7_leavesNoLess 37 = .ok (.iload_n 2, 1) := by decide +kernel
theorem dX7_leavesNoLess_38 : decode cX7_leavesNoLess 38 = .ok (.if_icmp .ne 29, 3) := by decide +kernel
theorem dX7_leavesNoLess_41 : decode cX7_leavesNoLess 41 = .ok (.aload_n 0, 1) := by decide +kernel
theorem dX7_leavesNoLess_42 : decode cX7_leavesNoLess 42 = .ok (.getfield 24, 3) := by decide +kernel
theorem dX7_leavesNoLess_45 : decode cX7_leavesNoLess 45 = .ok (.iload 4, 2) := by decide +kernel
theorem dX7_leavesNoLess_47 : decode cX7_leavesNoLess 47 = .ok (.iaload, 1) := by decide +kernel
theorem dX7_leavesNoLess_48 : decode cX7_leavesNoLess 48 = .ok (.iload_n 1, 1) := by decide +kernel
theorem dX7_leavesNoLess_49 : decode cX7_leavesNoLess 49 = .ok (.if_icmp .ne 14, 3) := by decide +kernel
theorem dX7_leavesNoLess_52 : decode cX7_leavesNoLess 52 = .ok (.aload_n 0, 1) := by decide +kernel
theorem dX7_leavesNoLess_53 : decode cX7_leavesNoLess 53 = .ok (.getfield 15, 3) := by decide +kernel
theorem dX7_leavesNoLess_56 : decode cX7_leavesNoLess 56 = .ok (.iload 4, 2) := by decide +kernel
theorem dX7_leavesNoLess_58 : decode cX7_leavesNoLess 58 = .ok (.iaload, 1) := by decide +kernel
theorem dX7_leavesNoLess_59 : decode cX7_leavesNoLess 59 = .ok (.iload_n 2, 1) := by decide +kernel
theorem dX7_leavesNoLess_60 : decode cX7_leavesNoLess 60 = .ok (.if_icmp .ne 7, 3) := by decide +kernel
theorem dX7_leavesNoLess_63 : decode cX7_leavesNoLess 63 = .ok (.iconst 1, 1) := by decide +kernel
theorem dX7_leavesNoLess_64 : decode cX7_leavesNoLess 64 = .ok (.goto 4, 3) := by decide +kernel
theorem dX7_leavesNoLess_67 : decode cX7_leavesNoLess 67 = .ok (.iconst 0, 1) := by decide +kernel
theorem dX7_leavesNoLess_68 : decode cX7_leavesNoLess 68 = .ok (.ireturn, 1) := by decide +kernel
theorem dX7_findOrders_0 : decode cX7_findOrders 0 = .ok (.aload_n 0, 1) := by decide +kernel
theorem dX7_findOrders_1 : decode cX7_findOrders 1 = .ok (.invokevirtual 95, 3) := by decide +kernel
theorem dX7_findOrders_4 : decode cX7_findOrders 4 = .ok (.aload_n 0, 1) := by decide +kernel
theorem dX7_findOrders_5 : decode cX7_findOrders 5 = .ok (.getfield 34, 3) := by decide +kernel
theorem dX7_findOrders_8 : decode cX7_findOrders 8 = .ok (.getfield 38, 3) := by decide +kernel
theorem dX7_findOrders_11 : decode cX7_findOrders 11 = .ok (.invokestatic 98, 3) := by decide +kernel
theorem dX7_findOrders_14 : decode cX7_findOrders 14 = .ok (.istore_n 2, 1) := by decide +kernel
theorem dX7_findOrders_15 : decode cX7_findOrders 15 = .ok (.iconst 0, 1) := by decide +kernel
theorem dX7_findOrders_16 : decode cX7_findOrders 16 = .ok (.istore_n 3, 1) := by decide +kernel
theorem dX7_findOrders_17 : decode cX7_findOrders 17 = .ok (.iconst 0, 1) := by decide +kernel
theorem dX7_findOrders_18 : decode cX7_findOrders 18 = .ok (.istore 4, 2) := by decide +kernel
theorem dX7_findOrders_20 : decode cX7_findOrders 20 = .ok (.iload 4, 2) := by decide +kernel
theorem dX7_findOrders_22 : decode cX7_findOrders 22 = .ok (.iload_n 2, 1) := by decide +kernel
theorem dX7_findOrders_23 : decode cX7_findOrders 23 = .ok (.if_icmp .ge 43, 3) := by decide +kernel
theorem dX7_findOrders_26 : decode cX7_findOrders 26 = .ok (.iconst 1, 1) := by decide +kernel
theorem dX7_findOrders_27 : decode cX7_findOrders 27 = .ok (.aload_n 0, 1) := by decide +kernel
theorem dX7_findOrders_28 : decode cX7_findOrders 28 = .ok (.getfield 15, 3) := by decide +kernel
theorem dX7_findOrders_31 : decode cX7_findOrders 31 = .ok (.aload_n 0, 1) := by decide +kernel
theorem dX7_findOrders_32 : decode cX7_findOrders 32 = .ok (.getfield 34, 3) := by decide +kernel
theorem dX7_findOrders_35 : decode cX7_findOrders 35 = .ok (.getfield 63, 3) := by decide +kernel
theorem dX7_findOrders_38 : decode cX7_findOrders 38 = .ok (.invokestatic 66, 3) := by decide +kernel
theorem dX7_findOrders_41 : decode cX7_findOrders 41 = .ok (.ifCond .eq 15, 3) := by decide +kernel
theorem dX7_findOrders_44 : decode cX7_findOrders 44 = .ok (.iinc 3 1, 3) := by decide +kernel
theorem dX7_findOrders_47 : decode cX7_findOrders 47 = .ok (.iload_n 3, 1) := by decide +kernel
theorem dX7_findOrders_48 : decode cX7_findOrders 48 = .ok (.iconst 1, 1) := by decide +kernel
theorem dX7_findOrders_49 : decode cX7_findOrders 49 = .ok (.isub, 1) := by decide +kernel
theorem dX7_findOrders_50 : decode cX7_findOrders 50 = .ok (.iload_n 1, 1) := by decide +kernel
theorem dX7_findOrders_51 : decode cX7_findOrders 51 = .ok (.if_icmp .ne 5, 3) := by decide +kernel
theorem dX7_findOrders_54 : decode cX7_findOrders 54 = .ok (.iload_n 3, 1) := by decide +kernel
theorem dX7_findOrders_55 : decode cX7_findOrders 55 = .ok (.ireturn, 1) := by decide +kernel
theorem dX7_findOrders_56 : decode cX7_findOrders 56 = .ok (.aload_n 0, 1) := by decide +kernel
theorem dX7_findOrders_57 : decode cX7_findOrders 57 = .ok (.invokevirtual 101, 3) := by decide +kernel
theorem dX7_findOrders_60 : decode cX7_findOrders 60 = .ok (.iinc 4 1, 3) := by decide +kernel
theorem dX7_findOrders_63 : decode cX7_findOrders 63 = .ok (.goto (-43), 3) := by decide +kernel
theorem dX7_findOrders_66 : decode cX7_findOrders 66 = .ok (.iload_n 3, 1) := by decide +kernel
theorem dX7_findOrders_67 : decode cX7_findOrders 67 = .ok (.ireturn, 1) := by decide +kernel
theorem dX7_leastSpread_0 : decode cX7_leastSpread 0 = .ok (.aload_n 0, 1) := by decide +kernel
theorem dX7_leastSpread_1 : decode cX7_leastSpread 1 = .ok (.invokevirtual 95, 3) := by decide +kernel
theorem dX7_leastSpread_4 : decode cX7_leastSpread 4 = .ok (.aload_n 0, 1) := by decide +kernel
theorem dX7_leastSpread_5 : decode cX7_leastSpread 5 = .ok (.getfield 34, 3) := by decide +kernel
theorem dX7_leastSpread_8 : decode cX7_leastSpread 8 = .ok (.getfield 38, 3) := by decide +kernel
theorem dX7_leastSpread_11 : decode cX7_leastSpread 11 = .ok (.invokestatic 98, 3) := by decide +kernel
theorem dX7_leastSpread_14 : decode cX7_leastSpread 14 = .ok (.istore_n 1, 1) := by decide +kernel
theorem dX7_leastSpread_15 : decode cX7_leastSpread 15 = .ok (.bipush (-9), 2) := by decide +kernel
theorem dX7_leastSpread_17 : decode cX7_leastSpread 17 = .ok (.istore_n 2, 1) := by decide +kernel
theorem dX7_leastSpread_18 : decode cX7_leastSpread 18 = .ok (.iconst 0, 1) := by decide +kernel
theorem dX7_leastSpread_19 : decode cX7_leastSpread 19 = .ok (.istore_n 3, 1) := by decide +kernel
theorem dX7_leastSpread_20 : decode cX7_leastSpread 20 = .ok (.iload_n 3, 1) := by decide +kernel
theorem dX7_leastSpread_21 : decode cX7_leastSpread 21 = .ok (.iload_n 1, 1) := by decide +kernel
theorem dX7_leastSpread_22 : decode cX7_leastSpread 22 = .ok (.if_icmp .ge 65, 3) := by decide +kernel
theorem dX7_leastSpread_25 : decode cX7_leastSpread 25 = .ok (.iconst 1, 1) := by decide +kernel
theorem dX7_leastSpread_26 : decode cX7_leastSpread 26 = .ok (.aload_n 0, 1) := by decide +kernel
theorem dX7_leastSpread_27 : decode cX7_leastSpread 27 = .ok (.getfield 15, 3) := by decide +kernel
theorem dX7_leastSpread_30 : decode cX7_leastSpread 30 = .ok (.aload_n 0, 1) := by decide +kernel
theorem dX7_leastSpread_31 : decode cX7_leastSpread 31 = .ok (.getfield 34, 3) := by decide +kernel
theorem dX7_leastSpread_34 : decode cX7_leastSpread 34 = .ok (.getfield 63, 3) := by decide +kernel
theorem dX7_leastSpread_37 : decode cX7_leastSpread 37 = .ok (.invokestatic 66, 3) := by decide +kernel
theorem dX7_leastSpread_40 : decode cX7_leastSpread 40 = .ok (.ifCond .eq 37, 3) := by decide +kernel
theorem dX7_leastSpread_43 : decode cX7_leastSpread 43 = .ok (.aload_n 0, 1) := by decide +kernel
theorem dX7_leastSpread_44 : decode cX7_leastSpread 44 = .ok (.getfield 15, 3) := by decide +kernel
theorem dX7_leastSpread_47 : decode cX7_leastSpread 47 = .ok (.aload_n 0, 1) := by decide +kernel
theorem dX7_leastSpread_48 : decode cX7_leastSpread 48 = .ok (.getfield 34, 3) := by decide +kernel
theorem dX7_leastSpread_51 : decode cX7_leastSpread 51 = .ok (.getfield 63, 3) := by decide +kernel
theorem dX7_leastSpread_54 : decode cX7_leastSpread 54 = .ok (.invokestatic 104, 3) := by decide +kernel
theorem dX7_leastSpread_57 : decode cX7_leastSpread 57 = .ok (.istore 4, 2) := by decide +kernel
theorem dX7_leastSpread_59 : decode cX7_leastSpread 59 = .ok (.iload_n 2, 1) := by decide +kernel
theorem dX7_leastSpread_60 : decode cX7_leastSpread 60 = .ok (.bipush (-9), 2) := by decide +kernel
theorem dX7_leastSpread_62 : decode cX7_leastSpread 62 = .ok (.if_icmp .ne 8, 3) := by decide +kernel
theorem dX7_leastSpread_65 : decode cX7_leastSpread 65 = .ok (.iload 4, 2) := by decide +kernel
theorem dX7_leastSpread_67 : decode cX7_leastSpread 67 = .ok (.goto 9, 3) := by decide +kernel
theorem dX7_leastSpread_70 : decode cX7_leastSpread 70 = .ok (.iload_n 2, 1) := by decide +kernel
theorem dX7_leastSpread_71 : decode cX7_leastSpread 71 = .ok (.iload 4, 2) := by decide +kernel
theorem dX7_leastSpread_73 : decode cX7_leastSpread 73 = .ok (.invokestatic 108, 3) := by decide +kernel
theorem dX7_leastSpread_76 : decode cX7_leastSpread 76 = .ok (.istore_n 2, 1) := by decide +kernel
theorem dX7_leastSpread_77 : decode cX7_leastSpread 77 = .ok (.aload_n 0, 1) := by decide +kernel
theorem dX7_leastSpread_78 : decode cX7_leastSpread 78 = .ok (.invokevirtual 101, 3) := by decide +kernel
theorem dX7_leastSpread_81 : decode cX7_leastSpread 81 = .ok (.iinc 3 1, 3) := by decide +kernel
theorem dX7_leastSpread_84 : decode cX7_leastSpread 84 = .ok (.goto (-64), 3) := by decide +kernel
theorem dX7_leastSpread_87 : decode cX7_leastSpread 87 = .ok (.iload_n 2, 1) := by decide +kernel
theorem dX7_leastSpread_88 : decode cX7_leastSpread 88 = .ok (.ireturn, 1) := by decide +kernel
theorem dX7_beginOrders_0 : decode cX7_beginOrders 0 = .ok (.aload_n 0, 1) := by decide +kernel
theorem dX7_beginOrders_1 : decode cX7_beginOrders 1 = .ok (.invokevirtual 56, 3) := by decide +kernel
theorem dX7_beginOrders_4 : decode cX7_beginOrders 4 = .ok (.iconst 0, 1) := by decide +kernel
theorem dX7_beginOrders_5 : decode cX7_beginOrders 5 = .ok (.istore_n 1, 1) := by decide +kernel
theorem dX7_beginOrders_6 : decode cX7_beginOrders 6 = .ok (.iload_n 1, 1) := by decide +kernel
theorem dX7_beginOrders_7 : decode cX7_beginOrders 7 = .ok (.aload_n 0, 1) := by decide +kernel
theorem dX7_beginOrders_8 : decode cX7_beginOrders 8 = .ok (.getfield 34, 3) := by decide +kernel
theorem dX7_beginOrders_11 : decode cX7_beginOrders 11 = .ok (.getfield 38, 3) := by decide +kernel
theorem dX7_beginOrders_14 : decode cX7_beginOrders 14 = .ok (.if_icmp .ge 17, 3) := by decide +kernel
theorem dX7_beginOrders_17 : decode cX7_beginOrders 17 = .ok (.aload_n 0, 1) := by decide +kernel
theorem dX7_beginOrders_18 : decode cX7_beginOrders 18 = .ok (.iload_n 1, 1) := by decide +kernel
theorem dX7_beginOrders_19 : decode cX7_beginOrders 19 = .ok (.iload_n 1, 1) := by decide +kernel
theorem dX7_beginOrders_20 : decode cX7_beginOrders 20 = .ok (.iconst 1, 1) := by decide +kernel
theorem dX7_beginOrders_21 : decode cX7_beginOrders 21 = .ok (.iadd, 1) := by decide +kernel
theorem dX7_beginOrders_22 : decode cX7_beginOrders 22 = .ok (.invokevirtual 76, 3) := by decide +kernel
theorem dX7_beginOrders_25 : decode cX7_beginOrders 25 = .ok (.iinc 1 1, 3) := by decide +kernel
theorem dX7_beginOrders_28 : decode cX7_beginOrders 28 = .ok (.goto (-22), 3) := by decide +kernel
theorem dX7_beginOrders_31 : decode cX7_beginOrders 31 = .ok (.return_, 1) := by decide +kernel
theorem dX7_nextOrder_0 : decode cX7_nextOrder 0 = .ok (.aload_n 0, 1) := by decide +kernel
theorem dX7_nextOrder_1 : decode cX7_nextOrder 1 = .ok (.getfield 34, 3) := by decide +kernel
theorem dX7_nextOrder_4 : decode cX7_nextOrder 4 = .ok (.getfield 38, 3) := by decide +kernel
theorem dX7_nextOrder_7 : decode cX7_nextOrder 7 = .ok (.iconst 1, 1) := by decide +kernel
theorem dX7_nextOrder_8 : decode cX7_nextOrder 8 = .ok (.isub, 1) := by decide +kernel
theorem dX7_nextOrder_9 : decode cX7_nextOrder 9 = .ok (.istore_n 1, 1) := by decide +kernel
theorem dX7_nextOrder_10 : decode cX7_nextOrder 10 = .ok (.iload_n 1, 1) := by decide +kernel
theorem dX7_nextOrder_11 : decode cX7_nextOrder 11 = .ok (.iconst 1, 1) := by decide +kernel
theorem dX7_nextOrder_12 : decode cX7_nextOrder 12 = .ok (.isub, 1) := by decide +kernel
theorem dX7_nextOrder_13 : decode cX7_nextOrder 13 = .ok (.istore_n 2, 1) := by decide +kernel
theorem dX7_nextOrder_14 : decode cX7_nextOrder 14 = .ok (.iload_n 2, 1) := by decide +kernel
theorem dX7_nextOrder_15 : decode cX7_nextOrder 15 = .ok (.ifCond .lt 26, 3) := by decide +kernel
theorem dX7_nextOrder_18 : decode cX7_nextOrder 18 = .ok (.aload_n 0, 1) := by decide +kernel
theorem dX7_nextOrder_19 : decode cX7_nextOrder 19 = .ok (.getfield 9, 3) := by decide +kernel
theorem dX7_nextOrder_22 : decode cX7_nextOrder 22 = .ok (.iload_n 2, 1) := by decide +kernel
theorem dX7_nextOrder_23 : decode cX7_nextOrder 23 = .ok (.iaload, 1) := by decide +kernel
theorem dX7_nextOrder_24 : decode cX7_nextOrder 24 = .ok (.aload_n 0, 1) := by decide +kernel
theorem dX7_nextOrder_25 : decode cX7_nextOrder 25 = .ok (.getfield 9, 3) := by decide +kernel
theorem dX7_nextOrder_28 : decode cX7_nextOrder 28 = .ok (.iload_n 2, 1) := by decide +kernel
theorem dX7_nextOrder_29 : decode cX7_nextOrder 29 = .ok (.iconst 1, 1) := by decide +kernel
theorem dX7_nextOrder_30 : decode cX7_nextOrder 30 = .ok (.iadd, 1) := by decide +kernel
theorem dX7_nextOrder_31 : decode cX7_nextOrder 31 = .ok (.iaload, 1) := by decide +kernel
theorem dX7_nextOrder_32 : decode cX7_nextOrder 32 = .ok (.if_icmp .le 9, 3) := by decide +kernel
theorem dX7_nextOrder_35 : decode cX7_nextOrder 35 = .ok (.iinc 2 (-1), 3) := by decide +kernel
theorem dX7_nextOrder_38 : decode cX7_nextOrder 38 = .ok (.goto (-24), 3) := by decide +kernel
theorem dX7_nextOrder_41 : decode cX7_nextOrder 41 = .ok (.iload_n 2, 1) := by decide +kernel
theorem dX7_nextOrder_42 : decode cX7_nextOrder 42 = .ok (.ifCond .ge 4, 3) := by decide +kernel
theorem dX7_nextOrder_45 : decode cX7_nextOrder 45 = .ok (.return_, 1) := by decide +kernel
theorem dX7_nextOrder_46 : decode cX7_nextOrder 46 = .ok (.iload_n 1, 1) := by decide +kernel
theorem dX7_nextOrder_47 : decode cX7_nextOrder 47 = .ok (.istore_n 3, 1) := by decide +kernel
theorem dX7_nextOrder_48 : decode cX7_nextOrder 48 = .ok (.iload_n 3, 1) := by decide +kernel
theorem dX7_nextOrder_49 : decode cX7_nextOrder 49 = .ok (.iload_n 2, 1) := by decide +kernel
theorem dX7_nextOrder_50 : decode cX7_nextOrder 50 = .ok (.iconst 1, 1) := by decide +kernel
theorem dX7_nextOrder_51 : decode cX7_nextOrder 51 = .ok (.iadd, 1) := by decide +kernel
theorem dX7_nextOrder_52 : decode cX7_nextOrder 52 = .ok (.if_icmp .le 24, 3) := by decide +kernel
theorem dX7_nextOrder_55 : decode cX7_nextOrder 55 = .ok (.aload_n 0, 1) := by decide +kernel
theorem dX7_nextOrder_56 : decode cX7_nextOrder 56 = .ok (.getfield 9, 3) := by decide +kernel
theorem dX7_nextOrder_59 : decode cX7_nextOrder 59 = .ok (.iload_n 3, 1) := by decide +kernel
theorem dX7_nextOrder_60 : decode cX7_nextOrder 60 = .ok (.iaload, 1) := by decide +kernel
theorem dX7_nextOrder_61 : decode cX7_nextOrder 61 = .ok (.aload_n 0, 1) := by decide +kernel
theorem dX7_nextOrder_62 : decode cX7_nextOrder 62 = .ok (.getfield 9, 3) := by decide +kernel
theorem dX7_nextOrder_65 : decode cX7_nextOrder 65 = .ok (.iload_n 2, 1) := by decide +kernel
theorem dX7_nextOrder_66 : decode cX7_nextOrder 66 = .ok (.iaload, 1) := by decide +kernel
theorem dX7_nextOrder_67 : decode cX7_nextOrder 67 = .ok (.if_icmp .ge 9, 3) := by decide +kernel
theorem dX7_nextOrder_70 : decode cX7_nextOrder 70 = .ok (.iinc 3 (-1), 3) := by decide +kernel
theorem dX7_nextOrder_73 : decode cX7_nextOrder 73 = .ok (.goto (-25), 3) := by decide +kernel
theorem dX7_nextOrder_76 : decode cX7_nextOrder 76 = .ok (.aload_n 0, 1) := by decide +kernel
theorem dX7_nextOrder_77 : decode cX7_nextOrder 77 = .ok (.iload_n 2, 1) := by decide +kernel
theorem dX7_nextOrder_78 : decode cX7_nextOrder 78 = .ok (.iload_n 3, 1) := by decide +kernel
theorem dX7_nextOrder_79 : decode cX7_nextOrder 79 = .ok (.invokevirtual 113, 3) := by decide +kernel
theorem dX7_nextOrder_82 : decode cX7_nextOrder 82 = .ok (.iload_n 2, 1) := by decide +kernel
theorem dX7_nextOrder_83 : decode cX7_nextOrder 83 = .ok (.iconst 1, 1) := by decide +kernel
theorem dX7_nextOrder_84 : decode cX7_nextOrder 84 = .ok (.iadd, 1) := by decide +kernel
theorem dX7_nextOrder_85 : decode cX7_nextOrder 85 = .ok (.istore 4, 2) := by decide +kernel
theorem dX7_nextOrder_87 : decode cX7_nextOrder 87 = .ok (.iload_n 1, 1) := by decide +kernel
theorem dX7_nextOrder_88 : decode cX7_nextOrder 88 = .ok (.istore 5, 2) := by decide +kernel
theorem dX7_nextOrder_90 : decode cX7_nextOrder 90 = .ok (.iload 5, 2) := by decide +kernel
theorem dX7_nextOrder_92 : decode cX7_nextOrder 92 = .ok (.iload 4, 2) := by decide +kernel
theorem dX7_nextOrder_94 : decode cX7_nextOrder 94 = .ok (.if_icmp .le 20, 3) := by decide +kernel
theorem dX7_nextOrder_97 : decode cX7_nextOrder 97 = .ok (.aload_n 0, 1) := by decide +kernel
theorem dX7_nextOrder_98 : decode cX7_nextOrder 98 = .ok (.iload 4, 2) := by decide +kernel
theorem dX7_nextOrder_100 : decode cX7_nextOrder 100 = .ok (.iload 5, 2) := by decide +kernel
theorem dX7_nextOrder_102 : decode cX7_nextOrder 102 = .ok (.invokevirtual 113, 3) := by decide +kernel
theorem dX7_nextOrder_105 : decode cX7_nextOrder 105 = .ok (.iinc 4 1, 3) := by decide +kernel
theorem dX7_nextOrder_108 : decode cX7_nextOrder 108 = .ok (.iinc 5 (-1), 3) := by decide +kernel
theorem dX7_nextOrder_111 : decode cX7_nextOrder 111 = .ok (.goto (-21), 3) := by decide +kernel
theorem dX7_nextOrder_114 : decode cX7_nextOrder 114 = .ok (.return_, 1) := by decide +kernel
theorem dX7_exchange_0 : decode cX7_exchange 0 = .ok (.aload_n 0, 1) := by decide +kernel
theorem dX7_exchange_1 : decode cX7_exchange 1 = .ok (.getfield 9, 3) := by decide +kernel
theorem dX7_exchange_4 : decode cX7_exchange 4 = .ok (.iload_n 1, 1) := by decide +kernel
theorem dX7_exchange_5 : decode cX7_exchange 5 = .ok (.iaload, 1) := by decide +kernel
theorem dX7_exchange_6 : decode cX7_exchange 6 = .ok (.istore_n 3, 1) := by decide +kernel
theorem dX7_exchange_7 : decode cX7_exchange 7 = .ok (.aload_n 0, 1) := by decide +kernel
theorem dX7_exchange_8 : decode cX7_exchange 8 = .ok (.iload_n 1, 1) := by decide +kernel
theorem dX7_exchange_9 : decode cX7_exchange 9 = .ok (.aload_n 0, 1) := by decide +kernel
theorem dX7_exchange_10 : decode cX7_exchange 10 = .ok (.getfield 9, 3) := by decide +kernel
theorem dX7_exchange_13 : decode cX7_exchange 13 = .ok (.iload_n 2, 1) := by decide +kernel
theorem dX7_exchange_14 : decode cX7_exchange 14 = .ok (.iaload, 1) := by decide +kernel
theorem dX7_exchange_15 : decode cX7_exchange 15 = .ok (.invokevirtual 76, 3) := by decide +kernel
theorem dX7_exchange_18 : decode cX7_exchange 18 = .ok (.aload_n 0, 1) := by decide +kernel
theorem dX7_exchange_19 : decode cX7_exchange 19 = .ok (.iload_n 2, 1) := by decide +kernel
theorem dX7_exchange_20 : decode cX7_exchange 20 = .ok (.iload_n 3, 1) := by decide +kernel
theorem dX7_exchange_21 : decode cX7_exchange 21 = .ok (.invokevirtual 76, 3) := by decide +kernel
theorem dX7_exchange_24 : decode cX7_exchange 24 = .ok (.return_, 1) := by decide +kernel
theorem dX7_lotsThatKeep_0 : decode cX7_lotsThatKeep 0 = .ok (.aload_n 0, 1) := by decide +kernel
theorem dX7_lotsThatKeep_1 : decode cX7_lotsThatKeep 1 = .ok (.invokevirtual 56, 3) := by decide +kernel
theorem dX7_lotsThatKeep_4 : decode cX7_lotsThatKeep 4 = .ok (.aload_n 0, 1) := by decide +kernel
theorem dX7_lotsThatKeep_5 : decode cX7_lotsThatKeep 5 = .ok (.iload_n 3, 1) := by decide +kernel
theorem dX7_lotsThatKeep_6 : decode cX7_lotsThatKeep 6 = .ok (.putfield 31, 3) := by decide +kernel
theorem dX7_lotsThatKeep_9 : decode cX7_lotsThatKeep 9 = .ok (.iconst 0, 1) := by decide +kernel
theorem dX7_lotsThatKeep_10 : decode cX7_lotsThatKeep 10 = .ok (.istore 4, 2) := by decide +kernel
theorem dX7_lotsThatKeep_12 : decode cX7_lotsThatKeep 12 = .ok (.iconst 0, 1) := by decide +kernel
theorem dX7_lotsThatKeep_13 : decode cX7_lotsThatKeep 13 = .ok (.istore 5, 2) := by decide +kernel
theorem dX7_lotsThatKeep_15 : decode cX7_lotsThatKeep 15 = .ok (.iload 5, 2) := by decide +kernel
theorem dX7_lotsThatKeep_17 : decode cX7_lotsThatKeep 17 = .ok (.iload_n 2, 1) := by decide +kernel
theorem dX7_lotsThatKeep_18 : decode cX7_lotsThatKeep 18 = .ok (.if_icmp .ge 34, 3) := by decide +kernel
theorem dX7_lotsThatKeep_21 : decode cX7_lotsThatKeep 21 = .ok (.aload_n 0, 1) := by decide +kernel
theorem dX7_lotsThatKeep_22 : decode cX7_lotsThatKeep 22 = .ok (.invokevirtual 116, 3) := by decide +kernel
theorem dX7_lotsThatKeep_25 : decode cX7_lotsThatKeep 25 = .ok (.iload_n 1, 1) := by decide +kernel
theorem dX7_lotsThatKeep_26 : decode cX7_lotsThatKeep 26 = .ok (.aload_n 0, 1) := by decide +kernel
theorem dX7_lotsThatKeep_27 : decode cX7_lotsThatKeep 27 = .ok (.getfield 15, 3) := by decide +kernel
theorem dX7_lotsThatKeep_30 : decode cX7_lotsThatKeep 30 = .ok (.aload_n 0, 1) := by decide +kernel
theorem dX7_lotsThatKeep_31 : decode cX7_lotsThatKeep 31 = .ok (.getfield 34, 3) := by decide +kernel
theorem dX7_lotsThatKeep_34 : decode cX7_lotsThatKeep 34 = .ok (.getfield 63, 3) := by decide +kernel
theorem dX7_lotsThatKeep_37 : decode cX7_lotsThatKeep 37 = .ok (.invokestatic 66, 3) := by decide +kernel
theorem dX7_lotsThatKeep_40 : decode cX7_lotsThatKeep 40 = .ok (.ifCond .eq 6, 3) := by decide +kernel
theorem dX7_lotsThatKeep_43 : decode cX7_lotsThatKeep 43 = .ok (.iinc 4 1, 3) := by decide +kernel
theorem dX7_lotsThatKeep_46 : decode cX7_lotsThatKeep 46 = .ok (.iinc 5 1, 3) := by decide +kernel
theorem dX7_lotsThatKeep_49 : decode cX7_lotsThatKeep 49 = .ok (.goto (-34), 3) := by decide +kernel
theorem dX7_lotsThatKeep_52 : decode cX7_lotsThatKeep 52 = .ok (.iload 4, 2) := by decide +kernel
theorem dX7_lotsThatKeep_54 : decode cX7_lotsThatKeep 54 = .ok (.ireturn, 1) := by decide +kernel
theorem dX7_lotsTogether_0 : decode cX7_lotsTogether 0 = .ok (.aload_n 0, 1) := by decide +kernel
theorem dX7_lotsTogether_1 : decode cX7_lotsTogether 1 = .ok (.invokevirtual 56, 3) := by decide +kernel
theorem dX7_lotsTogether_4 : decode cX7_lotsTogether 4 = .ok (.aload_n 0, 1) := by decide +kernel
theorem dX7_lotsTogether_5 : decode cX7_lotsTogether 5 = .ok (.iload_n 2, 1) := by decide +kernel
theorem dX7_lotsTogether_6 : decode cX7_lotsTogether 6 = .ok (.putfield 31, 3) := by decide +kernel
theorem dX7_lotsTogether_9 : decode cX7_lotsTogether 9 = .ok (.iconst 0, 1) := by decide +kernel
theorem dX7_lotsTogether_10 : decode cX7_lotsTogether 10 = .ok (.istore_n 3, 1) := by decide +kernel
theorem dX7_lotsTogether_11 : decode cX7_lotsTogether 11 = .ok (.iconst 0, 1) := by decide +kernel
theorem dX7_lotsTogether_12 : decode cX7_lotsTogether 12 = .ok (.istore 4, 2) := by decide +kernel
theorem dX7_lotsTogether_14 : decode cX7_lotsTogether 14 = .ok (.iload 4, 2) := by decide +kernel
theorem dX7_lotsTogether_16 : decode cX7_lotsTogether 16 = .ok (.iload_n 1, 1) := by decide +kernel
theorem dX7_lotsTogether_17 : decode cX7_lotsTogether 17 = .ok (.if_icmp .ge 30, 3) := by decide +kernel
theorem dX7_lotsTogether_20 : decode cX7_lotsTogether 20 = .ok (.aload_n 0, 1) := by decide +kernel
theorem dX7_lotsTogether_21 : decode cX7_lotsTogether 21 = .ok (.invokevirtual 116, 3) := by decide +kernel
theorem dX7_lotsTogether_24 : decode cX7_lotsTogether 24 = .ok (.iload_n 3, 1) := by decide +kernel
theorem dX7_lotsTogether_25 : decode cX7_lotsTogether 25 = .ok (.aload_n 0, 1) := by decide +kernel
theorem dX7_lotsTogether_26 : decode cX7_lotsTogether 26 = .ok (.getfield 15, 3) := by decide +kernel
theorem dX7_lotsTogether_29 : decode cX7_lotsTogether 29 = .ok (.aload_n 0, 1) := by decide +kernel
theorem dX7_lotsTogether_30 : decode cX7_lotsTogether 30 = .ok (.getfield 34, 3) := by decide +kernel
theorem dX7_lotsTogether_33 : decode cX7_lotsTogether 33 = .ok (.getfield 63, 3) := by decide +kernel
theorem dX7_lotsTogether_36 : decode cX7_lotsTogether 36 = .ok (.invokestatic 119, 3) := by decide +kernel
theorem dX7_lotsTogether_39 : decode cX7_lotsTogether 39 = .ok (.iadd, 1) := by decide +kernel
theorem dX7_lotsTogether_40 : decode cX7_lotsTogether 40 = .ok (.istore_n 3, 1) := by decide +kernel
theorem dX7_lotsTogether_41 : decode cX7_lotsTogether 41 = .ok (.iinc 4 1, 3) := by decide +kernel
theorem dX7_lotsTogether_44 : decode cX7_lotsTogether 44 = .ok (.goto (-30), 3) := by decide +kernel
theorem dX7_lotsTogether_47 : decode cX7_lotsTogether 47 = .ok (.iload_n 3, 1) := by decide +kernel
theorem dX7_lotsTogether_48 : decode cX7_lotsTogether 48 = .ok (.ireturn, 1) := by decide +kernel
theorem dX7_drawLabels_0 : decode cX7_drawLabels 0 = .ok (.iconst 0, 1) := by decide +kernel
theorem dX7_drawLabels_1 : decode cX7_drawLabels 1 = .ok (.istore_n 1, 1) := by decide +kernel
theorem dX7_drawLabels_2 : decode cX7_drawLabels 2 = .ok (.iload_n 1, 1) := by decide +kernel
theorem dX7_drawLabels_3 : decode cX7_drawLabels 3 = .ok (.aload_n 0, 1) := by decide +kernel
theorem dX7_drawLabels_4 : decode cX7_drawLabels 4 = .ok (.getfield 34, 3) := by decide +kernel
theorem dX7_drawLabels_7 : decode cX7_drawLabels 7 = .ok (.getfield 38, 3) := by decide +kernel
theorem dX7_drawLabels_10 : decode cX7_drawLabels 10 = .ok (.if_icmp .ge 42, 3) := by decide +kernel
theorem dX7_drawLabels_13 : decode cX7_drawLabels 13 = .ok (.aload_n 0, 1) := by decide +kernel
theorem dX7_drawLabels_14 : decode cX7_drawLabels 14 = .ok (.aload_n 0, 1) := by decide +kernel
theorem dX7_drawLabels_15 : decode cX7_drawLabels 15 = .ok (.getfield 31, 3) := by decide +kernel
theorem dX7_drawLabels_18 : decode cX7_drawLabels 18 = .ok (.ldc 122, 2) := by decide +kernel
theorem dX7_drawLabels_20 : decode cX7_drawLabels 20 = .ok (.imul, 1) := by decide +kernel
theorem dX7_drawLabels_21 : decode cX7_drawLabels 21 = .ok (.ldc 123, 2) := by decide +kernel
theorem dX7_drawLabels_23 : decode cX7_drawLabels 23 = .ok (.iadd, 1) := by decide +kernel
theorem dX7_drawLabels_24 : decode cX7_drawLabels 24 = .ok (.putfield 31, 3) := by decide +kernel
theorem dX7_drawLabels_27 : decode cX7_drawLabels 27 = .ok (.aload_n 0, 1) := by decide +kernel
theorem dX7_drawLabels_28 : decode cX7_drawLabels 28 = .ok (.iload_n 1, 1) := by decide +kernel
theorem dX7_drawLabels_29 : decode cX7_drawLabels 29 = .ok (.aload_n 0, 1) := by decide +kernel
theorem dX7_drawLabels_30 : decode cX7_drawLabels 30 = .ok (.getfield 31, 3) := by decide +kernel
theorem dX7_drawLabels_33 : decode cX7_drawLabels 33 = .ok (.ldc 124, 2) := by decide +kernel
theorem dX7_drawLabels_35 : decode cX7_drawLabels 35 = .ok (.iand, 1) := by decide +kernel
theorem dX7_drawLabels_36 : decode cX7_drawLabels 36 = .ok (.sipush 256, 3) := by decide +kernel
theorem dX7_drawLabels_39 : decode cX7_drawLabels 39 = .ok (.idiv, 1) := by decide +kernel
theorem dX7_drawLabels_40 : decode cX7_drawLabels 40 = .ok (.bipush 10, 2) := by decide +kernel
theorem dX7_drawLabels_42 : decode cX7_drawLabels 42 = .ok (.irem, 1) := by decide +kernel
theorem dX7_drawLabels_43 : decode cX7_drawLabels 43 = .ok (.invokevirtual 76, 3) := by decide +kernel
theorem dX7_drawLabels_46 : decode cX7_drawLabels 46 = .ok (.iinc 1 1, 3) := by decide +kernel
theorem dX7_drawLabels_49 : decode cX7_drawLabels 49 = .ok (.goto (-47), 3) := by decide +kernel
theorem dX7_drawLabels_52 : decode cX7_drawLabels 52 = .ok (.return_, 1) := by decide +kernel
theorem dX7_power_0 : decode cX7_power 0 = .ok (.iconst 1, 1) := by decide +kernel
theorem dX7_power_1 : decode cX7_power 1 = .ok (.istore_n 2, 1) := by decide +kernel
theorem dX7_power_2 : decode cX7_power 2 = .ok (.iconst 0, 1) := by decide +kernel
theorem dX7_power_3 : decode cX7_power 3 = .ok (.istore_n 3, 1) := by decide +kernel
theorem dX7_power_4 : decode cX7_power 4 = .ok (.iload_n 3, 1) := by decide +kernel
theorem dX7_power_5 : decode cX7_power 5 = .ok (.iload_n 1, 1) := by decide +kernel
theorem dX7_power_6 : decode cX7_power 6 = .ok (.if_icmp .ge 13, 3) := by decide +kernel
theorem dX7_power_9 : decode cX7_power 9 = .ok (.iload_n 2, 1) := by decide +kernel
theorem dX7_power_10 : decode cX7_power 10 = .ok (.iload_n 0, 1) := by decide +kernel
theorem dX7_power_11 : decode cX7_power 11 = .ok (.imul, 1) := by decide +kernel
theorem dX7_power_12 : decode cX7_power 12 = .ok (.istore_n 2, 1) := by decide +kernel
theorem dX7_power_13 : decode cX7_power 13 = .ok (.iinc 3 1, 3) := by decide +kernel
theorem dX7_power_16 : decode cX7_power 16 = .ok (.goto (-12), 3) := by decide +kernel
theorem dX7_power_19 : decode cX7_power 19 = .ok (.iload_n 2, 1) := by decide +kernel
theorem dX7_power_20 : decode cX7_power 20 = .ok (.ireturn, 1) := by decide +kernel
theorem dX7_ordersOf_0 : decode cX7_ordersOf 0 = .ok (.iconst 1, 1) := by decide +kernel
theorem dX7_ordersOf_1 : decode cX7_ordersOf 1 = .ok (.istore_n 1, 1) := by decide +kernel
theorem dX7_ordersOf_2 : decode cX7_ordersOf 2 = .ok (.iconst 2, 1) := by decide +kernel
theorem dX7_ordersOf_3 : decode cX7_ordersOf 3 = .ok (.istore_n 2, 1) := by decide +kernel
theorem dX7_ordersOf_4 : decode cX7_ordersOf 4 = .ok (.iload_n 2, 1) := by decide +kernel
theorem dX7_ordersOf_5 : decode cX7_ordersOf 5 = .ok (.iload_n 0, 1) := by decide +kernel
theorem dX7_ordersOf_6 : decode cX7_ordersOf 6 = .ok (.if_icmp .gt 13, 3) := by decide +kernel
theorem dX7_ordersOf_9 : decode cX7_ordersOf 9 = .ok (.iload_n 1, 1) := by decide +kernel
theorem dX7_ordersOf_10 : decode cX7_ordersOf 10 = .ok (.iload_n 2, 1) := by decide +kernel
theorem dX7_ordersOf_11 : decode cX7_ordersOf 11 = .ok (.imul, 1) := by decide +kernel
theorem dX7_ordersOf_12 : decode cX7_ordersOf 12 = .ok (.istore_n 1, 1) := by decide +kernel
theorem dX7_ordersOf_13 : decode cX7_ordersOf 13 = .ok (.iinc 2 1, 3) := by decide +kernel
theorem dX7_ordersOf_16 : decode cX7_ordersOf 16 = .ok (.goto (-12), 3) := by decide +kernel
theorem dX7_ordersOf_19 : decode cX7_ordersOf 19 = .ok (.iload_n 1, 1) := by decide +kernel
theorem dX7_ordersOf_20 : decode cX7_ordersOf 20 = .ok (.ireturn, 1) := by decide +kernel
theorem dX8_init_0 : decode cX8_init 0 = .ok (.aload_n 0, 1) := by decide +kernel
theorem dX8_init_1 : decode cX8_init 1 = .ok (.invokespecial 3, 3) := by decide +kernel
theorem dX8_init_4 : decode cX8_init 4 = .ok (.aload_n 0, 1) := by decide +kernel
theorem dX8_init_5 : decode cX8_init 5 = .ok (.bipush 115, 2) := by decide +kernel
theorem dX8_init_7 : decode cX8_init 7 = .ok (.newarray .int, 2) := by decide +kernel
theorem dX8_init_9 : decode cX8_init 9 = .ok (.putfield 11, 3) := by decide +kernel
theorem dX8_init_12 : decode cX8_init 12 = .ok (.aload_n 0, 1) := by decide +kernel
theorem dX8_init_13 : decode cX8_init 13 = .ok (.iconst 0, 1) := by decide +kernel
theorem dX8_init_14 : decode cX8_init 14 = .ok (.putfield 15, 3) := by decide +kernel
theorem dX8_init_17 : decode cX8_init 17 = .ok (.return_, 1) := by decide +kernel
theorem dX8_write_0 : decode cX8_write 0 = .ok (.aload_n 0, 1) := by decide +kernel
theorem dX8_write_1 : decode cX8_write 1 = .ok (.iconst 0, 1) := by decide +kernel
theorem dX8_write_2 : decode cX8_write 2 = .ok (.putfield 15, 3) := by decide +kernel
theorem dX8_write_5 : decode cX8_write 5 = .ok (.aload_n 0, 1) := by decide +kernel
theorem dX8_write_6 : decode cX8_write 6 = .ok (.bipush 110, 2) := by decide +kernel
theorem dX8_write_8 : decode cX8_write 8 = .ok (.invokevirtual 19, 3) := by decide +kernel
theorem dX8_write_11 : decode cX8_write 11 = .ok (.aload_n 0, 1) := by decide +kernel
theorem dX8_write_12 : decode cX8_write 12 = .ok (.aload_n 1, 1) := by decide +kernel
theorem dX8_write_13 : decode cX8_write 13 = .ok (.getfield 23, 3) := by decide +kernel
theorem dX8_write_16 : decode cX8_write 16 = .ok (.invokevirtual 28, 3) := by decide +kernel
theorem dX8_write_19 : decode cX8_write 19 = .ok (.aload_n 0, 1) := by decide +kernel
theorem dX8_write_20 : decode cX8_write 20 = .ok (.bipush 59, 2) := by decide +kernel
theorem dX8_write_22 : decode cX8_write 22 = .ok (.invokevirtual 19, 3) := by decide +kernel
theorem dX8_write_25 : decode cX8_write 25 = .ok (.iconst 0, 1) := by decide +kernel
theorem dX8_write_26 : decode cX8_write 26 = .ok (.istore_n 2, 1) := by decide +kernel
theorem dX8_write_27 : decode cX8_write 27 = .ok (.iload_n 2, 1) := by decide +kernel
theorem dX8_write_28 : decode cX8_write 28 = .ok (.aload_n 1, 1) := by decide +kernel
theorem dX8_write_29 : decode cX8_write 29 = .ok (.getfield 31, 3) := by decide +kernel
theorem dX8_write_32 : decode cX8_write 32 = .ok (.if_icmp .ge 15, 3) := by decide +kernel
theorem dX8_write_35 : decode cX8_write 35 = .ok (.aload_n 0, 1) := by decide +kernel
theorem dX8_write_36 : decode cX8_write 36 = .ok (.aload_n 1, 1) := by decide +kernel
theorem dX8_write_37 : decode cX8_write 37 = .ok (.iload_n 2, 1) := by decide +kernel
theorem dX8_write_38 : decode cX8_write 38 = .ok (.invokevirtual 34, 3) := by decide +kernel
theorem dX8_write_41 : decode cX8_write 41 = .ok (.iinc 2 1, 3) := by decide +kernel
theorem dX8_write_44 : decode cX8_write 44 = .ok (.goto (-17), 3) := by decide +kernel
theorem dX8_write_47 : decode cX8_write 47 = .ok (.return_, 1) := by decide +kernel
theorem dX8_writeLine_0 : decode cX8_writeLine 0 = .ok (.aload_n 0, 1) := by decide +kernel
theorem dX8_writeLine_1 : decode cX8_writeLine 1 = .ok (.bipush 108, 2) := by decide +kernel
theorem dX8_writeLine_3 : decode cX8_writeLine 3 = .ok (.invokevirtual 19, 3) := by decide +kernel
theorem dX8_writeLine_6 : decode cX8_writeLine 6 = .ok (.aload_n 0, 1) := by decide +kernel
theorem dX8_writeLine_7 : decode cX8_writeLine 7 = .ok (.aload_n 1, 1) := by decide +kernel
theorem dX8_writeLine_8 : decode cX8_writeLine 8 = .ok (.getfield 38, 3) := by decide +kernel
theorem dX8_writeLine_11 : decode cX8_writeLine 11 = .ok (.iload_n 2, 1) := by decide +kernel
theorem dX8_writeLine_12 : decode cX8_writeLine 12 = .ok (.iaload, 1) := by decide +kernel
theorem dX8_writeLine_13 : decode cX8_writeLine 13 = .ok (.invokevirtual 28, 3) := by decide +kernel
theorem dX8_writeLine_16 : decode cX8_writeLine 16 = .ok (.aload_n 0, 1) := by decide +kernel
theorem dX8_writeLine_17 : decode cX8_writeLine 17 = .ok (.aload_n 1, 1) := by decide +kernel
theorem dX8_writeLine_18 : decode cX8_writeLine 18 = .ok (.getfield 41, 3) := by decide +kernel
theorem dX8_writeLine_21 : decode cX8_writeLine 21 = .ok (.iload_n 2, 1) := by decide +kernel
theorem dX8_writeLine_22 : decode cX8_writeLine 22 = .ok (.iaload, 1) := by decide +kernel
theorem dX8_writeLine_23 : decode cX8_writeLine 23 = .ok (.invokevirtual 28, 3) := by decide +kernel
theorem dX8_writeLine_26 : decode cX8_writeLine 26 = .ok (.aload_n 0, 1) := by decide +kernel
theorem dX8_writeLine_27 : decode cX8_writeLine 27 = .ok (.aload_n 1, 1) := by decide +kernel
theorem dX8_writeLine_28 : decode cX8_writeLine 28 = .ok (.getfield 44, 3) := by decide +kernel
theorem dX8_writeLine_31 : decode cX8_writeLine 31 = .ok (.iload_n 2, 1) := by decide +kernel
theorem dX8_writeLine_32 : decode cX8_writeLine 32 = .ok (.iaload, 1) := by decide +kernel
theorem dX8_writeLine_33 : decode cX8_writeLine 33 = .ok (.invokevirtual 28, 3) := by decide +kernel
theorem dX8_writeLine_36 : decode cX8_writeLine 36 = .ok (.aload_n 0, 1) := by decide +kernel
theorem dX8_writeLine_37 : decode cX8_writeLine 37 = .ok (.bipush 59, 2) := by decide +kernel
theorem dX8_writeLine_39 : decode cX8_writeLine 39 = .ok (.invokevirtual 19, 3) := by decide +kernel
theorem dX8_writeLine_42 : decode cX8_writeLine 42 = .ok (.aload_n 1, 1) := by decide +kernel
theorem dX8_writeLine_43 : decode cX8_writeLine 43 = .ok (.getfield 47, 3) := by decide +kernel
theorem dX8_writeLine_46 : decode cX8_writeLine 46 = .ok (.iload_n 2, 1) := by decide +kernel
theorem dX8_writeLine_47 : decode cX8_writeLine 47 = .ok (.iaload, 1) := by decide +kernel
theorem dX8_writeLine_48 : decode cX8_writeLine 48 = .ok (.ifCond .eq 30, 3) := by decide +kernel
theorem dX8_writeLine_51 : decode cX8_writeLine 51 = .ok (.aload_n 0, 1) := by decide +kernel
theorem dX8_writeLine_52 : decode cX8_writeLine 52 = .ok (.bipush 102, 2) := by decide +kernel
theorem dX8_writeLine_54 : decode cX8_writeLine 54 = .ok (.invokevirtual 19, 3) := by decide +kernel
theorem dX8_writeLine_57 : decode cX8_writeLine 57 = .ok (.aload_n 0, 1) := by decide +kernel
theorem dX8_writeLine_58 : decode cX8_writeLine 58 = .ok (.iload_n 2, 1) := by decide +kernel
theorem dX8_writeLine_59 : decode cX8_writeLine 59 = .ok (.invokevirtual 28, 3) := by decide +kernel
theorem dX8_writeLine_62 : decode cX8_writeLine 62 = .ok (.aload_n 0, 1) := by decide +kernel
theorem dX8_writeLine_63 : decode cX8_writeLine 63 = .ok (.aload_n 1, 1) := by decide +kernel
theorem dX8_writeLine_64 : decode cX8_writeLine 64 = .ok (.getfield 47, 3) := by decide +kernel
theorem dX8_writeLine_67 : decode cX8_writeLine 67 = .ok (.iload_n 2, 1) := by decide +kernel
theorem dX8_writeLine_68 : decode cX8_writeLine 68 = .ok (.iaload, 1) := by decide +kernel
theorem dX8_writeLine_69 : decode cX8_writeLine 69 = .ok (.invokevirtual 28, 3) := by decide +kernel
theorem dX8_writeLine_72 : decode cX8_writeLine 72 = .ok (.aload_n 0, 1) := by decide +kernel
theorem dX8_writeLine_73 : decode cX8_writeLine 73 = .ok (.bipush 59, 2) := by decide +kernel
theorem dX8_writeLine_75 : decode cX8_writeLine 75 = .ok (.invokevirtual 19, 3) := by decide +kernel
theorem dX8_writeLine_78 : decode cX8_writeLine 78 = .ok (.aload_n 1, 1) := by decide +kernel
theorem dX8_writeLine_79 : decode cX8_writeLine 79 = .ok (.getfield 50, 3) := by decide +kernel
theorem dX8_writeLine_82 : decode cX8_writeLine 82 = .ok (.iload_n 2, 1) := by decide +kernel
theorem dX8_writeLine_83 : decode cX8_writeLine 83 = .ok (.iaload, 1) := by decide +kernel
theorem dX8_writeLine_84 : decode cX8_writeLine 84 = .ok (.ifCond .eq 46, 3) := by decide +kernel
theorem dX8_writeLine_87 : decode cX8_writeLine 87 = .ok (.aload_n 0, 1) := by decide +kernel
theorem dX8_writeLine_88 : decode cX8_writeLine 88 = .ok (.bipush 118, 2) := by decide +kernel
theorem dX8_writeLine_90 : decode cX8_writeLine 90 = .ok (.invokevirtual 19, 3) := by decide +kernel
theorem dX8_writeLine_93 : decode cX8_writeLine 93 = .ok (.aload_n 0, 1) := by decide +kernel
theorem dX8_writeLine_94 : decode cX8_writeLine 94 = .ok (.iload_n 2, 1) := by decide +kernel
theorem dX8_writeLine_95 : decode cX8_writeLine 95 = .ok (.invokevirtual 28, 3) := by decide +kernel
theorem dX8_writeLine_98 : decode cX8_writeLine 98 = .ok (.aload_n 0, 1) := by decide +kernel
theorem dX8_writeLine_99 : decode cX8_writeLine 99 = .ok (.aload_n 1, 1) := by decide +kernel
theorem dX8_writeLine_100 : decode cX8_writeLine 100 = .ok (.getfield 50, 3) := by decide +kernel
theorem dX8_writeLine_103 : decode cX8_writeLine 103 = .ok (.iload_n 2, 1) := by decide +kernel
theorem dX8_writeLine_104 : decode cX8_writeLine 104 = .ok (.iaload, 1) := by decide +kernel
theorem dX8_writeLine_105 : decode cX8_writeLine 105 = .ok (.bipush 10, 2) := by decide +kernel
theorem dX8_writeLine_107 : decode cX8_writeLine 107 = .ok (.idiv, 1) := by decide +kernel
theorem dX8_writeLine_108 : decode cX8_writeLine 108 = .ok (.invokevirtual 28, 3) := by decide +kernel
theorem dX8_writeLine_111 : decode cX8_writeLine 111 = .ok (.aload_n 0, 1) := by decide +kernel
theorem dX8_writeLine_112 : decode cX8_writeLine 112 = .ok (.aload_n 1, 1) := by decide +kernel
theorem dX8_writeLine_113 : decode cX8_writeLine 113 = .ok (.getfield 50, 3) := by decide +kernel
theorem dX8_writeLine_116 : decode cX8_writeLine 116 = .ok (.iload_n 2, 1) := by decide +kernel
theorem dX8_writeLine_117 : decode cX8_writeLine 117 = .ok (.iaload, 1) := by decide +kernel
theorem dX8_writeLine_118 : decode cX8_writeLine 118 = .ok (.bipush 10, 2) := by decide +kernel
theorem dX8_writeLine_120 : decode cX8_writeLine 120 = .ok (.irem, 1) := by decide +kernel
theorem dX8_writeLine_121 : decode cX8_writeLine 121 = .ok (.invokevirtual 28, 3) := by decide +kernel
theorem dX8_writeLine_124 : decode cX8_writeLine 124 = .ok (.aload_n 0, 1) := by decide +kernel
theorem dX8_writeLine_125 : decode cX8_writeLine 125 = .ok (.bipush 59, 2) := by decide +kernel
theorem dX8_writeLine_127 : decode cX8_writeLine 127 = .ok (.invokevirtual 19, 3) := by decide +kernel
theorem dX8_writeLine_130 : decode cX8_writeLine 130 = .ok (.return_, 1) := by decide +kernel
theorem dX8_addDigit_0 : decode cX8_addDigit 0 = .ok (.aload_n 0, 1) := by decide +kernel
theorem dX8_addDigit_1 : decode cX8_addDigit 1 = .ok (.bipush 48, 2) := by decide +kernel
theorem dX8_addDigit_3 : decode cX8_addDigit 3 = .ok (.iload_n 1, 1) := by decide +kernel
theorem dX8_addDigit_4 : decode cX8_addDigit 4 = .ok (.iadd, 1) := by decide +kernel
theorem dX8_addDigit_5 : decode cX8_addDigit 5 = .ok (.invokevirtual 19, 3) := by decide +kernel
theorem dX8_addDigit_8 : decode cX8_addDigit 8 = .ok (.return_, 1) := by decide +kernel
theorem dX8_add_0 : decode cX8_add 0 = .ok (.aload_n 0, 1) := by decide +kernel
theorem dX8_add_1 : decode cX8_add 1 = .ok (.getfield 15, 3) := by decide +kernel
theorem dX8_add_4 : decode cX8_add 4 = .ok (.bipush 115, 2) := by decide +kernel
theorem dX8_add_6 : decode cX8_add 6 = .ok (.if_icmp .ge 23, 3) := by decide +kernel
theorem dX8_add_9 : decode cX8_add 9 = .ok (.aload_n 0, 1) := by decide +kernel
theorem dX8_add_10 : decode cX8_add 10 = .ok (.getfield 11, 3) := by decide +kernel
theorem dX8_add_13 : decode cX8_add 13 = .ok (.aload_n 0, 1) := by decide +kernel
theorem dX8_add_14 : decode cX8_add 14 = .ok (.getfield 15, 3) := by decide +kernel
theorem dX8_add_17 : decode cX8_add 17 = .ok (.iload_n 1, 1) := by decide +kernel
theorem dX8_add_18 : decode cX8_add 18 = .ok (.iastore, 1) := by decide +kernel
theorem dX8_add_19 : decode cX8_add 19 = .ok (.aload_n 0, 1) := by decide +kernel
theorem dX8_add_20 : decode cX8_add 20 = .ok (.dup, 1) := by decide +kernel
theorem dX8_add_21 : decode cX8_add 21 = .ok (.getfield 15, 3) := by decide +kernel
theorem dX8_add_24 : decode cX8_add 24 = .ok (.iconst 1, 1) := by decide +kernel
theorem dX8_add_25 : decode cX8_add 25 = .ok (.iadd, 1) := by decide +kernel
theorem dX8_add_26 : decode cX8_add 26 = .ok (.putfield 15, 3) := by decide +kernel
theorem dX8_add_29 : decode cX8_add 29 = .ok (.return_, 1) := by decide +kernel
theorem dX9_init_0 : decode cX9_init 0 = .ok (.aload_n 0, 1) := by decide +kernel
theorem dX9_init_1 : decode cX9_init 1 = .ok (.invokespecial 1, 3) := by decide +kernel
theorem dX9_init_4 : decode cX9_init 4 = .ok (.aload_n 0, 1) := by decide +kernel
theorem dX9_init_5 : decode cX9_init 5 = .ok (.new 7, 3) := by decide +kernel
theorem dX9_init_8 : decode cX9_init 8 = .ok (.dup, 1) := by decide +kernel
theorem dX9_init_9 : decode cX9_init 9 = .ok (.invokespecial 9, 3) := by decide +kernel
theorem dX9_init_12 : decode cX9_init 12 = .ok (.putfield 10, 3) := by decide +kernel
theorem dX9_init_15 : decode cX9_init 15 = .ok (.aload_n 0, 1) := by decide +kernel
theorem dX9_init_16 : decode cX9_init 16 = .ok (.new 7, 3) := by decide +kernel
theorem dX9_init_19 : decode cX9_init 19 = .ok (.dup, 1) := by decide +kernel
theorem dX9_init_20 : decode cX9_init 20 = .ok (.invokespecial 9, 3) := by decide +kernel
theorem dX9_init_23 : decode cX9_init 23 = .ok (.putfield 16, 3) := by decide +kernel
theorem dX9_init_26 : decode cX9_init 26 = .ok (.aload_n 0, 1) := by decide +kernel
theorem dX9_init_27 : decode cX9_init 27 = .ok (.iconst 0, 1) := by decide +kernel
theorem dX9_init_28 : decode cX9_init 28 = .ok (.putfield 19, 3) := by decide +kernel
theorem dX9_init_31 : decode cX9_init 31 = .ok (.aload_n 0, 1) := by decide +kernel
theorem dX9_init_32 : decode cX9_init 32 = .ok (.new 23, 3) := by decide +kernel
theorem dX9_init_35 : decode cX9_init 35 = .ok (.dup, 1) := by decide +kernel
theorem dX9_init_36 : decode cX9_init 36 = .ok (.invokespecial 25, 3) := by decide +kernel
theorem dX9_init_39 : decode cX9_init 39 = .ok (.putfield 26, 3) := by decide +kernel
theorem dX9_init_42 : decode cX9_init 42 = .ok (.aload_n 0, 1) := by decide +kernel
theorem dX9_init_43 : decode cX9_init 43 = .ok (.new 30, 3) := by decide +kernel
theorem dX9_init_46 : decode cX9_init 46 = .ok (.dup, 1) := by decide +kernel
theorem dX9_init_47 : decode cX9_init 47 = .ok (.aload_n 0, 1) := by decide +kernel
theorem dX9_init_48 : decode cX9_init 48 = .ok (.getfield 10, 3) := by decide +kernel
theorem dX9_init_51 : decode cX9_init 51 = .ok (.invokespecial 32, 3) := by decide +kernel
theorem dX9_init_54 : decode cX9_init 54 = .ok (.putfield 35, 3) := by decide +kernel
theorem dX9_init_57 : decode cX9_init 57 = .ok (.aload_n 0, 1) := by decide +kernel
theorem dX9_init_58 : decode cX9_init 58 = .ok (.new 39, 3) := by decide +kernel
theorem dX9_init_61 : decode cX9_init 61 = .ok (.dup, 1) := by decide +kernel
theorem dX9_init_62 : decode cX9_init 62 = .ok (.aload_n 0, 1) := by decide +kernel
theorem dX9_init_63 : decode cX9_init 63 = .ok (.getfield 10, 3) := by decide +kernel
theorem dX9_init_66 : decode cX9_init 66 = .ok (.invokespecial 41, 3) := by decide +kernel
theorem dX9_init_69 : decode cX9_init 69 = .ok (.putfield 42, 3) := by decide +kernel
theorem dX9_init_72 : decode cX9_init 72 = .ok (.aload_n 0, 1) := by decide +kernel
theorem dX9_init_73 : decode cX9_init 73 = .ok (.new 46, 3) := by decide +kernel
theorem dX9_init_76 : decode cX9_init 76 = .ok (.dup, 1) := by decide +kernel
theorem dX9_init_77 : decode cX9_init 77 = .ok (.invokespecial 48, 3) := by decide +kernel
theorem dX9_init_80 : decode cX9_init 80 = .ok (.putfield 49, 3) := by decide +kernel
theorem dX9_init_83 : decode cX9_init 83 = .ok (.aload_n 0, 1) := by decide +kernel
theorem dX9_init_84 : decode cX9_init 84 = .ok (.new 53, 3) := by decide +kernel
theorem dX9_init_87 : decode cX9_init 87 = .ok (.dup, 1) := by decide +kernel
theorem dX9_init_88 : decode cX9_init 88 = .ok (.invokespecial 55, 3) := by decide +kernel
theorem dX9_init_91 : decode cX9_init 91 = .ok (.putfield 56, 3) := by decide +kernel
theorem dX9_init_94 : decode cX9_init 94 = .ok (.aload_n 0, 1) := by decide +kernel
theorem dX9_init_95 : decode cX9_init 95 = .ok (.new 60, 3) := by decide +kernel
theorem dX9_init_98 : decode cX9_init 98 = .ok (.dup, 1) := by decide +kernel
theorem dX9_init_99 : decode cX9_init 99 = .ok (.invokespecial 62, 3) := by decide +kernel
theorem dX9_init_102 : decode cX9_init 102 = .ok (.putfield 63, 3) := by decide +kernel
theorem dX9_init_105 : decode cX9_init 105 = .ok (.aload_n 0, 1) := by decide +kernel
theorem dX9_init_106 : decode cX9_init 106 = .ok (.bipush 7, 2) := by decide +kernel
theorem dX9_init_108 : decode cX9_init 108 = .ok (.newarray .int, 2) := by decide +kernel
theorem dX9_init_110 : decode cX9_init 110 = .ok (.putfield 67, 3) := by decide +kernel
theorem dX9_init_113 : decode cX9_init 113 = .ok (.aload_n 0, 1) := by decide +kernel
theorem dX9_init_114 : decode cX9_init 114 = .ok (.bipush 7, 2) := by decide +kernel
theorem dX9_init_116 : decode cX9_init 116 = .ok (.newarray .int, 2) := by decide +kernel
theorem dX9_init_118 : decode cX9_init 118 = .ok (.putfield 71, 3) := by decide +kernel
theorem dX9_init_121 : decode cX9_init 121 = .ok (.aload_n 0, 1) := by decide +kernel
theorem dX9_init_122 : decode cX9_init 122 = .ok (.bipush 7, 2) := by decide +kernel
theorem dX9_init_124 : decode cX9_init 124 = .ok (.newarray .int, 2) := by decide +kernel
theorem dX9_init_126 : decode cX9_init 126 = .ok (.putfield 74, 3) := by decide +kernel
theorem dX9_init_129 : decode cX9_init 129 = .ok (.return_, 1) := by decide +kernel
theorem dX9_letter_0 : decode cX9_letter 0 = .ok (.iload_n 1, 1) := by decide +kernel
theorem dX9_letter_1 : decode cX9_letter 1 = .ok (.ifCond .ge 10, 3) := by decide +kernel
theorem dX9_letter_4 : decode cX9_letter 4 = .ok (.aload_n 0, 1) := by decide +kernel
theorem dX9_letter_5 : decode cX9_letter 5 = .ok (.bipush (-4), 2) := by decide +kernel
theorem dX9_letter_7 : decode cX9_letter 7 = .ok (.invokevirtual 77, 3) := by decide +kernel
theorem dX9_letter_10 : decode cX9_letter 10 = .ok (.ireturn, 1) := by decide +kernel
theorem dX9_letter_11 : decode cX9_letter 11 = .ok (.iload_n 1, 1) := by decide +kernel
theorem dX9_letter_12 : decode cX9_letter 12 = .ok (.sipush 255, 3) := by decide +kernel
theorem dX9_letter_15 : decode cX9_letter 15 = .ok (.if_icmp .gt 15, 3) := by decide +kernel
theorem dX9_letter_18 : decode cX9_letter 18 = .ok (.aload_n 0, 1) := by decide +kernel
theorem dX9_letter_19 : decode cX9_letter 19 = .ok (.getfield 49, 3) := by decide +kernel
theorem dX9_letter_22 : decode cX9_letter 22 = .ok (.getfield 81, 3) := by decide +kernel
theorem dX9_letter_25 : decode cX9_letter 25 = .ok (.bipush 72, 2) := by decide +kernel
theorem dX9_letter_27 : decode cX9_letter 27 = .ok (.if_icmp .lt 10, 3) := by decide +kernel
theorem dX9_letter_30 : decode cX9_letter 30 = .ok (.aload_n 0, 1) := by decide +kernel
theorem dX9_letter_31 : decode cX9_letter 31 = .ok (.bipush (-6), 2) := by decide +kernel
theorem dX9_letter_33 : decode cX9_letter 33 = .ok (.invokevirtual 77, 3) := by decide +kernel
theorem dX9_letter_36 : decode cX9_letter 36 = .ok (.ireturn, 1) := by decide +kernel
theorem dX9_letter_37 : decode cX9_letter 37 = .ok (.aload_n 0, 1) := by decide +kernel
theorem dX9_letter_38 : decode cX9_letter 38 = .ok (.getfield 49, 3) := by decide +kernel
theorem dX9_letter_41 : decode cX9_letter 41 = .ok (.iload_n 1, 1) := by decide +kernel
theorem dX9_letter_42 : decode cX9_letter 42 = .ok (.invokevirtual 85, 3) := by decide +kernel
theorem dX9_letter_45 : decode cX9_letter 45 = .ok (.aload_n 0, 1) := by decide +kernel
theorem dX9_letter_46 : decode cX9_letter 46 = .ok (.getfield 49, 3) := by decide +kernel
theorem dX9_letter_49 : decode cX9_letter 49 = .ok (.getfield 81, 3) := by decide +kernel
theorem dX9_letter_52 : decode cX9_letter 52 = .ok (.ireturn, 1) := by decide +kernel
theorem dX9_text_0 : decode cX9_text 0 = .ok (.aload_n 0, 1) := by decide +kernel
theorem dX9_text_1 : decode cX9_text 1 = .ok (.getfield 49, 3) := by decide +kernel
theorem dX9_text_4 : decode cX9_text 4 = .ok (.aload_n 0, 1) := by decide +kernel
theorem dX9_text_5 : decode cX9_text 5 = .ok (.getfield 10, 3) := by decide +kernel
theorem dX9_text_8 : decode cX9_text 8 = .ok (.invokevirtual 89, 3) := by decide +kernel
theorem dX9_text_11 : decode cX9_text 11 = .ok (.istore_n 1, 1) := by decide +kernel
theorem dX9_text_12 : decode cX9_text 12 = .ok (.aload_n 0, 1) := by decide +kernel
theorem dX9_text_13 : decode cX9_text 13 = .ok (.getfield 49, 3) := by decide +kernel
theorem dX9_text_16 : decode cX9_text 16 = .ok (.iconst 0, 1) := by decide +kernel
theorem dX9_text_17 : decode cX9_text 17 = .ok (.putfield 81, 3) := by decide +kernel
theorem dX9_text_20 : decode cX9_text 20 = .ok (.iload_n 1, 1) := by decide +kernel
theorem dX9_text_21 : decode cX9_text 21 = .ok (.ifCond .lt 10, 3) := by decide +kernel
theorem dX9_text_24 : decode cX9_text 24 = .ok (.aload_n 0, 1) := by decide +kernel
theorem dX9_text_25 : decode cX9_text 25 = .ok (.getfield 26, 3) := by decide +kernel
theorem dX9_text_28 : decode cX9_text 28 = .ok (.invokevirtual 93, 3) := by decide +kernel
theorem dX9_text_31 : decode cX9_text 31 = .ok (.iload_n 1, 1) := by decide +kernel
theorem dX9_text_32 : decode cX9_text 32 = .ok (.ireturn, 1) := by decide +kernel
theorem dX9_points_0 : decode cX9_points 0 = .ok (.iload_n 1, 1) := by decide +kernel
theorem dX9_points_1 : decode cX9_points 1 = .ok (.iconst 1, 1) := by decide +kernel
theorem dX9_points_2 : decode cX9_points 2 = .ok (.if_icmp .ge 10, 3) := by decide +kernel
theorem dX9_points_5 : decode cX9_points 5 = .ok (.aload_n 0, 1) := by decide +kernel
theorem dX9_points_6 : decode cX9_points 6 = .ok (.bipush (-4), 2) := by decide +kernel
theorem dX9_points_8 : decode cX9_points 8 = .ok (.invokevirtual 77, 3) := by decide +kernel
theorem dX9_points_11 : decode cX9_points 11 = .ok (.ireturn, 1) := by decide +kernel
theorem dX9_points_12 : decode cX9_points 12 = .ok (.iload_n 1, 1) := by decide +kernel
theorem dX9_points_13 : decode cX9_points 13 = .ok (.bipush 7, 2) := by decide +kernel
theorem dX9_points_15 : decode cX9_points 15 = .ok (.if_icmp .le 10, 3) := by decide +kernel
theorem dX9_points_18 : decode cX9_points 18 = .ok (.aload_n 0, 1) := by decide +kernel
theorem dX9_points_19 : decode cX9_points 19 = .ok (.bipush (-6), 2) := by decide +kernel
theorem dX9_points_21 : decode cX9_points 21 = .ok (.invokevirtual 77, 3) := by decide +kernel
theorem dX9_points_24 : decode cX9_points 24 = .ok (.ireturn, 1) := by decide +kernel
theorem dX9_points_25 : decode cX9_points 25 = .ok (.aload_n 0, 1) := by decide +kernel
theorem dX9_points_26 : decode cX9_points 26 = .ok (.getfield 10, 3) := by decide +kernel
theorem dX9_points_29 : decode cX9_points 29 = .ok (.getfield 96, 3) := by decide +kernel
theorem dX9_points_32 : decode cX9_points 32 = .ok (.istore_n 2, 1) := by decide +kernel
theorem dX9_points_33 : decode cX9_points 33 = .ok (.aload_n 0, 1) := by decide +kernel
theorem dX9_points_34 : decode cX9_points 34 = .ok (.getfield 10, 3) := by decide +kernel
theorem dX9_points_37 : decode cX9_points 37 = .ok (.iload_n 1, 1) := by decide +kernel
theorem dX9_points_38 : decode cX9_points 38 = .ok (.invokevirtual 99, 3) := by decide +kernel
theorem dX9_points_41 : decode cX9_points 41 = .ok (.aload_n 0, 1) := by decide +kernel
theorem dX9_points_42 : decode cX9_points 42 = .ok (.getfield 26, 3) := by decide +kernel
theorem dX9_points_45 : decode cX9_points 45 = .ok (.invokevirtual 93, 3) := by decide +kernel
theorem dX9_points_48 : decode cX9_points 48 = .ok (.iload_n 2, 1) := by decide +kernel
theorem dX9_points_49 : decode cX9_points 49 = .ok (.ireturn, 1) := by decide +kernel
theorem dX9_line_0 : decode cX9_line 0 = .ok (.iload_n 1, 1) := by decide +kernel
theorem dX9_line_1 : decode cX9_line 1 = .ok (.invokestatic 102, 3) := by decide +kernel
theorem dX9_line_4 : decode cX9_line 4 = .ok (.ifCond .ne 10, 3) := by decide +kernel
theorem dX9_line_7 : decode cX9_line 7 = .ok (.aload_n 0, 1) := by decide +kernel
theorem dX9_line_8 : decode cX9_line 8 = .ok (.bipush (-2), 2) := by decide +kernel
theorem dX9_line_10 : decode cX9_line 10 = .ok (.invokevirtual 77, 3) := by decide +kernel
theorem dX9_line_13 : decode cX9_line 13 = .ok (.ireturn, 1) := by decide +kernel
theorem dX9_line_14 : decode cX9_line 14 = .ok (.aload_n 0, 1) := by decide +kernel
theorem dX9_line_15 : decode cX9_line 15 = .ok (.getfield 10, 3) := by decide +kernel
theorem dX9_line_18 : decode cX9_line 18 = .ok (.iload_n 2, 1) := by decide +kernel
theorem dX9_line_19 : decode cX9_line 19 = .ok (.invokevirtual 106, 3) := by decide +kernel
theorem dX9_line_22 : decode cX9_line 22 = .ok (.ifCond .eq 14, 3) := by decide +kernel
theorem dX9_line_25 : decode cX9_line 25 = .ok (.aload_n 0, 1) := by decide +kernel
theorem dX9_line_26 : decode cX9_line 26 = .ok (.getfield 10, 3) := by decide +kernel
theorem dX9_line_29 : decode cX9_line 29 = .ok (.iload_n 3, 1) := by decide +kernel
theorem dX9_line_30 : decode cX9_line 30 = .ok (.invokevirtual 106, 3) := by decide +kernel
theorem dX9_line_33 : decode cX9_line 33 = .ok (.ifCond .ne 9, 3) := by decide +kernel
theorem dX9_line_36 : decode cX9_line 36 = .ok (.aload_n 0, 1) := by decide +kernel
theorem dX9_line_37 : decode cX9_line 37 = .ok (.iconst (-1), 1) := by decide +kernel
theorem dX9_line_38 : decode cX9_line 38 = .ok (.invokevirtual 77, 3) := by decide +kernel
theorem dX9_line_41 : decode cX9_line 41 = .ok (.ireturn, 1) := by decide +kernel
theorem dX9_line_42 : decode cX9_line 42 = .ok (.aload_n 0, 1) := by decide +kernel
theorem dX9_line_43 : decode cX9_line 43 = .ok (.getfield 10, 3) := by decide +kernel
theorem dX9_line_46 : decode cX9_line 46 = .ok (.getfield 109, 3) := by decide +kernel
theorem dX9_line_49 : decode cX9_line 49 = .ok (.bipush 8, 2) := by decide +kernel
theorem dX9_line_51 : decode cX9_line 51 = .ok (.if_icmp .lt 10, 3) := by decide +kernel
theorem dX9_line_54 : decode cX9_line 54 = .ok (.aload_n 0, 1) := by decide +kernel
theorem dX9_line_55 : decode cX9_line 55 = .ok (.bipush (-6), 2) := by decide +kernel
theorem dX9_line_57 : decode cX9_line 57 = .ok (.invokevirtual 77, 3) := by decide +kernel
theorem dX9_line_60 : decode cX9_line 60 = .ok (.ireturn, 1) := by decide +kernel
theorem dX9_line_61 : decode cX9_line 61 = .ok (.aload_n 0, 1) := by decide +kernel
theorem dX9_line_62 : decode cX9_line 62 = .ok (.getfield 10, 3) := by decide +kernel
theorem dX9_line_65 : decode cX9_line 65 = .ok (.iload_n 1, 1) := by decide +kernel
theorem dX9_line_66 : decode cX9_line 66 = .ok (.iload_n 2, 1) := by decide +kernel
theorem dX9_line_67 : decode cX9_line 67 = .ok (.iload_n 3, 1) := by decide +kernel
theorem dX9_line_68 : decode cX9_line 68 = .ok (.invokevirtual 112, 3) := by decide +kernel
theorem dX9_line_71 : decode cX9_line 71 = .ok (.aload_n 0, 1) := by decide +kernel
theorem dX9_line_72 : decode cX9_line 72 = .ok (.getfield 26, 3) := by decide +kernel
theorem dX9_line_75 : decode cX9_line 75 = .ok (.invokevirtual 93, 3) := by decide +kernel
theorem dX9_line_78 : decode cX9_line 78 = .ok (.aload_n 0, 1) := by decide +kernel
theorem dX9_line_79 : decode cX9_line 79 = .ok (.getfield 10, 3) := by decide +kernel
theorem dX9_line_82 : decode cX9_line 82 = .ok (.getfield 109, 3) := by decide +kernel
theorem dX9_line_85 : decode cX9_line 85 = .ok (.iconst 1, 1) := by decide +kernel
theorem dX9_line_86 : decode cX9_line 86 = .ok (.isub, 1) := by decide +kernel
theorem dX9_line_87 : decode cX9_line 87 = .ok (.ireturn, 1) := by decide +kernel
theorem dX9_drop_0 : decode cX9_drop 0 = .ok (.aload_n 0, 1) := by decide +kernel
theorem dX9_drop_1 : decode cX9_drop 1 = .ok (.getfield 10, 3) := by decide +kernel
theorem dX9_drop_4 : decode cX9_drop 4 = .ok (.getfield 109, 3) := by decide +kernel
theorem dX9_drop_7 : decode cX9_drop 7 = .ok (.iconst 1, 1) := by decide +kernel
theorem dX9_drop_8 : decode cX9_drop 8 = .ok (.if_icmp .ge 10, 3) := by decide +kernel
theorem dX9_drop_11 : decode cX9_drop 11 = .ok (.aload_n 0, 1) := by decide +kernel
theorem dX9_drop_12 : decode cX9_drop 12 = .ok (.bipush (-3), 2) := by decide +kernel
theorem dX9_drop_14 : decode cX9_drop 14 = .ok (.invokevirtual 77, 3) := by decide +kernel
theorem dX9_drop_17 : decode cX9_drop 17 = .ok (.ireturn, 1) := by decide +kernel
theorem dX9_drop_18 : decode cX9_drop 18 = .ok (.aload_n 0, 1) := by decide +kernel
theorem dX9_drop_19 : decode cX9_drop 19 = .ok (.getfield 10, 3) := by decide +kernel
theorem dX9_drop_22 : decode cX9_drop 22 = .ok (.dup, 1) := by decide +kernel
theorem dX9_drop_23 : decode cX9_drop 23 = .ok (.getfield 109, 3) := by decide +kernel
theorem dX9_drop_26 : decode cX9_drop 26 = .ok (.iconst 1, 1) := by decide +kernel
theorem dX9_drop_27 : decode cX9_drop 27 = .ok (.isub, 1) := by decide +kernel
theorem dX9_drop_28 : decode cX9_drop 28 = .ok (.putfield 109, 3) := by decide +kernel
theorem dX9_drop_31 : decode cX9_drop 31 = .ok (.aload_n 0, 1) := by decide +kernel
theorem dX9_drop_32 : decode cX9_drop 32 = .ok (.getfield 26, 3) := by decide +kernel
theorem dX9_drop_35 : decode cX9_drop 35 = .ok (.invokevirtual 93, 3) := by decide +kernel
theorem dX9_drop_38 : decode cX9_drop 38 = .ok (.aload_n 0, 1) := by decide +kernel
theorem dX9_drop_39 : decode cX9_drop 39 = .ok (.getfield 10, 3) := by decide +kernel
theorem dX9_drop_42 : decode cX9_drop 42 = .ok (.getfield 109, 3) := by decide +kernel
theorem dX9_drop_45 : decode cX9_drop 45 = .ok (.ireturn, 1) := by decide +kernel
theorem dX9_label_0 : decode cX9_label 0 = .ok (.aload_n 0, 1) := by decide +kernel
theorem dX9_label_1 : decode cX9_label 1 = .ok (.getfield 10, 3) := by decide +kernel
theorem dX9_label_4 : decode cX9_label 4 = .ok (.iload_n 1, 1) := by decide +kernel
theorem dX9_label_5 : decode cX9_label 5 = .ok (.invokevirtual 115, 3) := by decide +kernel
theorem dX9_label_8 : decode cX9_label 8 = .ok (.ifCond .ne 9, 3) := by decide +kernel
theorem dX9_label_11 : decode cX9_label 11 = .ok (.aload_n 0, 1) := by decide +kernel
theorem dX9_label_12 : decode cX9_label 12 = .ok (.iconst (-1), 1) := by decide +kernel
theorem dX9_label_13 : decode cX9_label 13 = .ok (.invokevirtual 77, 3) := by decide +kernel
theorem dX9_label_16 : decode cX9_label 16 = .ok (.ireturn, 1) := by decide +kernel
theorem dX9_label_17 : decode cX9_label 17 = .ok (.iload_n 2, 1) := by decide +kernel
theorem dX9_label_18 : decode cX9_label 18 = .ok (.ifCond .ge 10, 3) := by decide +kernel
theorem dX9_label_21 : decode cX9_label 21 = .ok (.aload_n 0, 1) := by decide +kernel
theorem dX9_label_22 : decode cX9_label 22 = .ok (.bipush (-4), 2) := by decide +kernel
theorem dX9_label_24 : decode cX9_label 24 = .ok (.invokevirtual 77, 3) := by decide +kernel
theorem dX9_label_27 : decode cX9_label 27 = .ok (.ireturn, 1) := by decide +kernel
theorem dX9_label_28 : decode cX9_label 28 = .ok (.iload_n 2, 1) := by decide +kernel
theorem dX9_label_29 : decode cX9_label 29 = .ok (.bipush 99, 2) := by decide +kernel
theorem dX9_label_31 : decode cX9_label 31 = .ok (.if_icmp .le 10, 3) := by decide +kernel
theorem dX9_label_34 : decode cX9_label 34 = .ok (.aload_n 0, 1) := by decide +kernel
theorem dX9_label_35 : decode cX9_label 35 = .ok (.bipush (-6), 2) := by decide +kernel
theorem dX9_label_37 : decode cX9_label 37 = .ok (.invokevirtual 77, 3) := by decide +kernel
theorem dX9_label_40 : decode cX9_label 40 = .ok (.ireturn, 1) := by decide +kernel
theorem dX9_label_41 : decode cX9_label 41 = .ok (.aload_n 0, 1) := by decide +kernel
theorem dX9_label_42 : decode cX9_label 42 = .ok (.getfield 26, 3) := by decide +kernel
theorem dX9_label_45 : decode cX9_label 45 = .ok (.aload_n 0, 1) := by decide +kernel
theorem dX9_label_46 : decode cX9_label 46 = .ok (.getfield 10, 3) := by decide +kernel
theorem dX9_label_49 : decode cX9_label 49 = .ok (.invokevirtual 118, 3) := by decide +kernel
theorem dX9_label_52 : decode cX9_label 52 = .ok (.aload_n 0, 1) := by decide +kernel
theorem dX9_label_53 : decode cX9_label 53 = .ok (.getfield 10, 3) := by decide +kernel
theorem dX9_label_56 : decode cX9_label 56 = .ok (.getfield 121, 3) := by decide +kernel
theorem dX9_label_59 : decode cX9_label 59 = .ok (.iload_n 1, 1) := by decide +kernel
theorem dX9_label_60 : decode cX9_label 60 = .ok (.iaload, 1) := by decide +kernel
theorem dX9_label_61 : decode cX9_label 61 = .ok (.istore_n 3, 1) := by decide +kernel
theorem dX9_label_62 : decode cX9_label 62 = .ok (.aload_n 0, 1) := by decide +kernel
theorem dX9_label_63 : decode cX9_label 63 = .ok (.getfield 10, 3) := by decide +kernel
theorem dX9_label_66 : decode cX9_label 66 = .ok (.getfield 121, 3) := by decide +kernel
theorem dX9_label_69 : decode cX9_label 69 = .ok (.iload_n 1, 1) := by decide +kernel
theorem dX9_label_70 : decode cX9_label 70 = .ok (.iload_n 2, 1) := by decide +kernel
theorem dX9_label_71 : decode cX9_label 71 = .ok (.iastore, 1) := by decide +kernel
theorem dX9_label_72 : decode cX9_label 72 = .ok (.iload_n 3, 1) := by decide +kernel
theorem dX9_label_73 : decode cX9_label 73 = .ok (.ireturn, 1) := by decide +kernel
theorem dX9_turn_0 : decode cX9_turn 0 = .ok (.aload_n 0, 1) := by decide +kernel
theorem dX9_turn_1 : decode cX9_turn 1 = .ok (.getfield 10, 3) := by decide +kernel
theorem dX9_turn_4 : decode cX9_turn 4 = .ok (.iload_n 1, 1) := by decide +kernel
theorem dX9_turn_5 : decode cX9_turn 5 = .ok (.invokevirtual 115, 3) := by decide +kernel
theorem dX9_turn_8 : decode cX9_turn 8 = .ok (.ifCond .ne 9, 3) := by decide +kernel
theorem dX9_turn_11 : decode cX9_turn 11 = .ok (.aload_n 0, 1) := by decide +kernel
theorem dX9_turn_12 : decode cX9_turn 12 = .ok (.iconst (-1), 1) := by decide +kernel
theorem dX9_turn_13 : decode cX9_turn 13 = .ok (.invokevirtual 77, 3) := by decide +kernel
theorem dX9_turn_16 : decode cX9_turn 16 = .ok (.ireturn, 1) := by decide +kernel
theorem dX9_turn_17 : decode cX9_turn 17 = .ok (.iload_n 2, 1) := by decide +kernel
theorem dX9_turn_18 : decode cX9_turn 18 = .ok (.invokestatic 102, 3) := by decide +kernel
theorem dX9_turn_21 : decode cX9_turn 21 = .ok (.ifCond .ne 10, 3) := by decide +kernel
theorem dX9_turn_24 : decode cX9_turn 24 = .ok (.aload_n 0, 1) := by decide +kernel
theorem dX9_turn_25 : decode cX9_turn 25 = .ok (.bipush (-2), 2) := by decide +kernel
theorem dX9_turn_27 : decode cX9_turn 27 = .ok (.invokevirtual 77, 3) := by decide +kernel
theorem dX9_turn_30 : decode cX9_turn 30 = .ok (.ireturn, 1) := by decide +kernel
theorem dX9_turn_31 : decode cX9_turn 31 = .ok (.iload_n 3, 1) := by decide +kernel
theorem dX9_turn_32 : decode cX9_turn 32 = .ok (.ifCond .ge 10, 3) := by decide +kernel
theorem dX9_turn_35 : decode cX9_turn 35 = .ok (.aload_n 0, 1) := by decide +kernel
theorem dX9_turn_36 : decode cX9_turn 36 = .ok (.bipush (-4), 2) := by decide +kernel
theorem dX9_turn_38 : decode cX9_turn 38 = .ok (.invokevirtual 77, 3) := by decide +kernel
theorem dX9_turn_41 : decode cX9_turn 41 = .ok (.ireturn, 1) := by decide +kernel
theorem dX9_turn_42 : decode cX9_turn 42 = .ok (.iload_n 3, 1) := by decide +kernel
theorem dX9_turn_43 : decode cX9_turn 43 = .ok (.bipush 9, 2) := by decide +kernel
theorem dX9_turn_45 : decode cX9_turn 45 = .ok (.if_icmp .le 10, 3) := by decide +kernel
theorem dX9_turn_48 : decode cX9_turn 48 = .ok (.aload_n 0, 1) := by decide +kernel
theorem dX9_turn_49 : decode cX9_turn 49 = .ok (.bipush (-6), 2) := by decide +kernel
theorem dX9_turn_51 : decode cX9_turn 51 = .ok (.invokevirtual 77, 3) := by decide +kernel
theorem dX9_turn_54 : decode cX9_turn 54 = .ok (.ireturn, 1) := by decide +kernel
theorem dX9_turn_55 : decode cX9_turn 55 = .ok (.aload_n 0, 1) := by decide +kernel
theorem dX9_turn_56 : decode cX9_turn 56 = .ok (.getfield 26, 3) := by decide +kernel
theorem dX9_turn_59 : decode cX9_turn 59 = .ok (.aload_n 0, 1) := by decide +kernel
theorem dX9_turn_60 : decode cX9_turn 60 = .ok (.getfield 10, 3) := by decide +kernel
theorem dX9_turn_63 : decode cX9_turn 63 = .ok (.invokevirtual 118, 3) := by decide +kernel
theorem dX9_turn_66 : decode cX9_turn 66 = .ok (.bipush 10, 2) := by decide +kernel
theorem dX9_turn_68 : decode cX9_turn 68 = .ok (.aload_n 0, 1) := by decide +kernel
theorem dX9_turn_69 : decode cX9_turn 69 = .ok (.getfield 10, 3) := by decide +kernel
theorem dX9_turn_72 : decode cX9_turn 72 = .ok (.getfield 124, 3) := by decide +kernel
theorem dX9_turn_75 : decode cX9_turn 75 = .ok (.iload_n 1, 1) := by decide +kernel
theorem dX9_turn_76 : decode cX9_turn 76 = .ok (.iaload, 1) := by decide +kernel
theorem dX9_turn_77 : decode cX9_turn 77 = .ok (.imul, 1) := by decide +kernel
theorem dX9_turn_78 : decode cX9_turn 78 = .ok (.aload_n 0, 1) := by decide +kernel
theorem dX9_turn_79 : decode cX9_turn 79 = .ok (.getfield 10, 3) := by decide +kernel
theorem dX9_turn_82 : decode cX9_turn 82 = .ok (.getfield 127, 3) := by decide +kernel
theorem dX9_turn_85 : decode cX9_turn 85 = .ok (.iload_n 1, 1) := by decide +kernel
theorem dX9_turn_86 : decode cX9_turn 86 = .ok (.iaload, 1) := by decide +kernel
theorem dX9_turn_87 : decode cX9_turn 87 = .ok (.iadd, 1) := by decide +kernel
theorem dX9_turn_88 : decode cX9_turn 88 = .ok (.istore 4, 2) := by decide +kernel
theorem dX9_turn_90 : decode cX9_turn 90 = .ok (.aload_n 0, 1) := by decide +kernel
theorem dX9_turn_91 : decode cX9_turn 91 = .ok (.getfield 10, 3) := by decide +kernel
theorem dX9_turn_94 : decode cX9_turn 94 = .ok (.getfield 124, 3) := by decide +kernel
theorem dX9_turn_97 : decode cX9_turn 97 = .ok (.iload_n 1, 1) := by decide +kernel
theorem dX9_turn_98 : decode cX9_turn 98 = .ok (.iload_n 2, 1) := by decide +kernel
theorem dX9_turn_99 : decode cX9_turn 99 = .ok (.iastore, 1) := by decide +kernel
theorem dX9_turn_100 : decode cX9_turn 100 = .ok (.aload_n 0, 1) := by decide +kernel
theorem dX9_turn_101 : decode cX9_turn 101 = .ok (.getfield 10, 3) := by decide +kernel
theorem dX9_turn_104 : decode cX9_turn 104 = .ok (.getfield 127, 3) := by decide +kernel
theorem dX9_turn_107 : decode cX9_turn 107 = .ok (.iload_n 1, 1) := by decide +kernel
theorem dX9_turn_108 : decode cX9_turn 108 = .ok (.iload_n 3, 1) := by decide +kernel
theorem dX9_turn_109 : decode cX9_turn 109 = .ok (.iastore, 1) := by decide +kernel
theorem dX9_turn_110 : decode cX9_turn 110 = .ok (.iload 4, 2) := by decide +kernel
theorem dX9_turn_112 : decode cX9_turn 112 = .ok (.ireturn, 1) := by decide +kernel
theorem dX9_of_0 : decode cX9_of 0 = .ok (.aload_n 0, 1) := by decide +kernel
theorem dX9_of_1 : decode cX9_of 1 = .ok (.getfield 10, 3) := by decide +kernel
theorem dX9_of_4 : decode cX9_of 4 = .ok (.iload_n 1, 1) := by decide +kernel
theorem dX9_of_5 : decode cX9_of 5 = .ok (.invokevirtual 115, 3) := by decide +kernel
theorem dX9_of_8 : decode cX9_of 8 = .ok (.ifCond .ne 9, 3) := by decide +kernel
theorem dX9_of_11 : decode cX9_of 11 = .ok (.aload_n 0, 1) := by decide +kernel
theorem dX9_of_12 : decode cX9_of 12 = .ok (.iconst (-1), 1) := by decide +kernel
theorem dX9_of_13 : decode cX9_of 13 = .ok (.invokevirtual 77, 3) := by decide +kernel
theorem dX9_of_16 : decode cX9_of 16 = .ok (.ireturn, 1) := by decide +kernel
theorem dX9_of_17 : decode cX9_of 17 = .ok (.iload_n 2, 1) := by decide +kernel
theorem dX9_of_18 : decode cX9_of 18 = .ok (.tableswitch 110 0 6 #[42, 52, 62, 72, 82, 92, 101], 42) := by decide +kernel
theorem dX9_of_60 : decode cX9_of 60 = .ok (.aload_n 0, 1) := by decide +kernel
theorem dX9_of_61 : decode cX9_of 61 = .ok (.getfield 10, 3) := by decide +kernel
theorem dX9_of_64 : decode cX9_of 64 = .ok (.getfield 124, 3) := by decide +kernel
theorem dX9_of_67 : decode cX9_of 67 = .ok (.iload_n 1, 1) := by decide +kernel
theorem dX9_of_68 : decode cX9_of 68 = .ok (.iaload, 1) := by decide +kernel
theorem dX9_of_69 : decode cX9_of 69 = .ok (.ireturn, 1) := by decide +kernel
theorem dX9_of_70 : decode cX9_of 70 = .ok (.aload_n 0, 1) := by decide +kernel
theorem dX9_of_71 : decode cX9_of 71 = .ok (.getfield 10, 3) := by decide +kernel
theorem dX9_of_74 : decode cX9_of 74 = .ok (.getfield 127, 3) := by decide +kernel
theorem dX9_of_77 : decode cX9_of 77 = .ok (.iload_n 1, 1) := by decide +kernel
theorem dX9_of_78 : decode cX9_of 78 = .ok (.iaload, 1) := by decide +kernel
theorem dX9_of_79 : decode cX9_of 79 = .ok (.ireturn, 1) := by decide +kernel
theorem dX9_of_80 : decode cX9_of 80 = .ok (.aload_n 0, 1) := by decide +kernel
theorem dX9_of_81 : decode cX9_of 81 = .ok (.getfield 10, 3) := by decide +kernel
theorem dX9_of_84 : decode cX9_of 84 = .ok (.getfield 130, 3) := by decide +kernel
theorem dX9_of_87 : decode cX9_of 87 = .ok (.iload_n 1, 1) := by decide +kernel
theorem dX9_of_88 : decode cX9_of 88 = .ok (.iaload, 1) := by decide +kernel
theorem dX9_of_89 : decode cX9_of 89 = .ok (.ireturn, 1) := by decide +kernel
theorem dX9_of_90 : decode cX9_of 90 = .ok (.aload_n 0, 1) := by decide +kernel
theorem dX9_of_91 : decode cX9_of 91 = .ok (.getfield 10, 3) := by decide +kernel
theorem dX9_of_94 : decode cX9_of 94 = .ok (.getfield 133, 3) := by decide +kernel
theorem dX9_of_97 : decode cX9_of 97 = .ok (.iload_n 1, 1) := by decide +kernel
theorem dX9_of_98 : decode cX9_of 98 = .ok (.iaload, 1) := by decide +kernel
theorem dX9_of_99 : decode cX9_of 99 = .ok (.ireturn, 1) := by decide +kernel
theorem dX9_of_100 : decode cX9_of 100 = .ok (.aload_n 0, 1) := by decide +kernel
theorem dX9_of_101 : decode cX9_of 101 = .ok (.getfield 10, 3) := by decide +kernel
theorem dX9_of_104 : decode cX9_of 104 = .ok (.getfield 121, 3) := by decide +kernel
theorem dX9_of_107 : decode cX9_of 107 = .ok (.iload_n 1, 1) := by decide +kernel
theorem dX9_of_108 : decode cX9_of 108 = .ok (.iaload, 1) := by decide +kernel
theorem dX9_of_109 : decode cX9_of 109 = .ok (.ireturn, 1) := by decide +kernel
theorem dX9_of_110 : decode cX9_of 110 = .ok (.aload_n 0, 1) := by decide +kernel
theorem dX9_of_111 : decode cX9_of 111 = .ok (.getfield 10, 3) := by decide +kernel
theorem dX9_of_114 : decode cX9_of 114 = .ok (.iload_n 1, 1) := by decide +kernel
theorem dX9_of_115 : decode cX9_of 115 = .ok (.invokevirtual 136, 3) := by decide +kernel
theorem dX9_of_118 : decode cX9_of 118 = .ok (.ireturn, 1) := by decide +kernel
theorem dX9_of_119 : decode cX9_of 119 = .ok (.aload_n 0, 1) := by decide +kernel
theorem dX9_of_120 : decode cX9_of 120 = .ok (.getfield 10, 3) := by decide +kernel
theorem dX9_of_123 : decode cX9_of 123 = .ok (.iload_n 1, 1) := by decide +kernel
theorem dX9_of_124 : decode cX9_of 124 = .ok (.invokevirtual 139, 3) := by decide +kernel
theorem dX9_of_127 : decode cX9_of 127 = .ok (.ireturn, 1) := by decide +kernel
theorem dX9_of_128 : decode cX9_of 128 = .ok (.aload_n 0, 1) := by decide +kernel
theorem dX9_of_129 : decode cX9_of 129 = .ok (.bipush (-2), 2) := by decide +kernel
theorem dX9_of_131 : decode cX9_of 131 = .ok (.invokevirtual 77, 3) := by decide +kernel
theorem dX9_of_134 : decode cX9_of 134 = .ok (.ireturn, 1) := by decide +kernel
theorem dX9_taken_0 : decode cX9_taken 0 = .ok (.aload_n 0, 1) := by decide +kernel
theorem dX9_taken_1 : decode cX9_taken 1 = .ok (.getfield 10, 3) := by decide +kernel
theorem dX9_taken_4 : decode cX9_taken 4 = .ok (.iload_n 1, 1) := by decide +kernel
theorem dX9_taken_5 : decode cX9_taken 5 = .ok (.invokevirtual 115, 3) := by decide +kernel
theorem dX9_taken_8 : decode cX9_taken 8 = .ok (.ifCond .ne 9, 3) := by decide +kernel
theorem dX9_taken_11 : decode cX9_taken 11 = .ok (.aload_n 0, 1) := by decide +kernel
theorem dX9_taken_12 : decode cX9_taken 12 = .ok (.iconst (-1), 1) := by decide +kernel
theorem dX9_taken_13 : decode cX9_taken 13 = .ok (.invokevirtual 77, 3) := by decide +kernel
theorem dX9_taken_16 : decode cX9_taken 16 = .ok (.ireturn, 1) := by decide +kernel
theorem dX9_taken_17 : decode cX9_taken 17 = .ok (.iload_n 2, 1) := by decide +kernel
theorem dX9_taken_18 : decode cX9_taken 18 = .ok (.invokestatic 102, 3) := by decide +kernel
theorem dX9_taken_21 : decode cX9_taken 21 = .ok (.ifCond .ne 10, 3) := by decide +kernel
theorem dX9_taken_24 : decode cX9_taken 24 = .ok (.aload_n 0, 1) := by decide +kernel
theorem dX9_taken_25 : decode cX9_taken 25 = .ok (.bipush (-2), 2) := by decide +kernel
theorem dX9_taken_27 : decode cX9_taken 27 = .ok (.invokevirtual 77, 3) := by decide +kernel
theorem dX9_taken_30 : decode cX9_taken 30 = .ok (.ireturn, 1) := by decide +kernel
theorem dX9_taken_31 : decode cX9_taken 31 = .ok (.aload_n 0, 1) := by decide +kernel
theorem dX9_taken_32 : decode cX9_taken 32 = .ok (.getfield 10, 3) := by decide +kernel
theorem dX9_taken_35 : decode cX9_taken 35 = .ok (.getfield 124, 3) := by decide +kernel
theorem dX9_taken_38 : decode cX9_taken 38 = .ok (.iload_n 1, 1) := by decide +kernel
theorem dX9_taken_39 : decode cX9_taken 39 = .ok (.iaload, 1) := by decide +kernel
theorem dX9_taken_40 : decode cX9_taken 40 = .ok (.istore_n 3, 1) := by decide +kernel
theorem dX9_taken_41 : decode cX9_taken 41 = .ok (.iload_n 3, 1) := by decide +kernel
theorem dX9_taken_42 : decode cX9_taken 42 = .ok (.iload_n 2, 1) := by decide +kernel
theorem dX9_taken_43 : decode cX9_taken 43 = .ok (.invokestatic 142, 3) := by decide +kernel
theorem dX9_taken_46 : decode cX9_taken 46 = .ok (.ifCond .eq 7, 3) := by decide +kernel
theorem dX9_taken_49 : decode cX9_taken 49 = .ok (.iload_n 3, 1) := by decide +kernel
theorem dX9_taken_50 : decode cX9_taken 50 = .ok (.goto 5, 3) := by decide +kernel
theorem dX9_taken_53 : decode cX9_taken 53 = .ok (.bipush (-16), 2) := by decide +kernel
theorem dX9_taken_55 : decode cX9_taken 55 = .ok (.ireturn, 1) := by decide +kernel
theorem dX9_table_0 : decode cX9_table 0 = .ok (.aload_n 0, 1) := by decide +kernel
theorem dX9_table_1 : decode cX9_table 1 = .ok (.getfield 10, 3) := by decide +kernel
theorem dX9_table_4 : decode cX9_table 4 = .ok (.iload_n 1, 1) := by decide +kernel
theorem dX9_table_5 : decode cX9_table 5 = .ok (.invokevirtual 106, 3) := by decide +kernel
theorem dX9_table_8 : decode cX9_table 8 = .ok (.ifCond .eq 14, 3) := by decide +kernel
theorem dX9_table_11 : decode cX9_table 11 = .ok (.aload_n 0, 1) := by decide +kernel
theorem dX9_table_12 : decode cX9_table 12 = .ok (.getfield 10, 3) := by decide +kernel
theorem dX9_table_15 : decode cX9_table 15 = .ok (.iload_n 2, 1) := by decide +kernel
theorem dX9_table_16 : decode cX9_table 16 = .ok (.invokevirtual 115, 3) := by decide +kernel
theorem dX9_table_19 : decode cX9_table 19 = .ok (.ifCond .ne 9, 3) := by decide +kernel
theorem dX9_table_22 : decode cX9_table 22 = .ok (.aload_n 0, 1) := by decide +kernel
theorem dX9_table_23 : decode cX9_table 23 = .ok (.iconst (-1), 1) := by decide +kernel
theorem dX9_table_24 : decode cX9_table 24 = .ok (.invokevirtual 77, 3) := by decide +kernel
theorem dX9_table_27 : decode cX9_table 27 = .ok (.ireturn, 1) := by decide +kernel
theorem dX9_table_28 : decode cX9_table 28 = .ok (.aload_n 0, 1) := by decide +kernel
theorem dX9_table_29 : decode cX9_table 29 = .ok (.getfield 10, 3) := by decide +kernel
theorem dX9_table_32 : decode cX9_table 32 = .ok (.iload_n 1, 1) := by decide +kernel
theorem dX9_table_33 : decode cX9_table 33 = .ok (.iload_n 2, 1) := by decide +kernel
theorem dX9_table_34 : decode cX9_table 34 = .ok (.invokevirtual 148, 3) := by decide +kernel
theorem dX9_table_37 : decode cX9_table 37 = .ok (.ireturn, 1) := by decide +kernel
theorem dX9_sum_0 : decode cX9_sum 0 = .ok (.aload_n 0, 1) := by decide +kernel
theorem dX9_sum_1 : decode cX9_sum 1 = .ok (.getfield 10, 3) := by decide +kernel
theorem dX9_sum_4 : decode cX9_sum 4 = .ok (.iload_n 1, 1) := by decide +kernel
theorem dX9_sum_5 : decode cX9_sum 5 = .ok (.invokevirtual 106, 3) := by decide +kernel
theorem dX9_sum_8 : decode cX9_sum 8 = .ok (.ifCond .ne 9, 3) := by decide +kernel
theorem dX9_sum_11 : decode cX9_sum 11 = .ok (.aload_n 0, 1) := by decide +kernel
theorem dX9_sum_12 : decode cX9_sum 12 = .ok (.iconst (-1), 1) := by decide +kernel
theorem dX9_sum_13 : decode cX9_sum 13 = .ok (.invokevirtual 77, 3) := by decide +kernel
theorem dX9_sum_16 : decode cX9_sum 16 = .ok (.ireturn, 1) := by decide +kernel
theorem dX9_sum_17 : decode cX9_sum 17 = .ok (.aload_n 0, 1) := by decide +kernel
theorem dX9_sum_18 : decode cX9_sum 18 = .ok (.getfield 10, 3) := by decide +kernel
theorem dX9_sum_21 : decode cX9_sum 21 = .ok (.iload_n 1, 1) := by decide +kernel
theorem dX9_sum_22 : decode cX9_sum 22 = .ok (.invokevirtual 152, 3) := by decide +kernel
theorem dX9_sum_25 : decode cX9_sum 25 = .ok (.ireturn, 1) := by decide +kernel
theorem dX9_total_0 : decode cX9_total 0 = .ok (.aload_n 0, 1) := by decide +kernel
theorem dX9_total_1 : decode cX9_total 1 = .ok (.getfield 10, 3) := by decide +kernel
theorem dX9_total_4 : decode cX9_total 4 = .ok (.aload_n 0, 1) := by decide +kernel
theorem dX9_total_5 : decode cX9_total 5 = .ok (.getfield 71, 3) := by decide +kernel
theorem dX9_total_8 : decode cX9_total 8 = .ok (.invokevirtual 155, 3) := by decide +kernel
theorem dX9_total_11 : decode cX9_total 11 = .ok (.aload_n 0, 1) := by decide +kernel
theorem dX9_total_12 : decode cX9_total 12 = .ok (.getfield 71, 3) := by decide +kernel
theorem dX9_total_15 : decode cX9_total 15 = .ok (.aload_n 0, 1) := by decide +kernel
theorem dX9_total_16 : decode cX9_total 16 = .ok (.getfield 10, 3) := by decide +kernel
theorem dX9_total_19 : decode cX9_total 19 = .ok (.getfield 96, 3) := by decide +kernel
theorem dX9_total_22 : decode cX9_total 22 = .ok (.invokestatic 159, 3) := by decide +kernel
theorem dX9_total_25 : decode cX9_total 25 = .ok (.ireturn, 1) := by decide +kernel
theorem dX9_rule_0 : decode cX9_rule 0 = .ok (.iload_n 1, 1) := by decide +kernel
theorem dX9_rule_1 : decode cX9_rule 1 = .ok (.invokestatic 165, 3) := by decide +kernel
theorem dX9_rule_4 : decode cX9_rule 4 = .ok (.ifCond .ne 10, 3) := by decide +kernel
theorem dX9_rule_7 : decode cX9_rule 7 = .ok (.aload_n 0, 1) := by decide +kernel
theorem dX9_rule_8 : decode cX9_rule 8 = .ok (.bipush (-2), 2) := by decide +kernel
theorem dX9_rule_10 : decode cX9_rule 10 = .ok (.invokevirtual 77, 3) := by decide +kernel
theorem dX9_rule_13 : decode cX9_rule 13 = .ok (.ireturn, 1) := by decide +kernel
theorem dX9_rule_14 : decode cX9_rule 14 = .ok (.aload_n 0, 1) := by decide +kernel
theorem dX9_rule_15 : decode cX9_rule 15 = .ok (.getfield 10, 3) := by decide +kernel
theorem dX9_rule_18 : decode cX9_rule 18 = .ok (.aload_n 0, 1) := by decide +kernel
theorem dX9_rule_19 : decode cX9_rule 19 = .ok (.getfield 71, 3) := by decide +kernel
theorem dX9_rule_22 : decode cX9_rule 22 = .ok (.invokevirtual 155, 3) := by decide +kernel
theorem dX9_rule_25 : decode cX9_rule 25 = .ok (.iload_n 1, 1) := by decide +kernel
theorem dX9_rule_26 : decode cX9_rule 26 = .ok (.aload_n 0, 1) := by decide +kernel
theorem dX9_rule_27 : decode cX9_rule 27 = .ok (.getfield 71, 3) := by decide +kernel
theorem dX9_rule_30 : decode cX9_rule 30 = .ok (.aload_n 0, 1) := by decide +kernel
theorem dX9_rule_31 : decode cX9_rule 31 = .ok (.getfield 10, 3) := by decide +kernel
theorem dX9_rule_34 : decode cX9_rule 34 = .ok (.getfield 96, 3) := by decide +kernel
theorem dX9_rule_37 : decode cX9_rule 37 = .ok (.invokestatic 168, 3) := by decide +kernel
theorem dX9_rule_40 : decode cX9_rule 40 = .ok (.ifCond .eq 7, 3) := by decide +kernel
theorem dX9_rule_43 : decode cX9_rule 43 = .ok (.iconst 1, 1) := by decide +kernel
theorem dX9_rule_44 : decode cX9_rule 44 = .ok (.goto 4, 3) := by decide +kernel
theorem dX9_rule_47 : decode cX9_rule 47 = .ok (.iconst 0, 1) := by decide +kernel
theorem dX9_rule_48 : decode cX9_rule 48 = .ok (.ireturn, 1) := by decide +kernel
theorem dX9_ranked_0 : decode cX9_ranked 0 = .ok (.iload_n 1, 1) := by decide +kernel
theorem dX9_ranked_1 : decode cX9_ranked 1 = .ok (.ifCond .ge 10, 3) := by decide +kernel
theorem dX9_ranked_4 : decode cX9_ranked 4 = .ok (.aload_n 0, 1) := by decide +kernel
theorem dX9_ranked_5 : decode cX9_ranked 5 = .ok (.bipush (-4), 2) := by decide +kernel
theorem dX9_ranked_7 : decode cX9_ranked 7 = .ok (.invokevirtual 77, 3) := by decide +kernel
theorem dX9_ranked_10 : decode cX9_ranked 10 = .ok (.ireturn, 1) := by decide +kernel
theorem dX9_ranked_11 : decode cX9_ranked 11 = .ok (.aload_n 0, 1) := by decide +kernel
theorem dX9_ranked_12 : decode cX9_ranked 12 = .ok (.getfield 10, 3) := by decide +kernel
theorem dX9_ranked_15 : decode cX9_ranked 15 = .ok (.aload_n 0, 1) := by decide +kernel
theorem dX9_ranked_16 : decode cX9_ranked 16 = .ok (.getfield 71, 3) := by decide +kernel
theorem dX9_ranked_19 : decode cX9_ranked 19 = .ok (.invokevirtual 155, 3) := by decide +kernel
theorem dX9_ranked_22 : decode cX9_ranked 22 = .ok (.iconst 0, 1) := by decide +kernel
theorem dX9_ranked_23 : decode cX9_ranked 23 = .ok (.istore_n 2, 1) := by decide +kernel
theorem dX9_ranked_24 : decode cX9_ranked 24 = .ok (.iload_n 2, 1) := by decide +kernel
theorem dX9_ranked_25 : decode cX9_ranked 25 = .ok (.aload_n 0, 1) := by decide +kernel
theorem dX9_ranked_26 : decode cX9_ranked 26 = .ok (.getfield 10, 3) := by decide +kernel
theorem dX9_ranked_29 : decode cX9_ranked 29 = .ok (.getfield 96, 3) := by decide +kernel
theorem dX9_ranked_32 : decode cX9_ranked 32 = .ok (.if_icmp .ge 30, 3) := by decide +kernel
theorem dX9_ranked_35 : decode cX9_ranked 35 = .ok (.iload_n 2, 1) := by decide +kernel
theorem dX9_ranked_36 : decode cX9_ranked 36 = .ok (.aload_n 0, 1) := by decide +kernel
theorem dX9_ranked_37 : decode cX9_ranked 37 = .ok (.getfield 71, 3) := by decide +kernel
theorem dX9_ranked_40 : decode cX9_ranked 40 = .ok (.aload_n 0, 1) := by decide +kernel
theorem dX9_ranked_41 : decode cX9_ranked 41 = .ok (.getfield 10, 3) := by decide +kernel
theorem dX9_ranked_44 : decode cX9_ranked 44 = .ok (.getfield 96, 3) := by decide +kernel
theorem dX9_ranked_47 : decode cX9_ranked 47 = .ok (.invokestatic 172, 3) := by decide +kernel
theorem dX9_ranked_50 : decode cX9_ranked 50 = .ok (.iload_n 1, 1) := by decide +kernel
theorem dX9_ranked_51 : decode cX9_ranked 51 = .ok (.if_icmp .ne 5, 3) := by decide +kernel
theorem dX9_ranked_54 : decode cX9_ranked 54 = .ok (.iload_n 2, 1) := by decide +kernel
theorem dX9_ranked_55 : decode cX9_ranked 55 = .ok (.ireturn, 1) := by decide +kernel
theorem dX9_ranked_56 : decode cX9_ranked 56 = .ok (.iinc 2 1, 3) := by decide +kernel
theorem dX9_ranked_59 : decode cX9_ranked 59 = .ok (.goto (-35), 3) := by decide +kernel
theorem dX9_ranked_62 : decode cX9_ranked 62 = .ok (.bipush (-9), 2) := by decide +kernel
theorem dX9_ranked_64 : decode cX9_ranked 64 = .ok (.ireturn, 1) := by decide +kernel
theorem dX9_ways_0 : decode cX9_ways 0 = .ok (.iload_n 1, 1) := by decide +kernel
theorem dX9_ways_1 : decode cX9_ways 1 = .ok (.invokestatic 165, 3) := by decide +kernel
theorem dX9_ways_4 : decode cX9_ways 4 = .ok (.ifCond .ne 10, 3) := by decide +kernel
theorem dX9_ways_7 : decode cX9_ways 7 = .ok (.aload_n 0, 1) := by decide +kernel
theorem dX9_ways_8 : decode cX9_ways 8 = .ok (.bipush (-2), 2) := by decide +kernel
theorem dX9_ways_10 : decode cX9_ways 10 = .ok (.invokevirtual 77, 3) := by decide +kernel
theorem dX9_ways_13 : decode cX9_ways 13 = .ok (.ireturn, 1) := by decide +kernel
theorem dX9_ways_14 : decode cX9_ways 14 = .ok (.iload_n 2, 1) := by decide +kernel
theorem dX9_ways_15 : decode cX9_ways 15 = .ok (.ifCond .lt 8, 3) := by decide +kernel
theorem dX9_ways_18 : decode cX9_ways 18 = .ok (.iload_n 3, 1) := by decide +kernel
theorem dX9_ways_19 : decode cX9_ways 19 = .ok (.iconst (-1), 1) := by decide +kernel
theorem dX9_ways_20 : decode cX9_ways 20 = .ok (.if_icmp .ge 10, 3) := by decide +kernel
theorem dX9_ways_23 : decode cX9_ways 23 = .ok (.aload_n 0, 1) := by decide +kernel
theorem dX9_ways_24 : decode cX9_ways 24 = .ok (.bipush (-4), 2) := by decide +kernel
theorem dX9_ways_26 : decode cX9_ways 26 = .ok (.invokevirtual 77, 3) := by decide +kernel
theorem dX9_ways_29 : decode cX9_ways 29 = .ok (.ireturn, 1) := by decide +kernel
theorem dX9_ways_30 : decode cX9_ways 30 = .ok (.iload_n 2, 1) := by decide +kernel
theorem dX9_ways_31 : decode cX9_ways 31 = .ok (.iconst 3, 1) := by decide +kernel
theorem dX9_ways_32 : decode cX9_ways 32 = .ok (.if_icmp .le 10, 3) := by decide +kernel
theorem dX9_ways_35 : decode cX9_ways 35 = .ok (.aload_n 0, 1) := by decide +kernel
theorem dX9_ways_36 : decode cX9_ways 36 = .ok (.bipush (-6), 2) := by decide +kernel
theorem dX9_ways_38 : decode cX9_ways 38 = .ok (.invokevirtual 77, 3) := by decide +kernel
theorem dX9_ways_41 : decode cX9_ways 41 = .ok (.ireturn, 1) := by decide +kernel
theorem dX9_ways_42 : decode cX9_ways 42 = .ok (.iload_n 3, 1) := by decide +kernel
theorem dX9_ways_43 : decode cX9_ways 43 = .ok (.iconst (-1), 1) := by decide +kernel
theorem dX9_ways_44 : decode cX9_ways 44 = .ok (.if_icmp .eq 21, 3) := by decide +kernel
theorem dX9_ways_47 : decode cX9_ways 47 = .ok (.aload_n 0, 1) := by decide +kernel
theorem dX9_ways_48 : decode cX9_ways 48 = .ok (.getfield 10, 3) := by decide +kernel
theorem dX9_ways_51 : decode cX9_ways 51 = .ok (.iload 4, 2) := by decide +kernel
theorem dX9_ways_53 : decode cX9_ways 53 = .ok (.invokevirtual 115, 3) := by decide +kernel
theorem dX9_ways_56 : decode cX9_ways 56 = .ok (.ifCond .ne 9, 3) := by decide +kernel
theorem dX9_ways_59 : decode cX9_ways 59 = .ok (.aload_n 0, 1) := by decide +kernel
theorem dX9_ways_60 : decode cX9_ways 60 = .ok (.iconst (-1), 1) := by decide +kernel
theorem dX9_ways_61 : decode cX9_ways 61 = .ok (.invokevirtual 77, 3) := by decide +kernel
theorem dX9_ways_64 : decode cX9_ways 64 = .ok (.ireturn, 1) := by decide +kernel
theorem dX9_ways_65 : decode cX9_ways 65 = .ok (.aload_n 0, 1) := by decide +kernel
theorem dX9_ways_66 : decode cX9_ways 66 = .ok (.aload_n 0, 1) := by decide +kernel
theorem dX9_ways_67 : decode cX9_ways 67 = .ok (.getfield 35, 3) := by decide +kernel
theorem dX9_ways_70 : decode cX9_ways 70 = .ok (.iload_n 1, 1) := by decide +kernel
theorem dX9_ways_71 : decode cX9_ways 71 = .ok (.iload_n 2, 1) := by decide +kernel
theorem dX9_ways_72 : decode cX9_ways 72 = .ok (.iload_n 3, 1) := by decide +kernel
theorem dX9_ways_73 : decode cX9_ways 73 = .ok (.invokevirtual 176, 3) := by decide +kernel
theorem dX9_ways_76 : decode cX9_ways 76 = .ok (.iload_n 3, 1) := by decide +kernel
theorem dX9_ways_77 : decode cX9_ways 77 = .ok (.iload 4, 2) := by decide +kernel
theorem dX9_ways_79 : decode cX9_ways 79 = .ok (.invokevirtual 180, 3) := by decide +kernel
theorem dX9_ways_82 : decode cX9_ways 82 = .ok (.ireturn, 1) := by decide +kernel
theorem dX9_magic_0 : decode cX9_magic 0 = .ok (.iload_n 1, 1) := by decide +kernel
theorem dX9_magic_1 : decode cX9_magic 1 = .ok (.ifCond .lt 8, 3) := by decide +kernel
theorem dX9_magic_4 : decode cX9_magic 4 = .ok (.iload_n 2, 1) := by decide +kernel
theorem dX9_magic_5 : decode cX9_magic 5 = .ok (.iconst (-1), 1) := by decide +kernel
theorem dX9_magic_6 : decode cX9_magic 6 = .ok (.if_icmp .ge 10, 3) := by decide +kernel
theorem dX9_magic_9 : decode cX9_magic 9 = .ok (.aload_n 0, 1) := by decide +kernel
theorem dX9_magic_10 : decode cX9_magic 10 = .ok (.bipush (-4), 2) := by decide +kernel
theorem dX9_magic_12 : decode cX9_magic 12 = .ok (.invokevirtual 77, 3) := by decide +kernel
theorem dX9_magic_15 : decode cX9_magic 15 = .ok (.ireturn, 1) := by decide +kernel
theorem dX9_magic_16 : decode cX9_magic 16 = .ok (.iload_n 1, 1) := by decide +kernel
theorem dX9_magic_17 : decode cX9_magic 17 = .ok (.bipush 6, 2) := by decide +kernel
theorem dX9_magic_19 : decode cX9_magic 19 = .ok (.if_icmp .le 10, 3) := by decide +kernel
theorem dX9_magic_22 : decode cX9_magic 22 = .ok (.aload_n 0, 1) := by decide +kernel
theorem dX9_magic_23 : decode cX9_magic 23 = .ok (.bipush (-6), 2) := by decide +kernel
theorem dX9_magic_25 : decode cX9_magic 25 = .ok (.invokevirtual 77, 3) := by decide +kernel
theorem dX9_magic_28 : decode cX9_magic 28 = .ok (.ireturn, 1) := by decide +kernel
theorem dX9_magic_29 : decode cX9_magic 29 = .ok (.iload_n 2, 1) := by decide +kernel
theorem dX9_magic_30 : decode cX9_magic 30 = .ok (.iconst (-1), 1) := by decide +kernel
theorem dX9_magic_31 : decode cX9_magic 31 = .ok (.if_icmp .eq 20, 3) := by decide +kernel
theorem dX9_magic_34 : decode cX9_magic 34 = .ok (.aload_n 0, 1) := by decide +kernel
theorem dX9_magic_35 : decode cX9_magic 35 = .ok (.getfield 10, 3) := by decide +kernel
theorem dX9_magic_38 : decode cX9_magic 38 = .ok (.iload_n 3, 1) := by decide +kernel
theorem dX9_magic_39 : decode cX9_magic 39 = .ok (.invokevirtual 115, 3) := by decide +kernel
theorem dX9_magic_42 : decode cX9_magic 42 = .ok (.ifCond .ne 9, 3) := by decide +kernel
theorem dX9_magic_45 : decode cX9_magic 45 = .ok (.aload_n 0, 1) := by decide +kernel
theorem dX9_magic_46 : decode cX9_magic 46 = .ok (.iconst (-1), 1) := by decide +kernel
theorem dX9_magic_47 : decode cX9_magic 47 = .ok (.invokevirtual 77, 3) := by decide +kernel
theorem dX9_magic_50 : decode cX9_magic 50 = .ok (.ireturn, 1) := by decide +kernel
theorem dX9_magic_51 : decode cX9_magic 51 = .ok (.aload_n 0, 1) := by decide +kernel
theorem dX9_magic_52 : decode cX9_magic 52 = .ok (.aload_n 0, 1) := by decide +kernel
theorem dX9_magic_53 : decode cX9_magic 53 = .ok (.getfield 35, 3) := by decide +kernel
theorem dX9_magic_56 : decode cX9_magic 56 = .ok (.iload_n 1, 1) := by decide +kernel
theorem dX9_magic_57 : decode cX9_magic 57 = .ok (.iload_n 2, 1) := by decide +kernel
theorem dX9_magic_58 : decode cX9_magic 58 = .ok (.invokevirtual 183, 3) := by decide +kernel
theorem dX9_magic_61 : decode cX9_magic 61 = .ok (.iload_n 2, 1) := by decide +kernel
theorem dX9_magic_62 : decode cX9_magic 62 = .ok (.iload_n 3, 1) := by decide +kernel
theorem dX9_magic_63 : decode cX9_magic 63 = .ok (.invokevirtual 180, 3) := by decide +kernel
theorem dX9_magic_66 : decode cX9_magic 66 = .ok (.ireturn, 1) := by decide +kernel
theorem dX9_difference_0 : decode cX9_difference 0 = .ok (.iload_n 1, 1) := by decide +kernel
theorem dX9_difference_1 : decode cX9_difference 1 = .ok (.ifCond .lt 7, 3) := by decide +kernel
theorem dX9_difference_4 : decode cX9_difference 4 = .ok (.iload_n 2, 1) := by decide +kernel
theorem dX9_difference_5 : decode cX9_difference 5 = .ok (.ifCond .ge 13, 3) := by decide +kernel
theorem dX9_difference_8 : decode cX9_difference 8 = .ok (.ldc 186, 2) := by decide +kernel
theorem dX9_difference_10 : decode cX9_difference 10 = .ok (.aload_n 0, 1) := by decide +kernel
theorem dX9_difference_11 : decode cX9_difference 11 = .ok (.bipush (-4), 2) := by decide +kernel
theorem dX9_difference_13 : decode cX9_difference 13 = .ok (.invokevirtual 77, 3) := by decide +kernel
theorem dX9_difference_16 : decode cX9_difference 16 = .ok (.isub, 1) := by decide +kernel
theorem dX9_difference_17 : decode cX9_difference 17 = .ok (.ireturn, 1) := by decide +kernel
theorem dX9_difference_18 : decode cX9_difference 18 = .ok (.iload_n 1, 1) := by decide +kernel
theorem dX9_difference_19 : decode cX9_difference 19 = .ok (.bipush 6, 2) := by decide +kernel
theorem dX9_difference_21 : decode cX9_difference 21 = .ok (.if_icmp .gt 11, 3) := by decide +kernel
theorem dX9_difference_24 : decode cX9_difference 24 = .ok (.iload_n 2, 1) := by decide +kernel
theorem dX9_difference_25 : decode cX9_difference 25 = .ok (.bipush 6, 2) := by decide +kernel
theorem dX9_difference_27 : decode cX9_difference 27 = .ok (.iload_n 1, 1) := by decide +kernel
theorem dX9_difference_28 : decode cX9_difference 28 = .ok (.isub, 1) := by decide +kernel
theorem dX9_difference_29 : decode cX9_difference 29 = .ok (.if_icmp .le 13, 3) := by decide +kernel
theorem dX9_difference_32 : decode cX9_difference 32 = .ok (.ldc 186, 2) := by decide +kernel
theorem dX9_difference_34 : decode cX9_difference 34 = .ok (.aload_n 0, 1) := by decide +kernel
theorem dX9_difference_35 : decode cX9_difference 35 = .ok (.bipush (-6), 2) := by decide +kernel
theorem dX9_difference_37 : decode cX9_difference 37 = .ok (.invokevirtual 77, 3) := by decide +kernel
theorem dX9_difference_40 : decode cX9_difference 40 = .ok (.isub, 1) := by decide +kernel
theorem dX9_difference_41 : decode cX9_difference 41 = .ok (.ireturn, 1) := by decide +kernel
theorem dX9_difference_42 : decode cX9_difference 42 = .ok (.aload_n 0, 1) := by decide +kernel
theorem dX9_difference_43 : decode cX9_difference 43 = .ok (.iload_n 2, 1) := by decide +kernel
theorem dX9_difference_44 : decode cX9_difference 44 = .ok (.iload_n 2, 1) := by decide +kernel
theorem dX9_difference_45 : decode cX9_difference 45 = .ok (.iload_n 1, 1) := by decide +kernel
theorem dX9_difference_46 : decode cX9_difference 46 = .ok (.iadd, 1) := by decide +kernel
theorem dX9_difference_47 : decode cX9_difference 47 = .ok (.invokevirtual 187, 3) := by decide +kernel
theorem dX9_difference_50 : decode cX9_difference 50 = .ok (.iconst 0, 1) := by decide +kernel
theorem dX9_difference_51 : decode cX9_difference 51 = .ok (.istore_n 3, 1) := by decide +kernel
theorem dX9_difference_52 : decode cX9_difference 52 = .ok (.iload_n 3, 1) := by decide +kernel
theorem dX9_difference_53 : decode cX9_difference 53 = .ok (.iload_n 1, 1) := by decide +kernel
theorem dX9_difference_54 : decode cX9_difference 54 = .ok (.if_icmp .ge 19, 3) := by decide +kernel
theorem dX9_difference_57 : decode cX9_difference 57 = .ok (.aload_n 0, 1) := by decide +kernel
theorem dX9_difference_58 : decode cX9_difference 58 = .ok (.iload_n 2, 1) := by decide +kernel
theorem dX9_difference_59 : decode cX9_difference 59 = .ok (.iload_n 2, 1) := by decide +kernel
theorem dX9_difference_60 : decode cX9_difference 60 = .ok (.iload_n 1, 1) := by decide +kernel
theorem dX9_difference_61 : decode cX9_difference 61 = .ok (.iadd, 1) := by decide +kernel
theorem dX9_difference_62 : decode cX9_difference 62 = .ok (.iload_n 3, 1) := by decide +kernel
theorem dX9_difference_63 : decode cX9_difference 63 = .ok (.isub, 1) := by decide +kernel
theorem dX9_difference_64 : decode cX9_difference 64 = .ok (.invokevirtual 191, 3) := by decide +kernel
theorem dX9_difference_67 : decode cX9_difference 67 = .ok (.iinc 3 1, 3) := by decide +kernel
theorem dX9_difference_70 : decode cX9_difference 70 = .ok (.goto (-18), 3) := by decide +kernel
theorem dX9_difference_73 : decode cX9_difference 73 = .ok (.aload_n 0, 1) := by decide +kernel
theorem dX9_difference_74 : decode cX9_difference 74 = .ok (.getfield 74, 3) := by decide +kernel
theorem dX9_difference_77 : decode cX9_difference 77 = .ok (.iload_n 2, 1) := by decide +kernel
theorem dX9_difference_78 : decode cX9_difference 78 = .ok (.iaload, 1) := by decide +kernel
theorem dX9_difference_79 : decode cX9_difference 79 = .ok (.ireturn, 1) := by decide +kernel
theorem dX9_settled_0 : decode cX9_settled 0 = .ok (.aload_n 0, 1) := by decide +kernel
theorem dX9_settled_1 : decode cX9_settled 1 = .ok (.iconst 0, 1) := by decide +kernel
theorem dX9_settled_2 : decode cX9_settled 2 = .ok (.bipush 6, 2) := by decide +kernel
theorem dX9_settled_4 : decode cX9_settled 4 = .ok (.invokevirtual 187, 3) := by decide +kernel
theorem dX9_settled_7 : decode cX9_settled 7 = .ok (.iconst 0, 1) := by decide +kernel
theorem dX9_settled_8 : decode cX9_settled 8 = .ok (.istore_n 1, 1) := by decide +kernel
theorem dX9_settled_9 : decode cX9_settled 9 = .ok (.iload_n 1, 1) := by decide +kernel
theorem dX9_settled_10 : decode cX9_settled 10 = .ok (.bipush 6, 2) := by decide +kernel
theorem dX9_settled_12 : decode cX9_settled 12 = .ok (.if_icmp .ge 35, 3) := by decide +kernel
theorem dX9_settled_15 : decode cX9_settled 15 = .ok (.iconst 0, 1) := by decide +kernel
theorem dX9_settled_16 : decode cX9_settled 16 = .ok (.aload_n 0, 1) := by decide +kernel
theorem dX9_settled_17 : decode cX9_settled 17 = .ok (.getfield 74, 3) := by decide +kernel
theorem dX9_settled_20 : decode cX9_settled 20 = .ok (.bipush 7, 2) := by decide +kernel
theorem dX9_settled_22 : decode cX9_settled 22 = .ok (.iload_n 1, 1) := by decide +kernel
theorem dX9_settled_23 : decode cX9_settled 23 = .ok (.isub, 1) := by decide +kernel
theorem dX9_settled_24 : decode cX9_settled 24 = .ok (.invokestatic 168, 3) := by decide +kernel
theorem dX9_settled_27 : decode cX9_settled 27 = .ok (.ifCond .eq 5, 3) := by decide +kernel
theorem dX9_settled_30 : decode cX9_settled 30 = .ok (.iload_n 1, 1) := by decide +kernel
theorem dX9_settled_31 : decode cX9_settled 31 = .ok (.ireturn, 1) := by decide +kernel
theorem dX9_settled_32 : decode cX9_settled 32 = .ok (.aload_n 0, 1) := by decide +kernel
theorem dX9_settled_33 : decode cX9_settled 33 = .ok (.iconst 0, 1) := by decide +kernel
theorem dX9_settled_34 : decode cX9_settled 34 = .ok (.bipush 6, 2) := by decide +kernel
theorem dX9_settled_36 : decode cX9_settled 36 = .ok (.iload_n 1, 1) := by decide +kernel
theorem dX9_settled_37 : decode cX9_settled 37 = .ok (.isub, 1) := by decide +kernel
theorem dX9_settled_38 : decode cX9_settled 38 = .ok (.invokevirtual 191, 3) := by decide +kernel
theorem dX9_settled_41 : decode cX9_settled 41 = .ok (.iinc 1 1, 3) := by decide +kernel
theorem dX9_settled_44 : decode cX9_settled 44 = .ok (.goto (-35), 3) := by decide +kernel
theorem dX9_settled_47 : decode cX9_settled 47 = .ok (.bipush 6, 2) := by decide +kernel
theorem dX9_settled_49 : decode cX9_settled 49 = .ok (.ireturn, 1) := by decide +kernel
theorem dX9_orders_0 : decode cX9_orders 0 = .ok (.iload_n 1, 1) := by decide +kernel
theorem dX9_orders_1 : decode cX9_orders 1 = .ok (.iconst (-1), 1) := by decide +kernel
theorem dX9_orders_2 : decode cX9_orders 2 = .ok (.if_icmp .ge 10, 3) := by decide +kernel
theorem dX9_orders_5 : decode cX9_orders 5 = .ok (.aload_n 0, 1) := by decide +kernel
theorem dX9_orders_6 : decode cX9_orders 6 = .ok (.bipush (-4), 2) := by decide +kernel
theorem dX9_orders_8 : decode cX9_orders 8 = .ok (.invokevirtual 77, 3) := by decide +kernel
theorem dX9_orders_11 : decode cX9_orders 11 = .ok (.ireturn, 1) := by decide +kernel
theorem dX9_orders_12 : decode cX9_orders 12 = .ok (.iload_n 1, 1) := by decide +kernel
theorem dX9_orders_13 : decode cX9_orders 13 = .ok (.iconst (-1), 1) := by decide +kernel
theorem dX9_orders_14 : decode cX9_orders 14 = .ok (.if_icmp .eq 20, 3) := by decide +kernel
theorem dX9_orders_17 : decode cX9_orders 17 = .ok (.aload_n 0, 1) := by decide +kernel
theorem dX9_orders_18 : decode cX9_orders 18 = .ok (.getfield 10, 3) := by decide +kernel
theorem dX9_orders_21 : decode cX9_orders 21 = .ok (.iload_n 2, 1) := by decide +kernel
theorem dX9_orders_22 : decode cX9_orders 22 = .ok (.invokevirtual 115, 3) := by decide +kernel
theorem dX9_orders_25 : decode cX9_orders 25 = .ok (.ifCond .ne 9, 3) := by decide +kernel
theorem dX9_orders_28 : decode cX9_orders 28 = .ok (.aload_n 0, 1) := by decide +kernel
theorem dX9_orders_29 : decode cX9_orders 29 = .ok (.iconst (-1), 1) := by decide +kernel
theorem dX9_orders_30 : decode cX9_orders 30 = .ok (.invokevirtual 77, 3) := by decide +kernel
theorem dX9_orders_33 : decode cX9_orders 33 = .ok (.ireturn, 1) := by decide +kernel
theorem dX9_orders_34 : decode cX9_orders 34 = .ok (.aload_n 0, 1) := by decide +kernel
theorem dX9_orders_35 : decode cX9_orders 35 = .ok (.aload_n 0, 1) := by decide +kernel
theorem dX9_orders_36 : decode cX9_orders 36 = .ok (.getfield 35, 3) := by decide +kernel
theorem dX9_orders_39 : decode cX9_orders 39 = .ok (.iload_n 1, 1) := by decide +kernel
theorem dX9_orders_40 : decode cX9_orders 40 = .ok (.invokevirtual 194, 3) := by decide +kernel
theorem dX9_orders_43 : decode cX9_orders 43 = .ok (.iload_n 1, 1) := by decide +kernel
theorem dX9_orders_44 : decode cX9_orders 44 = .ok (.iload_n 2, 1) := by decide +kernel
theorem dX9_orders_45 : decode cX9_orders 45 = .ok (.invokevirtual 180, 3) := by decide +kernel
theorem dX9_orders_48 : decode cX9_orders 48 = .ok (.ireturn, 1) := by decide +kernel
theorem dX9_spread_0 : decode cX9_spread 0 = .ok (.aload_n 0, 1) := by decide +kernel
theorem dX9_spread_1 : decode cX9_spread 1 = .ok (.getfield 35, 3) := by decide +kernel
theorem dX9_spread_4 : decode cX9_spread 4 = .ok (.invokevirtual 197, 3) := by decide +kernel
theorem dX9_spread_7 : decode cX9_spread 7 = .ok (.ireturn, 1) := by decide +kernel
theorem dX9_odds_0 : decode cX9_odds 0 = .ok (.iload_n 1, 1) := by decide +kernel
theorem dX9_odds_1 : decode cX9_odds 1 = .ok (.invokestatic 165, 3) := by decide +kernel
theorem dX9_odds_4 : decode cX9_odds 4 = .ok (.ifCond .ne 15, 3) := by decide +kernel
theorem dX9_odds_7 : decode cX9_odds 7 = .ok (.ldc2_w 201, 3) := by decide +kernel
theorem dX9_odds_10 : decode cX9_odds 10 = .ok (.aload_n 0, 1) := by decide +kernel
theorem dX9_odds_11 : decode cX9_odds 11 = .ok (.bipush (-2), 2) := by decide +kernel
theorem dX9_odds_13 : decode cX9_odds 13 = .ok (.invokevirtual 77, 3) := by decide +kernel
theorem dX9_odds_16 : decode cX9_odds 16 = .ok (.i2l, 1) := by decide +kernel
theorem dX9_odds_17 : decode cX9_odds 17 = .ok (.lsub, 1) := by decide +kernel
theorem dX9_odds_18 : decode cX9_odds 18 = .ok (.lreturn, 1) := by decide +kernel
theorem dX9_odds_19 : decode cX9_odds 19 = .ok (.iload_n 2, 1) := by decide +kernel
theorem dX9_odds_20 : decode cX9_odds 20 = .ok (.ifCond .ge 15, 3) := by decide +kernel
theorem dX9_odds_23 : decode cX9_odds 23 = .ok (.ldc2_w 201, 3) := by decide +kernel
theorem dX9_odds_26 : decode cX9_odds 26 = .ok (.aload_n 0, 1) := by decide +kernel
theorem dX9_odds_27 : decode cX9_odds 27 = .ok (.bipush (-4), 2) := by decide +kernel
theorem dX9_odds_29 : decode cX9_odds 29 = .ok (.invokevirtual 77, 3) := by decide +kernel
theorem dX9_odds_32 : decode cX9_odds 32 = .ok (.i2l, 1) := by decide +kernel
theorem dX9_odds_33 : decode cX9_odds 33 = .ok (.lsub, 1) := by decide +kernel
theorem dX9_odds_34 : decode cX9_odds 34 = .ok (.lreturn, 1) := by decide +kernel
theorem dX9_odds_35 : decode cX9_odds 35 = .ok (.iload_n 2, 1) := by decide +kernel
theorem dX9_odds_36 : decode cX9_odds 36 = .ok (.iconst 3, 1) := by decide +kernel
theorem dX9_odds_37 : decode cX9_odds 37 = .ok (.if_icmp .le 15, 3) := by decide +kernel
theorem dX9_odds_40 : decode cX9_odds 40 = .ok (.ldc2_w 201, 3) := by decide +kernel
theorem dX9_odds_43 : decode cX9_odds 43 = .ok (.aload_n 0, 1) := by decide +kernel
theorem dX9_odds_44 : decode cX9_odds 44 = .ok (.bipush (-6), 2) := by decide +kernel
theorem dX9_odds_46 : decode cX9_odds 46 = .ok (.invokevirtual 77, 3) := by decide +kernel
theorem dX9_odds_49 : decode cX9_odds 49 = .ok (.i2l, 1) := by decide +kernel
theorem dX9_odds_50 : decode cX9_odds 50 = .ok (.lsub, 1) := by decide +kernel
theorem dX9_odds_51 : decode cX9_odds 51 = .ok (.lreturn, 1) := by decide +kernel
theorem dX9_odds_52 : decode cX9_odds 52 = .ok (.iload_n 3, 1) := by decide +kernel
theorem dX9_odds_53 : decode cX9_odds 53 = .ok (.ifCond .eq 20, 3) := by decide +kernel
theorem dX9_odds_56 : decode cX9_odds 56 = .ok (.iload_n 3, 1) := by decide +kernel
theorem dX9_odds_57 : decode cX9_odds 57 = .ok (.iconst 1, 1) := by decide +kernel
theorem dX9_odds_58 : decode cX9_odds 58 = .ok (.if_icmp .eq 15, 3) := by decide +kernel
theorem dX9_odds_61 : decode cX9_odds 61 = .ok (.ldc2_w 201, 3) := by decide +kernel
theorem dX9_odds_64 : decode cX9_odds 64 = .ok (.aload_n 0, 1) := by decide +kernel
theorem dX9_odds_65 : decode cX9_odds 65 = .ok (.bipush (-2), 2) := by decide +kernel
theorem dX9_odds_67 : decode cX9_odds 67 = .ok (.invokevirtual 77, 3) := by decide +kernel
theorem dX9_odds_70 : decode cX9_odds 70 = .ok (.i2l, 1) := by decide +kernel
theorem dX9_odds_71 : decode cX9_odds 71 = .ok (.lsub, 1) := by decide +kernel
theorem dX9_odds_72 : decode cX9_odds 72 = .ok (.lreturn, 1) := by decide +kernel
theorem dX9_odds_73 : decode cX9_odds 73 = .ok (.aload_n 0, 1) := by decide +kernel
theorem dX9_odds_74 : decode cX9_odds 74 = .ok (.getfield 35, 3) := by decide +kernel
theorem dX9_odds_77 : decode cX9_odds 77 = .ok (.iload_n 1, 1) := by decide +kernel
theorem dX9_odds_78 : decode cX9_odds 78 = .ok (.iload_n 2, 1) := by decide +kernel
theorem dX9_odds_79 : decode cX9_odds 79 = .ok (.iconst (-1), 1) := by decide +kernel
theorem dX9_odds_80 : decode cX9_odds 80 = .ok (.invokevirtual 176, 3) := by decide +kernel
theorem dX9_odds_83 : decode cX9_odds 83 = .ok (.istore 4, 2) := by decide +kernel
theorem dX9_odds_85 : decode cX9_odds 85 = .ok (.iload_n 2, 1) := by decide +kernel
theorem dX9_odds_86 : decode cX9_odds 86 = .ok (.iconst 1, 1) := by decide +kernel
theorem dX9_odds_87 : decode cX9_odds 87 = .ok (.iadd, 1) := by decide +kernel
theorem dX9_odds_88 : decode cX9_odds 88 = .ok (.aload_n 0, 1) := by decide +kernel
theorem dX9_odds_89 : decode cX9_odds 89 = .ok (.getfield 10, 3) := by decide +kernel
theorem dX9_odds_92 : decode cX9_odds 92 = .ok (.getfield 109, 3) := by decide +kernel
theorem dX9_odds_95 : decode cX9_odds 95 = .ok (.invokestatic 203, 3) := by decide +kernel
theorem dX9_odds_98 : decode cX9_odds 98 = .ok (.istore 5, 2) := by decide +kernel
theorem dX9_odds_100 : decode cX9_odds 100 = .ok (.iload_n 3, 1) := by decide +kernel
theorem dX9_odds_101 : decode cX9_odds 101 = .ok (.ifCond .ne 8, 3) := by decide +kernel
theorem dX9_odds_104 : decode cX9_odds 104 = .ok (.iload 4, 2) := by decide +kernel
theorem dX9_odds_106 : decode cX9_odds 106 = .ok (.goto 5, 3) := by decide +kernel
theorem dX9_odds_109 : decode cX9_odds 109 = .ok (.iload 5, 2) := by decide +kernel
theorem dX9_odds_111 : decode cX9_odds 111 = .ok (.iload 4, 2) := by decide +kernel
theorem dX9_odds_113 : decode cX9_odds 113 = .ok (.iload 5, 2) := by decide +kernel
theorem dX9_odds_115 : decode cX9_odds 115 = .ok (.invokestatic 206, 3) := by decide +kernel
theorem dX9_odds_118 : decode cX9_odds 118 = .ok (.idiv, 1) := by decide +kernel
theorem dX9_odds_119 : decode cX9_odds 119 = .ok (.i2l, 1) := by decide +kernel
theorem dX9_odds_120 : decode cX9_odds 120 = .ok (.lreturn, 1) := by decide +kernel
theorem dX9_lots_0 : decode cX9_lots 0 = .ok (.iload_n 1, 1) := by decide +kernel
theorem dX9_lots_1 : decode cX9_lots 1 = .ok (.invokestatic 165, 3) := by decide +kernel
theorem dX9_lots_4 : decode cX9_lots 4 = .ok (.ifCond .ne 10, 3) := by decide +kernel
theorem dX9_lots_7 : decode cX9_lots 7 = .ok (.aload_n 0, 1) := by decide +kernel
theorem dX9_lots_8 : decode cX9_lots 8 = .ok (.bipush (-2), 2) := by decide +kernel
theorem dX9_lots_10 : decode cX9_lots 10 = .ok (.invokevirtual 77, 3) := by decide +kernel
theorem dX9_lots_13 : decode cX9_lots 13 = .ok (.ireturn, 1) := by decide +kernel
theorem dX9_lots_14 : decode cX9_lots 14 = .ok (.iload_n 2, 1) := by decide +kernel
theorem dX9_lots_15 : decode cX9_lots 15 = .ok (.iconst 1, 1) := by decide +kernel
theorem dX9_lots_16 : decode cX9_lots 16 = .ok (.if_icmp .ge 10, 3) := by decide +kernel
theorem dX9_lots_19 : decode cX9_lots 19 = .ok (.aload_n 0, 1) := by decide +kernel
theorem dX9_lots_20 : decode cX9_lots 20 = .ok (.bipush (-4), 2) := by decide +kernel
theorem dX9_lots_22 : decode cX9_lots 22 = .ok (.invokevirtual 77, 3) := by decide +kernel
theorem dX9_lots_25 : decode cX9_lots 25 = .ok (.ireturn, 1) := by decide +kernel
theorem dX9_lots_26 : decode cX9_lots 26 = .ok (.iload_n 2, 1) := by decide +kernel
theorem dX9_lots_27 : decode cX9_lots 27 = .ok (.bipush 50, 2) := by decide +kernel
theorem dX9_lots_29 : decode cX9_lots 29 = .ok (.if_icmp .le 10, 3) := by decide +kernel
theorem dX9_lots_32 : decode cX9_lots 32 = .ok (.aload_n 0, 1) := by decide +kernel
theorem dX9_lots_33 : decode cX9_lots 33 = .ok (.bipush (-6), 2) := by decide +kernel
theorem dX9_lots_35 : decode cX9_lots 35 = .ok (.invokevirtual 77, 3) := by decide +kernel
theorem dX9_lots_38 : decode cX9_lots 38 = .ok (.ireturn, 1) := by decide +kernel
theorem dX9_lots_39 : decode cX9_lots 39 = .ok (.iload 4, 2) := by decide +kernel
theorem dX9_lots_41 : decode cX9_lots 41 = .ok (.ifCond .eq 16, 3) := by decide +kernel
theorem dX9_lots_44 : decode cX9_lots 44 = .ok (.iload 4, 2) := by decide +kernel
theorem dX9_lots_46 : decode cX9_lots 46 = .ok (.iconst 1, 1) := by decide +kernel
theorem dX9_lots_47 : decode cX9_lots 47 = .ok (.if_icmp .eq 10, 3) := by decide +kernel
theorem dX9_lots_50 : decode cX9_lots 50 = .ok (.aload_n 0, 1) := by decide +kernel
theorem dX9_lots_51 : decode cX9_lots 51 = .ok (.bipush (-2), 2) := by decide +kernel
theorem dX9_lots_53 : decode cX9_lots 53 = .ok (.invokevirtual 77, 3) := by decide +kernel
theorem dX9_lots_56 : decode cX9_lots 56 = .ok (.ireturn, 1) := by decide +kernel
theorem dX9_lots_57 : decode cX9_lots 57 = .ok (.iload 4, 2) := by decide +kernel
theorem dX9_lots_59 : decode cX9_lots 59 = .ok (.ifCond .ne 16, 3) := by decide +kernel
theorem dX9_lots_62 : decode cX9_lots 62 = .ok (.aload_n 0, 1) := by decide +kernel
theorem dX9_lots_63 : decode cX9_lots 63 = .ok (.getfield 35, 3) := by decide +kernel
theorem dX9_lots_66 : decode cX9_lots 66 = .ok (.iload_n 1, 1) := by decide +kernel
theorem dX9_lots_67 : decode cX9_lots 67 = .ok (.iload_n 2, 1) := by decide +kernel
theorem dX9_lots_68 : decode cX9_lots 68 = .ok (.iload_n 3, 1) := by decide +kernel
theorem dX9_lots_69 : decode cX9_lots 69 = .ok (.invokevirtual 209, 3) := by decide +kernel
theorem dX9_lots_72 : decode cX9_lots 72 = .ok (.goto 12, 3) := by decide +kernel
theorem dX9_lots_75 : decode cX9_lots 75 = .ok (.aload_n 0, 1) := by decide +kernel
theorem dX9_lots_76 : decode cX9_lots 76 = .ok (.getfield 35, 3) := by decide +kernel
theorem dX9_lots_79 : decode cX9_lots 79 = .ok (.iload_n 2, 1) := by decide +kernel
theorem dX9_lots_80 : decode cX9_lots 80 = .ok (.iload_n 3, 1) := by decide +kernel
theorem dX9_lots_81 : decode cX9_lots 81 = .ok (.invokevirtual 212, 3) := by decide +kernel
theorem dX9_lots_84 : decode cX9_lots 84 = .ok (.ireturn, 1) := by decide +kernel
theorem dX9_rank_0 : decode cX9_rank 0 = .ok (.iload_n 1, 1) := by decide +kernel
theorem dX9_rank_1 : decode cX9_rank 1 = .ok (.ifCond .eq 15, 3) := by decide +kernel
theorem dX9_rank_4 : decode cX9_rank 4 = .ok (.iload_n 1, 1) := by decide +kernel
theorem dX9_rank_5 : decode cX9_rank 5 = .ok (.iconst 1, 1) := by decide +kernel
theorem dX9_rank_6 : decode cX9_rank 6 = .ok (.if_icmp .eq 10, 3) := by decide +kernel
theorem dX9_rank_9 : decode cX9_rank 9 = .ok (.aload_n 0, 1) := by decide +kernel
theorem dX9_rank_10 : decode cX9_rank 10 = .ok (.bipush (-2), 2) := by decide +kernel
theorem dX9_rank_12 : decode cX9_rank 12 = .ok (.invokevirtual 77, 3) := by decide +kernel
theorem dX9_rank_15 : decode cX9_rank 15 = .ok (.ireturn, 1) := by decide +kernel
theorem dX9_rank_16 : decode cX9_rank 16 = .ok (.aload_n 0, 1) := by decide +kernel
theorem dX9_rank_17 : decode cX9_rank 17 = .ok (.getfield 42, 3) := by decide +kernel
theorem dX9_rank_20 : decode cX9_rank 20 = .ok (.invokevirtual 215, 3) := by decide +kernel
theorem dX9_rank_23 : decode cX9_rank 23 = .ok (.istore_n 2, 1) := by decide +kernel
theorem dX9_rank_24 : decode cX9_rank 24 = .ok (.iload_n 1, 1) := by decide +kernel
theorem dX9_rank_25 : decode cX9_rank 25 = .ok (.ifCond .ne 7, 3) := by decide +kernel
theorem dX9_rank_28 : decode cX9_rank 28 = .ok (.iload_n 2, 1) := by decide +kernel
theorem dX9_rank_29 : decode cX9_rank 29 = .ok (.goto 12, 3) := by decide +kernel
theorem dX9_rank_32 : decode cX9_rank 32 = .ok (.aload_n 0, 1) := by decide +kernel
theorem dX9_rank_33 : decode cX9_rank 33 = .ok (.getfield 10, 3) := by decide +kernel
theorem dX9_rank_36 : decode cX9_rank 36 = .ok (.getfield 109, 3) := by decide +kernel
theorem dX9_rank_39 : decode cX9_rank 39 = .ok (.iload_n 2, 1) := by decide +kernel
theorem dX9_rank_40 : decode cX9_rank 40 = .ok (.isub, 1) := by decide +kernel
theorem dX9_rank_41 : decode cX9_rank 41 = .ok (.ireturn, 1) := by decide +kernel
theorem dX9_parts_0 : decode cX9_parts 0 = .ok (.iload_n 1, 1) := by decide +kernel
theorem dX9_parts_1 : decode cX9_parts 1 = .ok (.iconst (-1), 1) := by decide +kernel
theorem dX9_parts_2 : decode cX9_parts 2 = .ok (.if_icmp .ne 11, 3) := by decide +kernel
theorem dX9_parts_5 : decode cX9_parts 5 = .ok (.aload_n 0, 1) := by decide +kernel
theorem dX9_parts_6 : decode cX9_parts 6 = .ok (.getfield 42, 3) := by decide +kernel
theorem dX9_parts_9 : decode cX9_parts 9 = .ok (.invokevirtual 218, 3) := by decide +kernel
theorem dX9_parts_12 : decode cX9_parts 12 = .ok (.ireturn, 1) := by decide +kernel
theorem dX9_parts_13 : decode cX9_parts 13 = .ok (.aload_n 0, 1) := by decide +kernel
theorem dX9_parts_14 : decode cX9_parts 14 = .ok (.getfield 10, 3) := by decide +kernel
theorem dX9_parts_17 : decode cX9_parts 17 = .ok (.iload_n 1, 1) := by decide +kernel
theorem dX9_parts_18 : decode cX9_parts 18 = .ok (.invokevirtual 106, 3) := by decide +kernel
theorem dX9_parts_21 : decode cX9_parts 21 = .ok (.ifCond .ne 9, 3) := by decide +kernel
theorem dX9_parts_24 : decode cX9_parts 24 = .ok (.aload_n 0, 1) := by decide +kernel
theorem dX9_parts_25 : decode cX9_parts 25 = .ok (.iconst (-1), 1) := by decide +kernel
theorem dX9_parts_26 : decode cX9_parts 26 = .ok (.invokevirtual 77, 3) := by decide +kernel
theorem dX9_parts_29 : decode cX9_parts 29 = .ok (.ireturn, 1) := by decide +kernel
theorem dX9_parts_30 : decode cX9_parts 30 = .ok (.aload_n 0, 1) := by decide +kernel
theorem dX9_parts_31 : decode cX9_parts 31 = .ok (.getfield 42, 3) := by decide +kernel
theorem dX9_parts_34 : decode cX9_parts 34 = .ok (.iload_n 1, 1) := by decide +kernel
theorem dX9_parts_35 : decode cX9_parts 35 = .ok (.invokevirtual 221, 3) := by decide +kernel
theorem dX9_parts_38 : decode cX9_parts 38 = .ok (.ireturn, 1) := by decide +kernel
theorem dX9_sides_0 : decode cX9_sides 0 = .ok (.iload_n 1, 1) := by decide +kernel
theorem dX9_sides_1 : decode cX9_sides 1 = .ok (.iconst (-1), 1) := by decide +kernel
theorem dX9_sides_2 : decode cX9_sides 2 = .ok (.if_icmp .ne 19, 3) := by decide +kernel
theorem dX9_sides_5 : decode cX9_sides 5 = .ok (.aload_n 0, 1) := by decide +kernel
theorem dX9_sides_6 : decode cX9_sides 6 = .ok (.getfield 42, 3) := by decide +kernel
theorem dX9_sides_9 : decode cX9_sides 9 = .ok (.invokevirtual 224, 3) := by decide +kernel
theorem dX9_sides_12 : decode cX9_sides 12 = .ok (.ifCond .eq 7, 3) := by decide +kernel
theorem dX9_sides_15 : decode cX9_sides 15 = .ok (.iconst 1, 1) := by decide +kernel
theorem dX9_sides_16 : decode cX9_sides 16 = .ok (.goto 4, 3) := by decide +kernel
theorem dX9_sides_19 : decode cX9_sides 19 = .ok (.iconst 0, 1) := by decide +kernel
theorem dX9_sides_20 : decode cX9_sides 20 = .ok (.ireturn, 1) := by decide +kernel
theorem dX9_sides_21 : decode cX9_sides 21 = .ok (.aload_n 0, 1) := by decide +kernel
theorem dX9_sides_22 : decode cX9_sides 22 = .ok (.getfield 10, 3) := by decide +kernel
theorem dX9_sides_25 : decode cX9_sides 25 = .ok (.iload_n 1, 1) := by decide +kernel
theorem dX9_sides_26 : decode cX9_sides 26 = .ok (.invokevirtual 106, 3) := by decide +kernel
theorem dX9_sides_29 : decode cX9_sides 29 = .ok (.ifCond .ne 9, 3) := by decide +kernel
theorem dX9_sides_32 : decode cX9_sides 32 = .ok (.aload_n 0, 1) := by decide +kernel
theorem dX9_sides_33 : decode cX9_sides 33 = .ok (.iconst (-1), 1) := by decide +kernel
theorem dX9_sides_34 : decode cX9_sides 34 = .ok (.invokevirtual 77, 3) := by decide +kernel
theorem dX9_sides_37 : decode cX9_sides 37 = .ok (.ireturn, 1) := by decide +kernel
theorem dX9_sides_38 : decode cX9_sides 38 = .ok (.aload_n 0, 1) := by decide +kernel
theorem dX9_sides_39 : decode cX9_sides 39 = .ok (.getfield 42, 3) := by decide +kernel
theorem dX9_sides_42 : decode cX9_sides 42 = .ok (.invokevirtual 224, 3) := by decide +kernel
theorem dX9_sides_45 : decode cX9_sides 45 = .ok (.ifCond .eq 14, 3) := by decide +kernel
theorem dX9_sides_48 : decode cX9_sides 48 = .ok (.aload_n 0, 1) := by decide +kernel
theorem dX9_sides_49 : decode cX9_sides 49 = .ok (.getfield 42, 3) := by decide +kernel
theorem dX9_sides_52 : decode cX9_sides 52 = .ok (.iload_n 1, 1) := by decide +kernel
theorem dX9_sides_53 : decode cX9_sides 53 = .ok (.invokevirtual 228, 3) := by decide +kernel
theorem dX9_sides_56 : decode cX9_sides 56 = .ok (.goto 5, 3) := by decide +kernel
theorem dX9_sides_59 : decode cX9_sides 59 = .ok (.bipush (-9), 2) := by decide +kernel
theorem dX9_sides_61 : decode cX9_sides 61 = .ok (.ireturn, 1) := by decide +kernel
theorem dX9_written_0 : decode cX9_written 0 = .ok (.iload_n 1, 1) := by decide +kernel
theorem dX9_written_1 : decode cX9_written 1 = .ok (.iconst (-1), 1) := by decide +kernel
theorem dX9_written_2 : decode cX9_written 2 = .ok (.if_icmp .ge 10, 3) := by decide +kernel
theorem dX9_written_5 : decode cX9_written 5 = .ok (.aload_n 0, 1) := by decide +kernel
theorem dX9_written_6 : decode cX9_written 6 = .ok (.bipush (-4), 2) := by decide +kernel
theorem dX9_written_8 : decode cX9_written 8 = .ok (.invokevirtual 77, 3) := by decide +kernel
theorem dX9_written_11 : decode cX9_written 11 = .ok (.ireturn, 1) := by decide +kernel
theorem dX9_written_12 : decode cX9_written 12 = .ok (.aload_n 0, 1) := by decide +kernel
theorem dX9_written_13 : decode cX9_written 13 = .ok (.getfield 56, 3) := by decide +kernel
theorem dX9_written_16 : decode cX9_written 16 = .ok (.aload_n 0, 1) := by decide +kernel
theorem dX9_written_17 : decode cX9_written 17 = .ok (.getfield 10, 3) := by decide +kernel
theorem dX9_written_20 : decode cX9_written 20 = .ok (.invokevirtual 231, 3) := by decide +kernel
theorem dX9_written_23 : decode cX9_written 23 = .ok (.iload_n 1, 1) := by decide +kernel
theorem dX9_written_24 : decode cX9_written 24 = .ok (.iconst (-1), 1) := by decide +kernel
theorem dX9_written_25 : decode cX9_written 25 = .ok (.if_icmp .ne 11, 3) := by decide +kernel
theorem dX9_written_28 : decode cX9_written 28 = .ok (.aload_n 0, 1) := by decide +kernel
theorem dX9_written_29 : decode cX9_written 29 = .ok (.getfield 56, 3) := by decide +kernel
theorem dX9_written_32 : decode cX9_written 32 = .ok (.getfield 234, 3) := by decide +kernel
theorem dX9_written_35 : decode cX9_written 35 = .ok (.ireturn, 1) := by decide +kernel
theorem dX9_written_36 : decode cX9_written 36 = .ok (.iload_n 1, 1) := by decide +kernel
theorem dX9_written_37 : decode cX9_written 37 = .ok (.aload_n 0, 1) := by decide +kernel
theorem dX9_written_38 : decode cX9_written 38 = .ok (.getfield 56, 3) := by decide +kernel
theorem dX9_written_41 : decode cX9_written 41 = .ok (.getfield 234, 3) := by decide +kernel
theorem dX9_written_44 : decode cX9_written 44 = .ok (.if_icmp .ge 15, 3) := by decide +kernel
theorem dX9_written_47 : decode cX9_written 47 = .ok (.aload_n 0, 1) := by decide +kernel
theorem dX9_written_48 : decode cX9_written 48 = .ok (.getfield 56, 3) := by decide +kernel
theorem dX9_written_51 : decode cX9_written 51 = .ok (.getfield 235, 3) := by decide +kernel
theorem dX9_written_54 : decode cX9_written 54 = .ok (.iload_n 1, 1) := by decide +kernel
theorem dX9_written_55 : decode cX9_written 55 = .ok (.iaload, 1) := by decide +kernel
theorem dX9_written_56 : decode cX9_written 56 = .ok (.goto 5, 3) := by decide +kernel
theorem dX9_written_59 : decode cX9_written 59 = .ok (.bipush (-9), 2) := by decide +kernel
theorem dX9_written_61 : decode cX9_written 61 = .ok (.ireturn, 1) := by decide +kernel
theorem dX9_list_0 : decode cX9_list 0 = .ok (.iload_n 1, 1) := by decide +kernel
theorem dX9_list_1 : decode cX9_list 1 = .ok (.invokestatic 238, 3) := by decide +kernel
theorem dX9_list_4 : decode cX9_list 4 = .ok (.ifCond .ne 9, 3) := by decide +kernel
theorem dX9_list_7 : decode cX9_list 7 = .ok (.aload_n 0, 1) := by decide +kernel
theorem dX9_list_8 : decode cX9_list 8 = .ok (.iconst (-1), 1) := by decide +kernel
theorem dX9_list_9 : decode cX9_list 9 = .ok (.invokevirtual 77, 3) := by decide +kernel
theorem dX9_list_12 : decode cX9_list 12 = .ok (.ireturn, 1) := by decide +kernel
theorem dX9_list_13 : decode cX9_list 13 = .ok (.iload_n 2, 1) := by decide +kernel
theorem dX9_list_14 : decode cX9_list 14 = .ok (.bipush 40, 2) := by decide +kernel
theorem dX9_list_16 : decode cX9_list 16 = .ok (.if_icmp .le 10, 3) := by decide +kernel
theorem dX9_list_19 : decode cX9_list 19 = .ok (.aload_n 0, 1) := by decide +kernel
theorem dX9_list_20 : decode cX9_list 20 = .ok (.bipush (-6), 2) := by decide +kernel
theorem dX9_list_22 : decode cX9_list 22 = .ok (.invokevirtual 77, 3) := by decide +kernel
theorem dX9_list_25 : decode cX9_list 25 = .ok (.ireturn, 1) := by decide +kernel
theorem dX9_list_26 : decode cX9_list 26 = .ok (.iload_n 2, 1) := by decide +kernel
theorem dX9_list_27 : decode cX9_list 27 = .ok (.ifCond .ge 6, 3) := by decide +kernel
theorem dX9_list_30 : decode cX9_list 30 = .ok (.bipush (-14), 2) := by decide +kernel
theorem dX9_list_32 : decode cX9_list 32 = .ok (.ireturn, 1) := by decide +kernel
theorem dX9_list_33 : decode cX9_list 33 = .ok (.aload_n 0, 1) := by decide +kernel
theorem dX9_list_34 : decode cX9_list 34 = .ok (.getfield 63, 3) := by decide +kernel
theorem dX9_list_37 : decode cX9_list 37 = .ok (.iload_n 1, 1) := by decide +kernel
theorem dX9_list_38 : decode cX9_list 38 = .ok (.iload_n 2, 1) := by decide +kernel
theorem dX9_list_39 : decode cX9_list 39 = .ok (.invokevirtual 241, 3) := by decide +kernel
theorem dX9_list_42 : decode cX9_list 42 = .ok (.iconst 1, 1) := by decide +kernel
theorem dX9_list_43 : decode cX9_list 43 = .ok (.ireturn, 1) := by decide +kernel
theorem dX9_put_0 : decode cX9_put 0 = .ok (.aload_n 0, 1) := by decide +kernel
theorem dX9_put_1 : decode cX9_put 1 = .ok (.iload_n 1, 1) := by decide +kernel
theorem dX9_put_2 : decode cX9_put 2 = .ok (.iload_n 2, 1) := by decide +kernel
theorem dX9_put_3 : decode cX9_put 3 = .ok (.invokevirtual 244, 3) := by decide +kernel
theorem dX9_put_6 : decode cX9_put 6 = .ok (.istore 4, 2) := by decide +kernel
theorem dX9_put_8 : decode cX9_put 8 = .ok (.iload 4, 2) := by decide +kernel
theorem dX9_put_10 : decode cX9_put 10 = .ok (.ifCond .eq 6, 3) := by decide +kernel
theorem dX9_put_13 : decode cX9_put 13 = .ok (.iload 4, 2) := by decide +kernel
theorem dX9_put_15 : decode cX9_put 15 = .ok (.ireturn, 1) := by decide +kernel
theorem dX9_put_16 : decode cX9_put 16 = .ok (.aload_n 0, 1) := by decide +kernel
theorem dX9_put_17 : decode cX9_put 17 = .ok (.getfield 63, 3) := by decide +kernel
theorem dX9_put_20 : decode cX9_put 20 = .ok (.getfield 247, 3) := by decide +kernel
theorem dX9_put_23 : decode cX9_put 23 = .ok (.iload_n 1, 1) := by decide +kernel
theorem dX9_put_24 : decode cX9_put 24 = .ok (.aaload, 1) := by decide +kernel
theorem dX9_put_25 : decode cX9_put 25 = .ok (.iload_n 2, 1) := by decide +kernel
theorem dX9_put_26 : decode cX9_put 26 = .ok (.iload_n 3, 1) := by decide +kernel
theorem dX9_put_27 : decode cX9_put 27 = .ok (.iastore, 1) := by decide +kernel
theorem dX9_put_28 : decode cX9_put 28 = .ok (.iconst 1, 1) := by decide +kernel
theorem dX9_put_29 : decode cX9_put 29 = .ok (.ireturn, 1) := by decide +kernel
theorem dX9_look_0 : decode cX9_look 0 = .ok (.aload_n 0, 1) := by decide +kernel
theorem dX9_look_1 : decode cX9_look 1 = .ok (.iload_n 1, 1) := by decide +kernel
theorem dX9_look_2 : decode cX9_look 2 = .ok (.iload_n 2, 1) := by decide +kernel
theorem dX9_look_3 : decode cX9_look 3 = .ok (.invokevirtual 244, 3) := by decide +kernel
theorem dX9_look_6 : decode cX9_look 6 = .ok (.istore_n 3, 1) := by decide +kernel
theorem dX9_look_7 : decode cX9_look 7 = .ok (.iload_n 3, 1) := by decide +kernel
theorem dX9_look_8 : decode cX9_look 8 = .ok (.ifCond .eq 10, 3) := by decide +kernel
theorem dX9_look_11 : decode cX9_look 11 = .ok (.ldc2_w 201, 3) := by decide +kernel
theorem dX9_look_14 : decode cX9_look 14 = .ok (.iload_n 3, 1) := by decide +kernel
theorem dX9_look_15 : decode cX9_look 15 = .ok (.i2l, 1) := by decide +kernel
theorem dX9_look_16 : decode cX9_look 16 = .ok (.lsub, 1) := by decide +kernel
theorem dX9_look_17 : decode cX9_look 17 = .ok (.lreturn, 1) := by decide +kernel
theorem dX9_look_18 : decode cX9_look 18 = .ok (.aload_n 0, 1) := by decide +kernel
theorem dX9_look_19 : decode cX9_look 19 = .ok (.getfield 63, 3) := by decide +kernel
theorem dX9_look_22 : decode cX9_look 22 = .ok (.getfield 247, 3) := by decide +kernel
theorem dX9_look_25 : decode cX9_look 25 = .ok (.iload_n 1, 1) := by decide +kernel
theorem dX9_look_26 : decode cX9_look 26 = .ok (.aaload, 1) := by decide +kernel
theorem dX9_look_27 : decode cX9_look 27 = .ok (.iload_n 2, 1) := by decide +kernel
theorem dX9_look_28 : decode cX9_look 28 = .ok (.iaload, 1) := by decide +kernel
theorem dX9_look_29 : decode cX9_look 29 = .ok (.i2l, 1) := by decide +kernel
theorem dX9_look_30 : decode cX9_look 30 = .ok (.lreturn, 1) := by decide +kernel
theorem dX9_lays_0 : decode cX9_lays 0 = .ok (.aload_n 0, 1) := by decide +kernel
theorem dX9_lays_1 : decode cX9_lays 1 = .ok (.iload_n 1, 1) := by decide +kernel
theorem dX9_lays_2 : decode cX9_lays 2 = .ok (.invokevirtual 251, 3) := by decide +kernel
theorem dX9_lays_5 : decode cX9_lays 5 = .ok (.istore_n 3, 1) := by decide +kernel
theorem dX9_lays_6 : decode cX9_lays 6 = .ok (.iload_n 3, 1) := by decide +kernel
theorem dX9_lays_7 : decode cX9_lays 7 = .ok (.ifCond .eq 5, 3) := by decide +kernel
theorem dX9_lays_10 : decode cX9_lays 10 = .ok (.iload_n 3, 1) := by decide +kernel
theorem dX9_lays_11 : decode cX9_lays 11 = .ok (.ireturn, 1) := by decide +kernel
theorem dX9_lays_12 : decode cX9_lays 12 = .ok (.iload_n 2, 1) := by decide +kernel
theorem dX9_lays_13 : decode cX9_lays 13 = .ok (.ifCond .lt 24, 3) := by decide +kernel
theorem dX9_lays_16 : decode cX9_lays 16 = .ok (.iload_n 2, 1) := by decide +kernel
theorem dX9_lays_17 : decode cX9_lays 17 = .ok (.aload_n 0, 1) := by decide +kernel
theorem dX9_lays_18 : decode cX9_lays 18 = .ok (.getfield 63, 3) := by decide +kernel
theorem dX9_lays_21 : decode cX9_lays 21 = .ok (.getfield 254, 3) := by decide +kernel
theorem dX9_lays_24 : decode cX9_lays 24 = .ok (.iload_n 1, 1) := by decide +kernel
theorem dX9_lays_25 : decode cX9_lays 25 = .ok (.iaload, 1) := by decide +kernel
theorem dX9_lays_26 : decode cX9_lays 26 = .ok (.aload_n 0, 1) := by decide +kernel
theorem dX9_lays_27 : decode cX9_lays 27 = .ok (.getfield 10, 3) := by decide +kernel
theorem dX9_lays_30 : decode cX9_lays 30 = .ok (.getfield 96, 3) := by decide +kernel
theorem dX9_lays_33 : decode cX9_lays 33 = .ok (.isub, 1) := by decide +kernel
theorem dX9_lays_34 : decode cX9_lays 34 = .ok (.if_icmp .le 6, 3) := by decide +kernel
theorem dX9_lays_37 : decode cX9_lays 37 = .ok (.bipush (-13), 2) := by decide +kernel
theorem dX9_lays_39 : decode cX9_lays 39 = .ok (.ireturn, 1) := by decide +kernel
theorem dX9_lays_40 : decode cX9_lays 40 = .ok (.aload_n 0, 1) := by decide +kernel
theorem dX9_lays_41 : decode cX9_lays 41 = .ok (.getfield 10, 3) := by decide +kernel
theorem dX9_lays_44 : decode cX9_lays 44 = .ok (.aload_n 0, 1) := by decide +kernel
theorem dX9_lays_45 : decode cX9_lays 45 = .ok (.getfield 71, 3) := by decide +kernel
theorem dX9_lays_48 : decode cX9_lays 48 = .ok (.invokevirtual 155, 3) := by decide +kernel
theorem dX9_lays_51 : decode cX9_lays 51 = .ok (.aload_n 0, 1) := by decide +kernel
theorem dX9_lays_52 : decode cX9_lays 52 = .ok (.getfield 71, 3) := by decide +kernel
theorem dX9_lays_55 : decode cX9_lays 55 = .ok (.iconst 0, 1) := by decide +kernel
theorem dX9_lays_56 : decode cX9_lays 56 = .ok (.aload_n 0, 1) := by decide +kernel
theorem dX9_lays_57 : decode cX9_lays 57 = .ok (.getfield 63, 3) := by decide +kernel
theorem dX9_lays_60 : decode cX9_lays 60 = .ok (.getfield 247, 3) := by decide +kernel
theorem dX9_lays_63 : decode cX9_lays 63 = .ok (.iload_n 1, 1) := by decide +kernel
theorem dX9_lays_64 : decode cX9_lays 64 = .ok (.aaload, 1) := by decide +kernel
theorem dX9_lays_65 : decode cX9_lays 65 = .ok (.iload_n 2, 1) := by decide +kernel
theorem dX9_lays_66 : decode cX9_lays 66 = .ok (.aload_n 0, 1) := by decide +kernel
theorem dX9_lays_67 : decode cX9_lays 67 = .ok (.getfield 10, 3) := by decide +kernel
theorem dX9_lays_70 : decode cX9_lays 70 = .ok (.getfield 96, 3) := by decide +kernel
theorem dX9_lays_73 : decode cX9_lays 73 = .ok (.invokestatic 257, 3) := by decide +kernel
theorem dX9_lays_76 : decode cX9_lays 76 = .ok (.aload_n 0, 1) := by decide +kernel
theorem dX9_lays_77 : decode cX9_lays 77 = .ok (.getfield 10, 3) := by decide +kernel
theorem dX9_lays_80 : decode cX9_lays 80 = .ok (.getfield 96, 3) := by decide +kernel
theorem dX9_lays_83 : decode cX9_lays 83 = .ok (.ireturn, 1) := by decide +kernel
theorem dX9_judge_0 : decode cX9_judge 0 = .ok (.aload_n 0, 1) := by decide +kernel
theorem dX9_judge_1 : decode cX9_judge 1 = .ok (.iload_n 1, 1) := by decide +kernel
theorem dX9_judge_2 : decode cX9_judge 2 = .ok (.invokevirtual 251, 3) := by decide +kernel
theorem dX9_judge_5 : decode cX9_judge 5 = .ok (.istore_n 2, 1) := by decide +kernel
theorem dX9_judge_6 : decode cX9_judge 6 = .ok (.iload_n 2, 1) := by decide +kernel
theorem dX9_judge_7 : decode cX9_judge 7 = .ok (.ifCond .eq 5, 3) := by decide +kernel
theorem dX9_judge_10 : decode cX9_judge 10 = .ok (.iload_n 2, 1) := by decide +kernel
theorem dX9_judge_11 : decode cX9_judge 11 = .ok (.ireturn, 1) := by decide +kernel
theorem dX9_judge_12 : decode cX9_judge 12 = .ok (.aload_n 0, 1) := by decide +kernel
theorem dX9_judge_13 : decode cX9_judge 13 = .ok (.getfield 10, 3) := by decide +kernel
theorem dX9_judge_16 : decode cX9_judge 16 = .ok (.aload_n 0, 1) := by decide +kernel
theorem dX9_judge_17 : decode cX9_judge 17 = .ok (.getfield 71, 3) := by decide +kernel
theorem dX9_judge_20 : decode cX9_judge 20 = .ok (.invokevirtual 155, 3) := by decide +kernel
theorem dX9_judge_23 : decode cX9_judge 23 = .ok (.iconst 0, 1) := by decide +kernel
theorem dX9_judge_24 : decode cX9_judge 24 = .ok (.istore_n 3, 1) := by decide +kernel
theorem dX9_judge_25 : decode cX9_judge 25 = .ok (.iload_n 3, 1) := by decide +kernel
theorem dX9_judge_26 : decode cX9_judge 26 = .ok (.aload_n 0, 1) := by decide +kernel
theorem dX9_judge_27 : decode cX9_judge 27 = .ok (.getfield 63, 3) := by decide +kernel
theorem dX9_judge_30 : decode cX9_judge 30 = .ok (.getfield 254, 3) := by decide +kernel
theorem dX9_judge_33 : decode cX9_judge 33 = .ok (.iload_n 1, 1) := by decide +kernel
theorem dX9_judge_34 : decode cX9_judge 34 = .ok (.iaload, 1) := by decide +kernel
theorem dX9_judge_35 : decode cX9_judge 35 = .ok (.if_icmp .ge 42, 3) := by decide +kernel
theorem dX9_judge_38 : decode cX9_judge 38 = .ok (.iload_n 3, 1) := by decide +kernel
theorem dX9_judge_39 : decode cX9_judge 39 = .ok (.aload_n 0, 1) := by decide +kernel
theorem dX9_judge_40 : decode cX9_judge 40 = .ok (.getfield 10, 3) := by decide +kernel
theorem dX9_judge_43 : decode cX9_judge 43 = .ok (.getfield 96, 3) := by decide +kernel
theorem dX9_judge_46 : decode cX9_judge 46 = .ok (.if_icmp .ge 23, 3) := by decide +kernel
theorem dX9_judge_49 : decode cX9_judge 49 = .ok (.aload_n 0, 1) := by decide +kernel
theorem dX9_judge_50 : decode cX9_judge 50 = .ok (.getfield 63, 3) := by decide +kernel
theorem dX9_judge_53 : decode cX9_judge 53 = .ok (.getfield 247, 3) := by decide +kernel
theorem dX9_judge_56 : decode cX9_judge 56 = .ok (.iload_n 1, 1) := by decide +kernel
theorem dX9_judge_57 : decode cX9_judge 57 = .ok (.aaload, 1) := by decide +kernel
theorem dX9_judge_58 : decode cX9_judge 58 = .ok (.iload_n 3, 1) := by decide +kernel
theorem dX9_judge_59 : decode cX9_judge 59 = .ok (.iaload, 1) := by decide +kernel
theorem dX9_judge_60 : decode cX9_judge 60 = .ok (.aload_n 0, 1) := by decide +kernel
theorem dX9_judge_61 : decode cX9_judge 61 = .ok (.getfield 71, 3) := by decide +kernel
theorem dX9_judge_64 : decode cX9_judge 64 = .ok (.iload_n 3, 1) := by decide +kernel
theorem dX9_judge_65 : decode cX9_judge 65 = .ok (.iaload, 1) := by decide +kernel
theorem dX9_judge_66 : decode cX9_judge 66 = .ok (.if_icmp .eq 5, 3) := by decide +kernel
theorem dX9_judge_69 : decode cX9_judge 69 = .ok (.iload_n 3, 1) := by decide +kernel
theorem dX9_judge_70 : decode cX9_judge 70 = .ok (.ireturn, 1) := by decide +kernel
theorem dX9_judge_71 : decode cX9_judge 71 = .ok (.iinc 3 1, 3) := by decide +kernel
theorem dX9_judge_74 : decode cX9_judge 74 = .ok (.goto (-49), 3) := by decide +kernel
theorem dX9_judge_77 : decode cX9_judge 77 = .ok (.bipush (-9), 2) := by decide +kernel
theorem dX9_judge_79 : decode cX9_judge 79 = .ok (.ireturn, 1) := by decide +kernel
theorem dX9_gives_0 : decode cX9_gives 0 = .ok (.aload_n 0, 1) := by decide +kernel
theorem dX9_gives_1 : decode cX9_gives 1 = .ok (.iload_n 1, 1) := by decide +kernel
theorem dX9_gives_2 : decode cX9_gives 2 = .ok (.invokevirtual 251, 3) := by decide +kernel
theorem dX9_gives_5 : decode cX9_gives 5 = .ok (.istore_n 2, 1) := by decide +kernel
theorem dX9_gives_6 : decode cX9_gives 6 = .ok (.iload_n 2, 1) := by decide +kernel
theorem dX9_gives_7 : decode cX9_gives 7 = .ok (.ifCond .eq 5, 3) := by decide +kernel
theorem dX9_gives_10 : decode cX9_gives 10 = .ok (.iload_n 2, 1) := by decide +kernel
theorem dX9_gives_11 : decode cX9_gives 11 = .ok (.ireturn, 1) := by decide +kernel
theorem dX9_gives_12 : decode cX9_gives 12 = .ok (.aload_n 0, 1) := by decide +kernel
theorem dX9_gives_13 : decode cX9_gives 13 = .ok (.getfield 63, 3) := by decide +kernel
theorem dX9_gives_16 : decode cX9_gives 16 = .ok (.getfield 254, 3) := by decide +kernel
theorem dX9_gives_19 : decode cX9_gives 19 = .ok (.iload_n 1, 1) := by decide +kernel
theorem dX9_gives_20 : decode cX9_gives 20 = .ok (.iaload, 1) := by decide +kernel
theorem dX9_gives_21 : decode cX9_gives 21 = .ok (.aload_n 0, 1) := by decide +kernel
theorem dX9_gives_22 : decode cX9_gives 22 = .ok (.getfield 10, 3) := by decide +kernel
theorem dX9_gives_25 : decode cX9_gives 25 = .ok (.getfield 109, 3) := by decide +kernel
theorem dX9_gives_28 : decode cX9_gives 28 = .ok (.if_icmp .ne 17, 3) := by decide +kernel
theorem dX9_gives_31 : decode cX9_gives 31 = .ok (.aload_n 0, 1) := by decide +kernel
theorem dX9_gives_32 : decode cX9_gives 32 = .ok (.getfield 63, 3) := by decide +kernel
theorem dX9_gives_35 : decode cX9_gives 35 = .ok (.iload_n 1, 1) := by decide +kernel
theorem dX9_gives_36 : decode cX9_gives 36 = .ok (.iconst 0, 1) := by decide +kernel
theorem dX9_gives_37 : decode cX9_gives 37 = .ok (.bipush 99, 2) := by decide +kernel
theorem dX9_gives_39 : decode cX9_gives 39 = .ok (.invokevirtual 263, 3) := by decide +kernel
theorem dX9_gives_42 : decode cX9_gives 42 = .ok (.ifCond .ne 10, 3) := by decide +kernel
theorem dX9_gives_45 : decode cX9_gives 45 = .ok (.aload_n 0, 1) := by decide +kernel
theorem dX9_gives_46 : decode cX9_gives 46 = .ok (.bipush (-3), 2) := by decide +kernel
theorem dX9_gives_48 : decode cX9_gives 48 = .ok (.invokevirtual 77, 3) := by decide +kernel
theorem dX9_gives_51 : decode cX9_gives 51 = .ok (.ireturn, 1) := by decide +kernel
theorem dX9_gives_52 : decode cX9_gives 52 = .ok (.aload_n 0, 1) := by decide +kernel
theorem dX9_gives_53 : decode cX9_gives 53 = .ok (.getfield 26, 3) := by decide +kernel
theorem dX9_gives_56 : decode cX9_gives 56 = .ok (.aload_n 0, 1) := by decide +kernel
theorem dX9_gives_57 : decode cX9_gives 57 = .ok (.getfield 10, 3) := by decide +kernel
theorem dX9_gives_60 : decode cX9_gives 60 = .ok (.invokevirtual 118, 3) := by decide +kernel
theorem dX9_gives_63 : decode cX9_gives 63 = .ok (.aload_n 0, 1) := by decide +kernel
theorem dX9_gives_64 : decode cX9_gives 64 = .ok (.getfield 63, 3) := by decide +kernel
theorem dX9_gives_67 : decode cX9_gives 67 = .ok (.getfield 247, 3) := by decide +kernel
theorem dX9_gives_70 : decode cX9_gives 70 = .ok (.iload_n 1, 1) := by decide +kernel
theorem dX9_gives_71 : decode cX9_gives 71 = .ok (.aaload, 1) := by decide +kernel
theorem dX9_gives_72 : decode cX9_gives 72 = .ok (.iconst 0, 1) := by decide +kernel
theorem dX9_gives_73 : decode cX9_gives 73 = .ok (.aload_n 0, 1) := by decide +kernel
theorem dX9_gives_74 : decode cX9_gives 74 = .ok (.getfield 10, 3) := by decide +kernel
theorem dX9_gives_77 : decode cX9_gives 77 = .ok (.getfield 121, 3) := by decide +kernel
theorem dX9_gives_80 : decode cX9_gives 80 = .ok (.iconst 0, 1) := by decide +kernel
theorem dX9_gives_81 : decode cX9_gives 81 = .ok (.aload_n 0, 1) := by decide +kernel
theorem dX9_gives_82 : decode cX9_gives 82 = .ok (.getfield 10, 3) := by decide +kernel
theorem dX9_gives_85 : decode cX9_gives 85 = .ok (.getfield 109, 3) := by decide +kernel
theorem dX9_gives_88 : decode cX9_gives 88 = .ok (.invokestatic 257, 3) := by decide +kernel
theorem dX9_gives_91 : decode cX9_gives 91 = .ok (.aload_n 0, 1) := by decide +kernel
theorem dX9_gives_92 : decode cX9_gives 92 = .ok (.getfield 10, 3) := by decide +kernel
theorem dX9_gives_95 : decode cX9_gives 95 = .ok (.getfield 109, 3) := by decide +kernel
theorem dX9_gives_98 : decode cX9_gives 98 = .ok (.ireturn, 1) := by decide +kernel
theorem dX9_rules_0 : decode cX9_rules 0 = .ok (.aload_n 0, 1) := by decide +kernel
theorem dX9_rules_1 : decode cX9_rules 1 = .ok (.iload_n 1, 1) := by decide +kernel
theorem dX9_rules_2 : decode cX9_rules 2 = .ok (.invokevirtual 251, 3) := by decide +kernel
theorem dX9_rules_5 : decode cX9_rules 5 = .ok (.istore_n 2, 1) := by decide +kernel
theorem dX9_rules_6 : decode cX9_rules 6 = .ok (.iload_n 2, 1) := by decide +kernel
theorem dX9_rules_7 : decode cX9_rules 7 = .ok (.ifCond .eq 5, 3) := by decide +kernel
theorem dX9_rules_10 : decode cX9_rules 10 = .ok (.iload_n 2, 1) := by decide +kernel
theorem dX9_rules_11 : decode cX9_rules 11 = .ok (.ireturn, 1) := by decide +kernel
theorem dX9_rules_12 : decode cX9_rules 12 = .ok (.aload_n 0, 1) := by decide +kernel
theorem dX9_rules_13 : decode cX9_rules 13 = .ok (.getfield 63, 3) := by decide +kernel
theorem dX9_rules_16 : decode cX9_rules 16 = .ok (.getfield 254, 3) := by decide +kernel
theorem dX9_rules_19 : decode cX9_rules 19 = .ok (.iload_n 1, 1) := by decide +kernel
theorem dX9_rules_20 : decode cX9_rules 20 = .ok (.iaload, 1) := by decide +kernel
theorem dX9_rules_21 : decode cX9_rules 21 = .ok (.istore_n 3, 1) := by decide +kernel
theorem dX9_rules_22 : decode cX9_rules 22 = .ok (.iload_n 3, 1) := by decide +kernel
theorem dX9_rules_23 : decode cX9_rules 23 = .ok (.iconst 1, 1) := by decide +kernel
theorem dX9_rules_24 : decode cX9_rules 24 = .ok (.if_icmp .lt 9, 3) := by decide +kernel
theorem dX9_rules_27 : decode cX9_rules 27 = .ok (.iload_n 3, 1) := by decide +kernel
theorem dX9_rules_28 : decode cX9_rules 28 = .ok (.bipush 7, 2) := by decide +kernel
theorem dX9_rules_30 : decode cX9_rules 30 = .ok (.if_icmp .le 10, 3) := by decide +kernel
theorem dX9_rules_33 : decode cX9_rules 33 = .ok (.aload_n 0, 1) := by decide +kernel
theorem dX9_rules_34 : decode cX9_rules 34 = .ok (.bipush (-3), 2) := by decide +kernel
theorem dX9_rules_36 : decode cX9_rules 36 = .ok (.invokevirtual 77, 3) := by decide +kernel
theorem dX9_rules_39 : decode cX9_rules 39 = .ok (.ireturn, 1) := by decide +kernel
theorem dX9_rules_40 : decode cX9_rules 40 = .ok (.iconst 0, 1) := by decide +kernel
theorem dX9_rules_41 : decode cX9_rules 41 = .ok (.istore 4, 2) := by decide +kernel
theorem dX9_rules_43 : decode cX9_rules 43 = .ok (.iconst 0, 1) := by decide +kernel
theorem dX9_rules_44 : decode cX9_rules 44 = .ok (.istore 5, 2) := by decide +kernel
theorem dX9_rules_46 : decode cX9_rules 46 = .ok (.iload 5, 2) := by decide +kernel
theorem dX9_rules_48 : decode cX9_rules 48 = .ok (.bipush 6, 2) := by decide +kernel
theorem dX9_rules_50 : decode cX9_rules 50 = .ok (.if_icmp .ge 36, 3) := by decide +kernel
theorem dX9_rules_53 : decode cX9_rules 53 = .ok (.iload 5, 2) := by decide +kernel
theorem dX9_rules_55 : decode cX9_rules 55 = .ok (.aload_n 0, 1) := by decide +kernel
theorem dX9_rules_56 : decode cX9_rules 56 = .ok (.getfield 63, 3) := by decide +kernel
theorem dX9_rules_59 : decode cX9_rules 59 = .ok (.getfield 247, 3) := by decide +kernel
theorem dX9_rules_62 : decode cX9_rules 62 = .ok (.iload_n 1, 1) := by decide +kernel
theorem dX9_rules_63 : decode cX9_rules 63 = .ok (.aaload, 1) := by decide +kernel
theorem dX9_rules_64 : decode cX9_rules 64 = .ok (.iload_n 3, 1) := by decide +kernel
theorem dX9_rules_65 : decode cX9_rules 65 = .ok (.invokestatic 168, 3) := by decide +kernel
theorem dX9_rules_68 : decode cX9_rules 68 = .ok (.ifCond .eq 12, 3) := by decide +kernel
theorem dX9_rules_71 : decode cX9_rules 71 = .ok (.iload 4, 2) := by decide +kernel
theorem dX9_rules_73 : decode cX9_rules 73 = .ok (.iconst 1, 1) := by decide +kernel
theorem dX9_rules_74 : decode cX9_rules 74 = .ok (.iload 5, 2) := by decide +kernel
theorem dX9_rules_76 : decode cX9_rules 76 = .ok (.ishl, 1) := by decide +kernel
theorem dX9_rules_77 : decode cX9_rules 77 = .ok (.ior, 1) := by decide +kernel
theorem dX9_rules_78 : decode cX9_rules 78 = .ok (.istore 4, 2) := by decide +kernel
theorem dX9_rules_80 : decode cX9_rules 80 = .ok (.iinc 5 1, 3) := by decide +kernel
theorem dX9_rules_83 : decode cX9_rules 83 = .ok (.goto (-37), 3) := by decide +kernel
theorem dX9_rules_86 : decode cX9_rules 86 = .ok (.iload 4, 2) := by decide +kernel
theorem dX9_rules_88 : decode cX9_rules 88 = .ok (.ireturn, 1) := by decide +kernel
theorem dX9_undo_0 : decode cX9_undo 0 = .ok (.aload_n 0, 1) := by decide +kernel
theorem dX9_undo_1 : decode cX9_undo 1 = .ok (.getfield 26, 3) := by decide +kernel
theorem dX9_undo_4 : decode cX9_undo 4 = .ok (.getfield 267, 3) := by decide +kernel
theorem dX9_undo_7 : decode cX9_undo 7 = .ok (.iconst 1, 1) := by decide +kernel
theorem dX9_undo_8 : decode cX9_undo 8 = .ok (.if_icmp .ge 10, 3) := by decide +kernel
theorem dX9_undo_11 : decode cX9_undo 11 = .ok (.aload_n 0, 1) := by decide +kernel
theorem dX9_undo_12 : decode cX9_undo 12 = .ok (.bipush (-3), 2) := by decide +kernel
theorem dX9_undo_14 : decode cX9_undo 14 = .ok (.invokevirtual 77, 3) := by decide +kernel
theorem dX9_undo_17 : decode cX9_undo 17 = .ok (.ireturn, 1) := by decide +kernel
theorem dX9_undo_18 : decode cX9_undo 18 = .ok (.aload_n 0, 1) := by decide +kernel
theorem dX9_undo_19 : decode cX9_undo 19 = .ok (.getfield 26, 3) := by decide +kernel
theorem dX9_undo_22 : decode cX9_undo 22 = .ok (.aload_n 0, 1) := by decide +kernel
theorem dX9_undo_23 : decode cX9_undo 23 = .ok (.getfield 10, 3) := by decide +kernel
theorem dX9_undo_26 : decode cX9_undo 26 = .ok (.invokevirtual 268, 3) := by decide +kernel
theorem dX9_undo_29 : decode cX9_undo 29 = .ok (.aload_n 0, 1) := by decide +kernel
theorem dX9_undo_30 : decode cX9_undo 30 = .ok (.getfield 26, 3) := by decide +kernel
theorem dX9_undo_33 : decode cX9_undo 33 = .ok (.getfield 267, 3) := by decide +kernel
theorem dX9_undo_36 : decode cX9_undo 36 = .ok (.ireturn, 1) := by decide +kernel
theorem dX9_image_0 : decode cX9_image 0 = .ok (.aload_n 0, 1) := by decide +kernel
theorem dX9_image_1 : decode cX9_image 1 = .ok (.getfield 16, 3) := by decide +kernel
theorem dX9_image_4 : decode cX9_image 4 = .ok (.aload_n 0, 1) := by decide +kernel
theorem dX9_image_5 : decode cX9_image 5 = .ok (.getfield 10, 3) := by decide +kernel
theorem dX9_image_8 : decode cX9_image 8 = .ok (.invokevirtual 271, 3) := by decide +kernel
theorem dX9_image_11 : decode cX9_image 11 = .ok (.aload_n 0, 1) := by decide +kernel
theorem dX9_image_12 : decode cX9_image 12 = .ok (.iconst 1, 1) := by decide +kernel
theorem dX9_image_13 : decode cX9_image 13 = .ok (.putfield 19, 3) := by decide +kernel
theorem dX9_image_16 : decode cX9_image 16 = .ok (.aload_n 0, 1) := by decide +kernel
theorem dX9_image_17 : decode cX9_image 17 = .ok (.getfield 16, 3) := by decide +kernel
theorem dX9_image_20 : decode cX9_image 20 = .ok (.getfield 109, 3) := by decide +kernel
theorem dX9_image_23 : decode cX9_image 23 = .ok (.ireturn, 1) := by decide +kernel
theorem dX9_on_0 : decode cX9_on 0 = .ok (.aload_n 0, 1) := by decide +kernel
theorem dX9_on_1 : decode cX9_on 1 = .ok (.getfield 19, 3) := by decide +kernel
theorem dX9_on_4 : decode cX9_on 4 = .ok (.ifCond .ne 10, 3) := by decide +kernel
theorem dX9_on_7 : decode cX9_on 7 = .ok (.aload_n 0, 1) := by decide +kernel
theorem dX9_on_8 : decode cX9_on 8 = .ok (.bipush (-3), 2) := by decide +kernel
theorem dX9_on_10 : decode cX9_on 10 = .ok (.invokevirtual 77, 3) := by decide +kernel
theorem dX9_on_13 : decode cX9_on 13 = .ok (.ireturn, 1) := by decide +kernel
theorem dX9_on_14 : decode cX9_on 14 = .ok (.aload_n 0, 1) := by decide +kernel
theorem dX9_on_15 : decode cX9_on 15 = .ok (.getfield 10, 3) := by decide +kernel
theorem dX9_on_18 : decode cX9_on 18 = .ok (.aload_n 0, 1) := by decide +kernel
theorem dX9_on_19 : decode cX9_on 19 = .ok (.getfield 16, 3) := by decide +kernel
theorem dX9_on_22 : decode cX9_on 22 = .ok (.invokevirtual 271, 3) := by decide +kernel
theorem dX9_on_25 : decode cX9_on 25 = .ok (.aload_n 0, 1) := by decide +kernel
theorem dX9_on_26 : decode cX9_on 26 = .ok (.getfield 26, 3) := by decide +kernel
theorem dX9_on_29 : decode cX9_on 29 = .ok (.invokevirtual 93, 3) := by decide +kernel
theorem dX9_on_32 : decode cX9_on 32 = .ok (.aload_n 0, 1) := by decide +kernel
theorem dX9_on_33 : decode cX9_on 33 = .ok (.getfield 10, 3) := by decide +kernel
theorem dX9_on_36 : decode cX9_on 36 = .ok (.getfield 109, 3) := by decide +kernel
theorem dX9_on_39 : decode cX9_on 39 = .ok (.ireturn, 1) := by decide +kernel
theorem dX9_count_0 : decode cX9_count 0 = .ok (.iload_n 1, 1) := by decide +kernel
theorem dX9_count_1 : decode cX9_count 1 = .ok (.tableswitch 85 0 4 #[35, 43, 51, 59, 67], 35) := by decide +kernel
theorem dX9_count_36 : decode cX9_count 36 = .ok (.aload_n 0, 1) := by decide +kernel
theorem dX9_count_37 : decode cX9_count 37 = .ok (.getfield 10, 3) := by decide +kernel
theorem dX9_count_40 : decode cX9_count 40 = .ok (.getfield 96, 3) := by decide +kernel
theorem dX9_count_43 : decode cX9_count 43 = .ok (.ireturn, 1) := by decide +kernel
theorem dX9_count_44 : decode cX9_count 44 = .ok (.aload_n 0, 1) := by decide +kernel
theorem dX9_count_45 : decode cX9_count 45 = .ok (.getfield 10, 3) := by decide +kernel
theorem dX9_count_48 : decode cX9_count 48 = .ok (.getfield 109, 3) := by decide +kernel
theorem dX9_count_51 : decode cX9_count 51 = .ok (.ireturn, 1) := by decide +kernel
theorem dX9_count_52 : decode cX9_count 52 = .ok (.aload_n 0, 1) := by decide +kernel
theorem dX9_count_53 : decode cX9_count 53 = .ok (.getfield 49, 3) := by decide +kernel
theorem dX9_count_56 : decode cX9_count 56 = .ok (.getfield 81, 3) := by decide +kernel
theorem dX9_count_59 : decode cX9_count 59 = .ok (.ireturn, 1) := by decide +kernel
theorem dX9_count_60 : decode cX9_count 60 = .ok (.aload_n 0, 1) := by decide +kernel
theorem dX9_count_61 : decode cX9_count 61 = .ok (.getfield 26, 3) := by decide +kernel
theorem dX9_count_64 : decode cX9_count 64 = .ok (.getfield 267, 3) := by decide +kernel
theorem dX9_count_67 : decode cX9_count 67 = .ok (.ireturn, 1) := by decide +kernel
theorem dX9_count_68 : decode cX9_count 68 = .ok (.aload_n 0, 1) := by decide +kernel
theorem dX9_count_69 : decode cX9_count 69 = .ok (.getfield 10, 3) := by decide +kernel
theorem dX9_count_72 : decode cX9_count 72 = .ok (.getfield 121, 3) := by decide +kernel
theorem dX9_count_75 : decode cX9_count 75 = .ok (.aload_n 0, 1) := by decide +kernel
theorem dX9_count_76 : decode cX9_count 76 = .ok (.getfield 10, 3) := by decide +kernel
theorem dX9_count_79 : decode cX9_count 79 = .ok (.getfield 109, 3) := by decide +kernel
theorem dX9_count_82 : decode cX9_count 82 = .ok (.invokestatic 159, 3) := by decide +kernel
theorem dX9_count_85 : decode cX9_count 85 = .ok (.ireturn, 1) := by decide +kernel
theorem dX9_count_86 : decode cX9_count 86 = .ok (.iload_n 1, 1) := by decide +kernel
theorem dX9_count_87 : decode cX9_count 87 = .ok (.bipush 11, 2) := by decide +kernel
theorem dX9_count_89 : decode cX9_count 89 = .ok (.if_icmp .lt 21, 3) := by decide +kernel
theorem dX9_count_92 : decode cX9_count 92 = .ok (.iload_n 1, 1) := by decide +kernel
theorem dX9_count_93 : decode cX9_count 93 = .ok (.bipush 16, 2) := by decide +kernel
theorem dX9_count_95 : decode cX9_count 95 = .ok (.if_icmp .gt 15, 3) := by decide +kernel
theorem dX9_count_98 : decode cX9_count 98 = .ok (.aload_n 0, 1) := by decide +kernel
theorem dX9_count_99 : decode cX9_count 99 = .ok (.getfield 67, 3) := by decide +kernel
theorem dX9_count_102 : decode cX9_count 102 = .ok (.iload_n 1, 1) := by decide +kernel
theorem dX9_count_103 : decode cX9_count 103 = .ok (.bipush 10, 2) := by decide +kernel
theorem dX9_count_105 : decode cX9_count 105 = .ok (.isub, 1) := by decide +kernel
theorem dX9_count_106 : decode cX9_count 106 = .ok (.iaload, 1) := by decide +kernel
theorem dX9_count_107 : decode cX9_count 107 = .ok (.goto 5, 3) := by decide +kernel
theorem dX9_count_110 : decode cX9_count 110 = .ok (.bipush (-9), 2) := by decide +kernel
theorem dX9_count_112 : decode cX9_count 112 = .ok (.ireturn, 1) := by decide +kernel
theorem dX9_refused_0 : decode cX9_refused 0 = .ok (.iload_n 1, 1) := by decide +kernel
theorem dX9_refused_1 : decode cX9_refused 1 = .ok (.ifCond .ge 24, 3) := by decide +kernel
theorem dX9_refused_4 : decode cX9_refused 4 = .ok (.iload_n 1, 1) := by decide +kernel
theorem dX9_refused_5 : decode cX9_refused 5 = .ok (.aload_n 0, 1) := by decide +kernel
theorem dX9_refused_6 : decode cX9_refused 6 = .ok (.getfield 67, 3) := by decide +kernel
theorem dX9_refused_9 : decode cX9_refused 9 = .ok (.arraylength, 1) := by decide +kernel
theorem dX9_refused_10 : decode cX9_refused 10 = .ok (.ineg, 1) := by decide +kernel
theorem dX9_refused_11 : decode cX9_refused 11 = .ok (.if_icmp .le 14, 3) := by decide +kernel
theorem dX9_refused_14 : decode cX9_refused 14 = .ok (.aload_n 0, 1) := by decide +kernel
theorem dX9_refused_15 : decode cX9_refused 15 = .ok (.getfield 67, 3) := by decide +kernel
theorem dX9_refused_18 : decode cX9_refused 18 = .ok (.iload_n 1, 1) := by decide +kernel
theorem dX9_refused_19 : decode cX9_refused 19 = .ok (.ineg, 1) := by decide +kernel
theorem dX9_refused_20 : decode cX9_refused 20 = .ok (.dup2, 1) := by decide +kernel
theorem dX9_refused_21 : decode cX9_refused 21 = .ok (.iaload, 1) := by decide +kernel
theorem dX9_refused_22 : decode cX9_refused 22 = .ok (.iconst 1, 1) := by decide +kernel
theorem dX9_refused_23 : decode cX9_refused 23 = .ok (.iadd, 1) := by decide +kernel
theorem dX9_refused_24 : decode cX9_refused 24 = .ok (.iastore, 1) := by decide +kernel
theorem dX9_refused_25 : decode cX9_refused 25 = .ok (.iload_n 1, 1) := by decide +kernel
theorem dX9_refused_26 : decode cX9_refused 26 = .ok (.ireturn, 1) := by decide +kernel
theorem dX9_refusalOfList_0 : decode cX9_refusalOfList 0 = .ok (.iload_n 1, 1) := by decide +kernel
theorem dX9_refusalOfList_1 : decode cX9_refusalOfList 1 = .ok (.invokestatic 238, 3) := by decide +kernel
theorem dX9_refusalOfList_4 : decode cX9_refusalOfList 4 = .ok (.ifCond .ne 9, 3) := by decide +kernel
theorem dX9_refusalOfList_7 : decode cX9_refusalOfList 7 = .ok (.aload_n 0, 1) := by decide +kernel
theorem dX9_refusalOfList_8 : decode cX9_refusalOfList 8 = .ok (.iconst (-1), 1) := by decide +kernel
theorem dX9_refusalOfList_9 : decode cX9_refusalOfList 9 = .ok (.invokevirtual 77, 3) := by decide +kernel
theorem dX9_refusalOfList_12 : decode cX9_refusalOfList 12 = .ok (.ireturn, 1) := by decide +kernel
theorem dX9_refusalOfList_13 : decode cX9_refusalOfList 13 = .ok (.aload_n 0, 1) := by decide +kernel
theorem dX9_refusalOfList_14 : decode cX9_refusalOfList 14 = .ok (.getfield 63, 3) := by decide +kernel
theorem dX9_refusalOfList_17 : decode cX9_refusalOfList 17 = .ok (.iload_n 1, 1) := by decide +kernel
theorem dX9_refusalOfList_18 : decode cX9_refusalOfList 18 = .ok (.invokevirtual 274, 3) := by decide +kernel
theorem dX9_refusalOfList_21 : decode cX9_refusalOfList 21 = .ok (.ifCond .eq 8, 3) := by decide +kernel
theorem dX9_refusalOfList_24 : decode cX9_refusalOfList 24 = .ok (.bipush (-11), 2) := by decide +kernel
theorem dX9_refusalOfList_26 : decode cX9_refusalOfList 26 = .ok (.goto 4, 3) := by decide +kernel
theorem dX9_refusalOfList_29 : decode cX9_refusalOfList 29 = .ok (.iconst 0, 1) := by decide +kernel
theorem dX9_refusalOfList_30 : decode cX9_refusalOfList 30 = .ok (.ireturn, 1) := by decide +kernel
theorem dX9_refusalOfPlace_0 : decode cX9_refusalOfPlace 0 = .ok (.aload_n 0, 1) := by decide +kernel
theorem dX9_refusalOfPlace_1 : decode cX9_refusalOfPlace 1 = .ok (.iload_n 1, 1) := by decide +kernel
theorem dX9_refusalOfPlace_2 : decode cX9_refusalOfPlace 2 = .ok (.invokevirtual 251, 3) := by decide +kernel
theorem dX9_refusalOfPlace_5 : decode cX9_refusalOfPlace 5 = .ok (.istore_n 3, 1) := by decide +kernel
theorem dX9_refusalOfPlace_6 : decode cX9_refusalOfPlace 6 = .ok (.iload_n 3, 1) := by decide +kernel
theorem dX9_refusalOfPlace_7 : decode cX9_refusalOfPlace 7 = .ok (.ifCond .eq 5, 3) := by decide +kernel
theorem dX9_refusalOfPlace_10 : decode cX9_refusalOfPlace 10 = .ok (.iload_n 3, 1) := by decide +kernel
theorem dX9_refusalOfPlace_11 : decode cX9_refusalOfPlace 11 = .ok (.ireturn, 1) := by decide +kernel
theorem dX9_refusalOfPlace_12 : decode cX9_refusalOfPlace 12 = .ok (.iload_n 2, 1) := by decide +kernel
theorem dX9_refusalOfPlace_13 : decode cX9_refusalOfPlace 13 = .ok (.ifCond .lt 16, 3) := by decide +kernel
theorem dX9_refusalOfPlace_16 : decode cX9_refusalOfPlace 16 = .ok (.iload_n 2, 1) := by decide +kernel
theorem dX9_refusalOfPlace_17 : decode cX9_refusalOfPlace 17 = .ok (.aload_n 0, 1) := by decide +kernel
theorem dX9_refusalOfPlace_18 : decode cX9_refusalOfPlace 18 = .ok (.getfield 63, 3) := by decide +kernel
theorem dX9_refusalOfPlace_21 : decode cX9_refusalOfPlace 21 = .ok (.getfield 254, 3) := by decide +kernel
theorem dX9_refusalOfPlace_24 : decode cX9_refusalOfPlace 24 = .ok (.iload_n 1, 1) := by decide +kernel
theorem dX9_refusalOfPlace_25 : decode cX9_refusalOfPlace 25 = .ok (.iaload, 1) := by decide +kernel
theorem dX9_refusalOfPlace_26 : decode cX9_refusalOfPlace 26 = .ok (.if_icmp .lt 8, 3) := by decide +kernel
theorem dX9_refusalOfPlace_29 : decode cX9_refusalOfPlace 29 = .ok (.bipush (-13), 2) := by decide +kernel
theorem dX9_refusalOfPlace_31 : decode cX9_refusalOfPlace 31 = .ok (.goto 4, 3) := by decide +kernel
theorem dX9_refusalOfPlace_34 : decode cX9_refusalOfPlace 34 = .ok (.iconst 0, 1) := by decide +kernel
theorem dX9_refusalOfPlace_35 : decode cX9_refusalOfPlace 35 = .ok (.ireturn, 1) := by decide +kernel
theorem dX9_found_0 : decode cX9_found 0 = .ok (.iload_n 2, 1) := by decide +kernel
theorem dX9_found_1 : decode cX9_found 1 = .ok (.iconst (-1), 1) := by decide +kernel
theorem dX9_found_2 : decode cX9_found 2 = .ok (.if_icmp .ne 5, 3) := by decide +kernel
theorem dX9_found_5 : decode cX9_found 5 = .ok (.iload_n 1, 1) := by decide +kernel
theorem dX9_found_6 : decode cX9_found 6 = .ok (.ireturn, 1) := by decide +kernel
theorem dX9_found_7 : decode cX9_found 7 = .ok (.iload_n 1, 1) := by decide +kernel
theorem dX9_found_8 : decode cX9_found 8 = .ok (.iload_n 2, 1) := by decide +kernel
theorem dX9_found_9 : decode cX9_found 9 = .ok (.if_icmp .le 15, 3) := by decide +kernel
theorem dX9_found_12 : decode cX9_found 12 = .ok (.aload_n 0, 1) := by decide +kernel
theorem dX9_found_13 : decode cX9_found 13 = .ok (.getfield 35, 3) := by decide +kernel
theorem dX9_found_16 : decode cX9_found 16 = .ok (.getfield 277, 3) := by decide +kernel
theorem dX9_found_19 : decode cX9_found 19 = .ok (.iload_n 3, 1) := by decide +kernel
theorem dX9_found_20 : decode cX9_found 20 = .ok (.iaload, 1) := by decide +kernel
theorem dX9_found_21 : decode cX9_found 21 = .ok (.goto 5, 3) := by decide +kernel
theorem dX9_found_24 : decode cX9_found 24 = .ok (.bipush (-9), 2) := by decide +kernel
theorem dX9_found_26 : decode cX9_found 26 = .ok (.ireturn, 1) := by decide +kernel
theorem dX9_fillMagicRow_0 : decode cX9_fillMagicRow 0 = .ok (.iload_n 1, 1) := by decide +kernel
theorem dX9_fillMagicRow_1 : decode cX9_fillMagicRow 1 = .ok (.istore_n 3, 1) := by decide +kernel
theorem dX9_fillMagicRow_2 : decode cX9_fillMagicRow 2 = .ok (.iload_n 3, 1) := by decide +kernel
theorem dX9_fillMagicRow_3 : decode cX9_fillMagicRow 3 = .ok (.iload_n 2, 1) := by decide +kernel
theorem dX9_fillMagicRow_4 : decode cX9_fillMagicRow 4 = .ok (.if_icmp .gt 24, 3) := by decide +kernel
theorem dX9_fillMagicRow_7 : decode cX9_fillMagicRow 7 = .ok (.aload_n 0, 1) := by decide +kernel
theorem dX9_fillMagicRow_8 : decode cX9_fillMagicRow 8 = .ok (.getfield 74, 3) := by decide +kernel
theorem dX9_fillMagicRow_11 : decode cX9_fillMagicRow 11 = .ok (.iload_n 3, 1) := by decide +kernel
theorem dX9_fillMagicRow_12 : decode cX9_fillMagicRow 12 = .ok (.aload_n 0, 1) := by decide +kernel
theorem dX9_fillMagicRow_13 : decode cX9_fillMagicRow 13 = .ok (.getfield 35, 3) := by decide +kernel
theorem dX9_fillMagicRow_16 : decode cX9_fillMagicRow 16 = .ok (.iload_n 3, 1) := by decide +kernel
theorem dX9_fillMagicRow_17 : decode cX9_fillMagicRow 17 = .ok (.iconst (-1), 1) := by decide +kernel
theorem dX9_fillMagicRow_18 : decode cX9_fillMagicRow 18 = .ok (.invokevirtual 183, 3) := by decide +kernel
theorem dX9_fillMagicRow_21 : decode cX9_fillMagicRow 21 = .ok (.iastore, 1) := by decide +kernel
theorem dX9_fillMagicRow_22 : decode cX9_fillMagicRow 22 = .ok (.iinc 3 1, 3) := by decide +kernel
theorem dX9_fillMagicRow_25 : decode cX9_fillMagicRow 25 = .ok (.goto (-23), 3) := by decide +kernel
theorem dX9_fillMagicRow_28 : decode cX9_fillMagicRow 28 = .ok (.return_, 1) := by decide +kernel
theorem dX9_becomeDifferences_0 : decode cX9_becomeDifferences 0 = .ok (.iload_n 1, 1) := by decide +kernel
theorem dX9_becomeDifferences_1 : decode cX9_becomeDifferences 1 = .ok (.istore_n 3, 1) := by decide +kernel
theorem dX9_becomeDifferences_2 : decode cX9_becomeDifferences 2 = .ok (.iload_n 3, 1) := by decide +kernel
theorem dX9_becomeDifferences_3 : decode cX9_becomeDifferences 3 = .ok (.iload_n 2, 1) := by decide +kernel
theorem dX9_becomeDifferences_4 : decode cX9_becomeDifferences 4 = .ok (.if_icmp .ge 30, 3) := by decide +kernel
theorem dX9_becomeDifferences_7 : decode cX9_becomeDifferences 7 = .ok (.aload_n 0, 1) := by decide +kernel
theorem dX9_becomeDifferences_8 : decode cX9_becomeDifferences 8 = .ok (.getfield 74, 3) := by decide +kernel
theorem dX9_becomeDifferences_11 : decode cX9_becomeDifferences 11 = .ok (.iload_n 3, 1) := by decide +kernel
theorem dX9_becomeDifferences_12 : decode cX9_becomeDifferences 12 = .ok (.aload_n 0, 1) := by decide +kernel
theorem dX9_becomeDifferences_13 : decode cX9_becomeDifferences 13 = .ok (.getfield 74, 3) := by decide +kernel
theorem dX9_becomeDifferences_16 : decode cX9_becomeDifferences 16 = .ok (.iload_n 3, 1) := by decide +kernel
theorem dX9_becomeDifferences_17 : decode cX9_becomeDifferences 17 = .ok (.iconst 1, 1) := by decide +kernel
theorem dX9_becomeDifferences_18 : decode cX9_becomeDifferences 18 = .ok (.iadd, 1) := by decide +kernel
theorem dX9_becomeDifferences_19 : decode cX9_becomeDifferences 19 = .ok (.iaload, 1) := by decide +kernel
theorem dX9_becomeDifferences_20 : decode cX9_becomeDifferences 20 = .ok (.aload_n 0, 1) := by decide +kernel
theorem dX9_becomeDifferences_21 : decode cX9_becomeDifferences 21 = .ok (.getfield 74, 3) := by decide +kernel
theorem dX9_becomeDifferences_24 : decode cX9_becomeDifferences 24 = .ok (.iload_n 3, 1) := by decide +kernel
theorem dX9_becomeDifferences_25 : decode cX9_becomeDifferences 25 = .ok (.iaload, 1) := by decide +kernel
theorem dX9_becomeDifferences_26 : decode cX9_becomeDifferences 26 = .ok (.isub, 1) := by decide +kernel
theorem dX9_becomeDifferences_27 : decode cX9_becomeDifferences 27 = .ok (.iastore, 1) := by decide +kernel
theorem dX9_becomeDifferences_28 : decode cX9_becomeDifferences 28 = .ok (.iinc 3 1, 3) := by decide +kernel
theorem dX9_becomeDifferences_31 : decode cX9_becomeDifferences 31 = .ok (.goto (-29), 3) := by decide +kernel
theorem dX9_becomeDifferences_34 : decode cX9_becomeDifferences 34 = .ok (.return_, 1) := by decide +kernel
theorem dX9_isKind_0 : decode cX9_isKind 0 = .ok (.iload_n 0, 1) := by decide +kernel
theorem dX9_isKind_1 : decode cX9_isKind 1 = .ok (.ifCond .lt 13, 3) := by decide +kernel
theorem dX9_isKind_4 : decode cX9_isKind 4 = .ok (.iload_n 0, 1) := by decide +kernel
theorem dX9_isKind_5 : decode cX9_isKind 5 = .ok (.bipush 6, 2) := by decide +kernel
theorem dX9_isKind_7 : decode cX9_isKind 7 = .ok (.if_icmp .ge 7, 3) := by decide +kernel
theorem dX9_isKind_10 : decode cX9_isKind 10 = .ok (.iconst 1, 1) := by decide +kernel
theorem dX9_isKind_11 : decode cX9_isKind 11 = .ok (.goto 4, 3) := by decide +kernel
theorem dX9_isKind_14 : decode cX9_isKind 14 = .ok (.iconst 0, 1) := by decide +kernel
theorem dX9_isKind_15 : decode cX9_isKind 15 = .ok (.ireturn, 1) := by decide +kernel
theorem dX9_isRule_0 : decode cX9_isRule 0 = .ok (.iload_n 0, 1) := by decide +kernel
theorem dX9_isRule_1 : decode cX9_isRule 1 = .ok (.ifCond .lt 13, 3) := by decide +kernel
theorem dX9_isRule_4 : decode cX9_isRule 4 = .ok (.iload_n 0, 1) := by decide +kernel
theorem dX9_isRule_5 : decode cX9_isRule 5 = .ok (.bipush 6, 2) := by decide +kernel
theorem dX9_isRule_7 : decode cX9_isRule 7 = .ok (.if_icmp .ge 7, 3) := by decide +kernel
theorem dX9_isRule_10 : decode cX9_isRule 10 = .ok (.iconst 1, 1) := by decide +kernel
theorem dX9_isRule_11 : decode cX9_isRule 11 = .ok (.goto 4, 3) := by decide +kernel
theorem dX9_isRule_14 : decode cX9_isRule 14 = .ok (.iconst 0, 1) := by decide +kernel
theorem dX9_isRule_15 : decode cX9_isRule 15 = .ok (.ireturn, 1) := by decide +kernel
theorem dX9_isList_0 : decode cX9_isList 0 = .ok (.iload_n 0, 1) := by decide +kernel
theorem dX9_isList_1 : decode cX9_isList 1 = .ok (.ifCond .lt 12, 3) := by decide +kernel
theorem dX9_isList_4 : decode cX9_isList 4 = .ok (.iload_n 0, 1) := by decide +kernel
theorem dX9_isList_5 : decode cX9_isList 5 = .ok (.iconst 3, 1) := by decide +kernel
theorem dX9_isList_6 : decode cX9_isList 6 = .ok (.if_icmp .ge 7, 3) := by decide +kernel
theorem dX9_isList_9 : decode cX9_isList 9 = .ok (.iconst 1, 1) := by decide +kernel
theorem dX9_isList_10 : decode cX9_isList 10 = .ok (.goto 4, 3) := by decide +kernel
theorem dX9_isList_13 : decode cX9_isList 13 = .ok (.iconst 0, 1) := by decide +kernel
theorem dX9_isList_14 : decode cX9_isList 14 = .ok (.ireturn, 1) := by decide +kernel
theorem dX9_commonDivisor_0 : decode cX9_commonDivisor 0 = .ok (.iload_n 1, 1) := by decide +kernel
theorem dX9_commonDivisor_1 : decode cX9_commonDivisor 1 = .ok (.istore_n 2, 1) := by decide +kernel
theorem dX9_commonDivisor_2 : decode cX9_commonDivisor 2 = .ok (.iload_n 0, 1) := by decide +kernel
theorem dX9_commonDivisor_3 : decode cX9_commonDivisor 3 = .ok (.istore_n 3, 1) := by decide +kernel
theorem dX9_commonDivisor_4 : decode cX9_commonDivisor 4 = .ok (.iconst 0, 1) := by decide +kernel
theorem dX9_commonDivisor_5 : decode cX9_commonDivisor 5 = .ok (.istore 4, 2) := by decide +kernel
theorem dX9_commonDivisor_7 : decode cX9_commonDivisor 7 = .ok (.iload 4, 2) := by decide +kernel
theorem dX9_commonDivisor_9 : decode cX9_commonDivisor 9 = .ok (.bipush 64, 2) := by decide +kernel
theorem dX9_commonDivisor_11 : decode cX9_commonDivisor 11 = .ok (.if_icmp .ge 23, 3) := by decide +kernel
theorem dX9_commonDivisor_14 : decode cX9_commonDivisor 14 = .ok (.iload_n 3, 1) := by decide +kernel
theorem dX9_commonDivisor_15 : decode cX9_commonDivisor 15 = .ok (.ifCond .eq 19, 3) := by decide +kernel
theorem dX9_commonDivisor_18 : decode cX9_commonDivisor 18 = .ok (.iload_n 2, 1) := by decide +kernel
theorem dX9_commonDivisor_19 : decode cX9_commonDivisor 19 = .ok (.iload_n 3, 1) := by decide +kernel
theorem dX9_commonDivisor_20 : decode cX9_commonDivisor 20 = .ok (.irem, 1) := by decide +kernel
theorem dX9_commonDivisor_21 : decode cX9_commonDivisor 21 = .ok (.istore 5, 2) := by decide +kernel
theorem dX9_commonDivisor_23 : decode cX9_commonDivisor 23 = .ok (.iload_n 3, 1) := by decide +kernel
theorem dX9_commonDivisor_24 : decode cX9_commonDivisor 24 = .ok (.istore_n 2, 1) := by decide +kernel
theorem dX9_commonDivisor_25 : decode cX9_commonDivisor 25 = .ok (.iload 5, 2) := by decide +kernel
theorem dX9_commonDivisor_27 : decode cX9_commonDivisor 27 = .ok (.istore_n 3, 1) := by decide +kernel
theorem dX9_commonDivisor_28 : decode cX9_commonDivisor 28 = .ok (.iinc 4 1, 3) := by decide +kernel
theorem dX9_commonDivisor_31 : decode cX9_commonDivisor 31 = .ok (.goto (-24), 3) := by decide +kernel
theorem dX9_commonDivisor_34 : decode cX9_commonDivisor 34 = .ok (.iconst 1, 1) := by decide +kernel
theorem dX9_commonDivisor_35 : decode cX9_commonDivisor 35 = .ok (.iload_n 2, 1) := by decide +kernel
theorem dX9_commonDivisor_36 : decode cX9_commonDivisor 36 = .ok (.invokestatic 278, 3) := by decide +kernel
theorem dX9_commonDivisor_39 : decode cX9_commonDivisor 39 = .ok (.ireturn, 1) := by decide +kernel
