theorem dX0_init_0 : decode cX0_init 0 = .ok (.aload_n 0, 1) := by decide +kernel
theorem dX0_init_1 : decode cX0_init 1 = .ok (.invokespecial 3, 3) := by decide +kernel
theorem dX0_init_4 : decode cX0_init 4 = .ok (.aload_n 0, 1) := by decide +kernel
theorem dX0_init_5 : decode cX0_init 5 = .ok (.bipush 40, 2) := by decide +kernel
theorem dX0_init_7 : decode cX0_init 7 = .ok (.newarray .int, 2) := by decide +kernel
theorem dX0_init_9 : decode cX0_init 9 = .ok (.putfield 9, 3) := by decide +kernel
theorem dX0_init_12 : decode cX0_init 12 = .ok (.aload_n 0, 1) := by decide +kernel
theorem dX0_init_13 : decode cX0_init 13 = .ok (.iconst (-1), 1) := by decide +kernel
theorem dX0_init_14 : decode cX0_init 14 = .ok (.putfield 15, 3) := by decide +kernel
theorem dX0_init_17 : decode cX0_init 17 = .ok (.return_, 1) := by decide +kernel
theorem dX0_renew_0 : decode cX0_renew 0 = .ok (.aload_n 0, 1) := by decide +kernel
theorem dX0_renew_1 : decode cX0_renew 1 = .ok (.iload_n 1, 1) := by decide +kernel
theorem dX0_renew_2 : decode cX0_renew 2 = .ok (.putfield 15, 3) := by decide +kernel
theorem dX0_renew_5 : decode cX0_renew 5 = .ok (.aload_n 0, 1) := by decide +kernel
theorem dX0_renew_6 : decode cX0_renew 6 = .ok (.iload_n 2, 1) := by decide +kernel
theorem dX0_renew_7 : decode cX0_renew 7 = .ok (.putfield 19, 3) := by decide +kernel
theorem dX0_renew_10 : decode cX0_renew 10 = .ok (.iconst 0, 1) := by decide +kernel
theorem dX0_renew_11 : decode cX0_renew 11 = .ok (.istore_n 3, 1) := by decide +kernel
theorem dX0_renew_12 : decode cX0_renew 12 = .ok (.iload_n 3, 1) := by decide +kernel
theorem dX0_renew_13 : decode cX0_renew 13 = .ok (.bipush 40, 2) := by decide +kernel
theorem dX0_renew_15 : decode cX0_renew 15 = .ok (.if_icmp .ge 16, 3) := by decide +kernel
theorem dX0_renew_18 : decode cX0_renew 18 = .ok (.aload_n 0, 1) := by decide +kernel
theorem dX0_renew_19 : decode cX0_renew 19 = .ok (.getfield 9, 3) := by decide +kernel
theorem dX0_renew_22 : decode cX0_renew 22 = .ok (.iload_n 3, 1) := by decide +kernel
theorem dX0_renew_23 : decode cX0_renew 23 = .ok (.iconst 0, 1) := by decide +kernel
theorem dX0_renew_24 : decode cX0_renew 24 = .ok (.iastore, 1) := by decide +kernel
theorem dX0_renew_25 : decode cX0_renew 25 = .ok (.iinc 3 1, 3) := by decide +kernel
theorem dX0_renew_28 : decode cX0_renew 28 = .ok (.goto (-16), 3) := by decide +kernel
theorem dX0_renew_31 : decode cX0_renew 31 = .ok (.return_, 1) := by decide +kernel
theorem dX0_refusal_0 : decode cX0_refusal 0 = .ok (.aload_n 0, 1) := by decide +kernel
theorem dX0_refusal_1 : decode cX0_refusal 1 = .ok (.getfield 15, 3) := by decide +kernel
theorem dX0_refusal_4 : decode cX0_refusal 4 = .ok (.iconst (-1), 1) := by decide +kernel
theorem dX0_refusal_5 : decode cX0_refusal 5 = .ok (.if_icmp .ne 5, 3) := by decide +kernel
theorem dX0_refusal_8 : decode cX0_refusal 8 = .ok (.iconst 1, 1) := by decide +kernel
theorem dX0_refusal_9 : decode cX0_refusal 9 = .ok (.ireturn, 1) := by decide +kernel
theorem dX0_refusal_10 : decode cX0_refusal 10 = .ok (.aload_n 0, 1) := by decide +kernel
theorem dX0_refusal_11 : decode cX0_refusal 11 = .ok (.getfield 15, 3) := by decide +kernel
theorem dX0_refusal_14 : decode cX0_refusal 14 = .ok (.iload_n 1, 1) := by decide +kernel
theorem dX0_refusal_15 : decode cX0_refusal 15 = .ok (.if_icmp .eq 5, 3) := by decide +kernel
theorem dX0_refusal_18 : decode cX0_refusal 18 = .ok (.iconst 3, 1) := by decide +kernel
theorem dX0_refusal_19 : decode cX0_refusal 19 = .ok (.ireturn, 1) := by decide +kernel
theorem dX0_refusal_20 : decode cX0_refusal 20 = .ok (.iload_n 2, 1) := by decide +kernel
theorem dX0_refusal_21 : decode cX0_refusal 21 = .ok (.ifCond .lt 11, 3) := by decide +kernel
theorem dX0_refusal_24 : decode cX0_refusal 24 = .ok (.iload_n 2, 1) := by decide +kernel
theorem dX0_refusal_25 : decode cX0_refusal 25 = .ok (.aload_n 0, 1) := by decide +kernel
theorem dX0_refusal_26 : decode cX0_refusal 26 = .ok (.getfield 19, 3) := by decide +kernel
theorem dX0_refusal_29 : decode cX0_refusal 29 = .ok (.if_icmp .lt 7, 3) := by decide +kernel
theorem dX0_refusal_32 : decode cX0_refusal 32 = .ok (.iconst 2, 1) := by decide +kernel
theorem dX0_refusal_33 : decode cX0_refusal 33 = .ok (.goto 4, 3) := by decide +kernel
theorem dX0_refusal_36 : decode cX0_refusal 36 = .ok (.iconst 0, 1) := by decide +kernel
theorem dX0_refusal_37 : decode cX0_refusal 37 = .ok (.ireturn, 1) := by decide +kernel
theorem dX0_refusalOfPair_0 : decode cX0_refusalOfPair 0 = .ok (.aload_n 0, 1) := by decide +kernel
theorem dX0_refusalOfPair_1 : decode cX0_refusalOfPair 1 = .ok (.iload_n 1, 1) := by decide +kernel
theorem dX0_refusalOfPair_2 : decode cX0_refusalOfPair 2 = .ok (.iload_n 2, 1) := by decide +kernel
theorem dX0_refusalOfPair_3 : decode cX0_refusalOfPair 3 = .ok (.invokevirtual 22, 3) := by decide +kernel
theorem dX0_refusalOfPair_6 : decode cX0_refusalOfPair 6 = .ok (.istore_n 3, 1) := by decide +kernel
theorem dX0_refusalOfPair_7 : decode cX0_refusalOfPair 7 = .ok (.iload_n 3, 1) := by decide +kernel
theorem dX0_refusalOfPair_8 : decode cX0_refusalOfPair 8 = .ok (.ifCond .eq 7, 3) := by decide +kernel
theorem dX0_refusalOfPair_11 : decode cX0_refusalOfPair 11 = .ok (.iload_n 3, 1) := by decide +kernel
theorem dX0_refusalOfPair_12 : decode cX0_refusalOfPair 12 = .ok (.goto 11, 3) := by decide +kernel
theorem dX0_refusalOfPair_15 : decode cX0_refusalOfPair 15 = .ok (.aload_n 0, 1) := by decide +kernel
theorem dX0_refusalOfPair_16 : decode cX0_refusalOfPair 16 = .ok (.iload_n 1, 1) := by decide +kernel
theorem dX0_refusalOfPair_17 : decode cX0_refusalOfPair 17 = .ok (.iload_n 2, 1) := by decide +kernel
theorem dX0_refusalOfPair_18 : decode cX0_refusalOfPair 18 = .ok (.iconst 1, 1) := by decide +kernel
theorem dX0_refusalOfPair_19 : decode cX0_refusalOfPair 19 = .ok (.iadd, 1) := by decide +kernel
theorem dX0_refusalOfPair_20 : decode cX0_refusalOfPair 20 = .ok (.invokevirtual 22, 3) := by decide +kernel
theorem dX0_refusalOfPair_23 : decode cX0_refusalOfPair 23 = .ok (.ireturn, 1) := by decide +kernel
theorem dX0_put_0 : decode cX0_put 0 = .ok (.aload_n 0, 1) := by decide +kernel
theorem dX0_put_1 : decode cX0_put 1 = .ok (.getfield 15, 3) := by decide +kernel
theorem dX0_put_4 : decode cX0_put 4 = .ok (.ifCond .ne 14, 3) := by decide +kernel
theorem dX0_put_7 : decode cX0_put 7 = .ok (.aload_n 0, 1) := by decide +kernel
theorem dX0_put_8 : decode cX0_put 8 = .ok (.getfield 9, 3) := by decide +kernel
theorem dX0_put_11 : decode cX0_put 11 = .ok (.iload_n 1, 1) := by decide +kernel
theorem dX0_put_12 : decode cX0_put 12 = .ok (.iload_n 2, 1) := by decide +kernel
theorem dX0_put_13 : decode cX0_put 13 = .ok (.i2b, 1) := by decide +kernel
theorem dX0_put_14 : decode cX0_put 14 = .ok (.iastore, 1) := by decide +kernel
theorem dX0_put_15 : decode cX0_put 15 = .ok (.goto 29, 3) := by decide +kernel
theorem dX0_put_18 : decode cX0_put 18 = .ok (.aload_n 0, 1) := by decide +kernel
theorem dX0_put_19 : decode cX0_put 19 = .ok (.getfield 15, 3) := by decide +kernel
theorem dX0_put_22 : decode cX0_put 22 = .ok (.iconst 1, 1) := by decide +kernel
theorem dX0_put_23 : decode cX0_put 23 = .ok (.if_icmp .ne 14, 3) := by decide +kernel
theorem dX0_put_26 : decode cX0_put 26 = .ok (.aload_n 0, 1) := by decide +kernel
theorem dX0_put_27 : decode cX0_put 27 = .ok (.getfield 9, 3) := by decide +kernel
theorem dX0_put_30 : decode cX0_put 30 = .ok (.iload_n 1, 1) := by decide +kernel
theorem dX0_put_31 : decode cX0_put 31 = .ok (.iload_n 2, 1) := by decide +kernel
theorem dX0_put_32 : decode cX0_put 32 = .ok (.i2s, 1) := by decide +kernel
theorem dX0_put_33 : decode cX0_put 33 = .ok (.iastore, 1) := by decide +kernel
theorem dX0_put_34 : decode cX0_put 34 = .ok (.goto 10, 3) := by decide +kernel
theorem dX0_put_37 : decode cX0_put 37 = .ok (.aload_n 0, 1) := by decide +kernel
theorem dX0_put_38 : decode cX0_put 38 = .ok (.getfield 9, 3) := by decide +kernel
theorem dX0_put_41 : decode cX0_put 41 = .ok (.iload_n 1, 1) := by decide +kernel
theorem dX0_put_42 : decode cX0_put 42 = .ok (.iload_n 2, 1) := by decide +kernel
theorem dX0_put_43 : decode cX0_put 43 = .ok (.iastore, 1) := by decide +kernel
theorem dX0_put_44 : decode cX0_put 44 = .ok (.return_, 1) := by decide +kernel
theorem dX1_init_0 : decode cX1_init 0 = .ok (.aload_n 0, 1) := by decide +kernel
theorem dX1_init_1 : decode cX1_init 1 = .ok (.invokespecial 3, 3) := by decide +kernel
theorem dX1_init_4 : decode cX1_init 4 = .ok (.aload_n 0, 1) := by decide +kernel
theorem dX1_init_5 : decode cX1_init 5 = .ok (.sipush 160, 3) := by decide +kernel
theorem dX1_init_8 : decode cX1_init 8 = .ok (.newarray .byte, 2) := by decide +kernel
theorem dX1_init_10 : decode cX1_init 10 = .ok (.putfield 11, 3) := by decide +kernel
theorem dX1_init_13 : decode cX1_init 13 = .ok (.return_, 1) := by decide +kernel
theorem dX1_add_0 : decode cX1_add 0 = .ok (.aload_n 0, 1) := by decide +kernel
theorem dX1_add_1 : decode cX1_add 1 = .ok (.getfield 15, 3) := by decide +kernel
theorem dX1_add_4 : decode cX1_add 4 = .ok (.sipush 160, 3) := by decide +kernel
theorem dX1_add_7 : decode cX1_add 7 = .ok (.if_icmp .lt 5, 3) := by decide +kernel
theorem dX1_add_10 : decode cX1_add 10 = .ok (.iconst 0, 1) := by decide +kernel
theorem dX1_add_11 : decode cX1_add 11 = .ok (.ireturn, 1) := by decide +kernel
theorem dX1_add_12 : decode cX1_add 12 = .ok (.aload_n 0, 1) := by decide +kernel
theorem dX1_add_13 : decode cX1_add 13 = .ok (.getfield 11, 3) := by decide +kernel
theorem dX1_add_16 : decode cX1_add 16 = .ok (.aload_n 0, 1) := by decide +kernel
theorem dX1_add_17 : decode cX1_add 17 = .ok (.getfield 15, 3) := by decide +kernel
theorem dX1_add_20 : decode cX1_add 20 = .ok (.iload_n 1, 1) := by decide +kernel
theorem dX1_add_21 : decode cX1_add 21 = .ok (.i2b, 1) := by decide +kernel
theorem dX1_add_22 : decode cX1_add 22 = .ok (.bastore, 1) := by decide +kernel
theorem dX1_add_23 : decode cX1_add 23 = .ok (.aload_n 0, 1) := by decide +kernel
theorem dX1_add_24 : decode cX1_add 24 = .ok (.dup, 1) := by decide +kernel
theorem dX1_add_25 : decode cX1_add 25 = .ok (.getfield 15, 3) := by decide +kernel
theorem dX1_add_28 : decode cX1_add 28 = .ok (.iconst 1, 1) := by decide +kernel
theorem dX1_add_29 : decode cX1_add 29 = .ok (.iadd, 1) := by decide +kernel
theorem dX1_add_30 : decode cX1_add 30 = .ok (.putfield 15, 3) := by decide +kernel
theorem dX1_add_33 : decode cX1_add 33 = .ok (.iconst 1, 1) := by decide +kernel
theorem dX1_add_34 : decode cX1_add 34 = .ok (.ireturn, 1) := by decide +kernel
theorem dX1_tell_0 : decode cX1_tell 0 = .ok (.aload_n 1, 1) := by decide +kernel
theorem dX1_tell_1 : decode cX1_tell 1 = .ok (.invokevirtual 19, 3) := by decide +kernel
theorem dX1_tell_4 : decode cX1_tell 4 = .ok (.aload_n 0, 1) := by decide +kernel
theorem dX1_tell_5 : decode cX1_tell 5 = .ok (.iconst 0, 1) := by decide +kernel
theorem dX1_tell_6 : decode cX1_tell 6 = .ok (.putfield 24, 3) := by decide +kernel
theorem dX1_tell_9 : decode cX1_tell 9 = .ok (.aload_n 0, 1) := by decide +kernel
theorem dX1_tell_10 : decode cX1_tell 10 = .ok (.iconst 0, 1) := by decide +kernel
theorem dX1_tell_11 : decode cX1_tell 11 = .ok (.putfield 27, 3) := by decide +kernel
theorem dX1_tell_14 : decode cX1_tell 14 = .ok (.aload_n 0, 1) := by decide +kernel
theorem dX1_tell_15 : decode cX1_tell 15 = .ok (.iconst 0, 1) := by decide +kernel
theorem dX1_tell_16 : decode cX1_tell 16 = .ok (.putfield 30, 3) := by decide +kernel
theorem dX1_tell_19 : decode cX1_tell 19 = .ok (.aload_n 0, 1) := by decide +kernel
theorem dX1_tell_20 : decode cX1_tell 20 = .ok (.iconst 0, 1) := by decide +kernel
theorem dX1_tell_21 : decode cX1_tell 21 = .ok (.putfield 33, 3) := by decide +kernel
theorem dX1_tell_24 : decode cX1_tell 24 = .ok (.aload_n 0, 1) := by decide +kernel
theorem dX1_tell_25 : decode cX1_tell 25 = .ok (.iconst 0, 1) := by decide +kernel
theorem dX1_tell_26 : decode cX1_tell 26 = .ok (.putfield 37, 3) := by decide +kernel
theorem dX1_tell_29 : decode cX1_tell 29 = .ok (.iconst 0, 1) := by decide +kernel
theorem dX1_tell_30 : decode cX1_tell 30 = .ok (.istore_n 2, 1) := by decide +kernel
theorem dX1_tell_31 : decode cX1_tell 31 = .ok (.aload_n 0, 1) := by decide +kernel
theorem dX1_tell_32 : decode cX1_tell 32 = .ok (.invokevirtual 40, 3) := by decide +kernel
theorem dX1_tell_35 : decode cX1_tell 35 = .ok (.iconst 0, 1) := by decide +kernel
theorem dX1_tell_36 : decode cX1_tell 36 = .ok (.istore_n 3, 1) := by decide +kernel
theorem dX1_tell_37 : decode cX1_tell 37 = .ok (.iload_n 3, 1) := by decide +kernel
theorem dX1_tell_38 : decode cX1_tell 38 = .ok (.sipush 160, 3) := by decide +kernel
theorem dX1_tell_41 : decode cX1_tell 41 = .ok (.if_icmp .ge 42, 3) := by decide +kernel
theorem dX1_tell_44 : decode cX1_tell 44 = .ok (.aload_n 0, 1) := by decide +kernel
theorem dX1_tell_45 : decode cX1_tell 45 = .ok (.invokevirtual 43, 3) := by decide +kernel
theorem dX1_tell_48 : decode cX1_tell 48 = .ok (.ifCond .eq 35, 3) := by decide +kernel
theorem dX1_tell_51 : decode cX1_tell 51 = .ok (.aload_n 0, 1) := by decide +kernel
theorem dX1_tell_52 : decode cX1_tell 52 = .ok (.getfield 47, 3) := by decide +kernel
theorem dX1_tell_55 : decode cX1_tell 55 = .ok (.ifCond .eq 28, 3) := by decide +kernel
theorem dX1_tell_58 : decode cX1_tell 58 = .ok (.aload_n 0, 1) := by decide +kernel
theorem dX1_tell_59 : decode cX1_tell 59 = .ok (.aload_n 1, 1) := by decide +kernel
theorem dX1_tell_60 : decode cX1_tell 60 = .ok (.invokevirtual 50, 3) := by decide +kernel
theorem dX1_tell_63 : decode cX1_tell 63 = .ok (.iinc 2 1, 3) := by decide +kernel
theorem dX1_tell_66 : decode cX1_tell 66 = .ok (.aload_n 0, 1) := by decide +kernel
theorem dX1_tell_67 : decode cX1_tell 67 = .ok (.invokevirtual 43, 3) := by decide +kernel
theorem dX1_tell_70 : decode cX1_tell 70 = .ok (.ifCond .eq 7, 3) := by decide +kernel
theorem dX1_tell_73 : decode cX1_tell 73 = .ok (.aload_n 0, 1) := by decide +kernel
theorem dX1_tell_74 : decode cX1_tell 74 = .ok (.invokevirtual 40, 3) := by decide +kernel
theorem dX1_tell_77 : decode cX1_tell 77 = .ok (.iinc 3 1, 3) := by decide +kernel
theorem dX1_tell_80 : decode cX1_tell 80 = .ok (.goto (-43), 3) := by decide +kernel
theorem dX1_tell_83 : decode cX1_tell 83 = .ok (.aload_n 0, 1) := by decide +kernel
theorem dX1_tell_84 : decode cX1_tell 84 = .ok (.invokevirtual 43, 3) := by decide +kernel
theorem dX1_tell_87 : decode cX1_tell 87 = .ok (.ifCond .eq 20, 3) := by decide +kernel
theorem dX1_tell_90 : decode cX1_tell 90 = .ok (.aload_n 1, 1) := by decide +kernel
theorem dX1_tell_91 : decode cX1_tell 91 = .ok (.invokevirtual 54, 3) := by decide +kernel
theorem dX1_tell_94 : decode cX1_tell 94 = .ok (.ifCond .ne 13, 3) := by decide +kernel
theorem dX1_tell_97 : decode cX1_tell 97 = .ok (.aload_n 0, 1) := by decide +kernel
theorem dX1_tell_98 : decode cX1_tell 98 = .ok (.bipush 6, 2) := by decide +kernel
theorem dX1_tell_100 : decode cX1_tell 100 = .ok (.aload_n 0, 1) := by decide +kernel
theorem dX1_tell_101 : decode cX1_tell 101 = .ok (.getfield 15, 3) := by decide +kernel
theorem dX1_tell_104 : decode cX1_tell 104 = .ok (.invokevirtual 57, 3) := by decide +kernel
theorem dX1_tell_107 : decode cX1_tell 107 = .ok (.iload_n 2, 1) := by decide +kernel
theorem dX1_tell_108 : decode cX1_tell 108 = .ok (.ireturn, 1) := by decide +kernel
theorem dX1_isGood_0 : decode cX1_isGood 0 = .ok (.aload_n 0, 1) := by decide +kernel
theorem dX1_isGood_1 : decode cX1_isGood 1 = .ok (.getfield 24, 3) := by decide +kernel
theorem dX1_isGood_4 : decode cX1_isGood 4 = .ok (.ifCond .ne 7, 3) := by decide +kernel
theorem dX1_isGood_7 : decode cX1_isGood 7 = .ok (.iconst 1, 1) := by decide +kernel
theorem dX1_isGood_8 : decode cX1_isGood 8 = .ok (.goto 4, 3) := by decide +kernel
theorem dX1_isGood_11 : decode cX1_isGood 11 = .ok (.iconst 0, 1) := by decide +kernel
theorem dX1_isGood_12 : decode cX1_isGood 12 = .ok (.ireturn, 1) := by decide +kernel
theorem dX1_fail_0 : decode cX1_fail 0 = .ok (.aload_n 0, 1) := by decide +kernel
theorem dX1_fail_1 : decode cX1_fail 1 = .ok (.iload_n 1, 1) := by decide +kernel
theorem dX1_fail_2 : decode cX1_fail 2 = .ok (.putfield 24, 3) := by decide +kernel
theorem dX1_fail_5 : decode cX1_fail 5 = .ok (.aload_n 0, 1) := by decide +kernel
theorem dX1_fail_6 : decode cX1_fail 6 = .ok (.iload_n 2, 1) := by decide +kernel
theorem dX1_fail_7 : decode cX1_fail 7 = .ok (.putfield 27, 3) := by decide +kernel
theorem dX1_fail_10 : decode cX1_fail 10 = .ok (.return_, 1) := by decide +kernel
theorem dX1_takeLine_0 : decode cX1_takeLine 0 = .ok (.aload_n 0, 1) := by decide +kernel
theorem dX1_takeLine_1 : decode cX1_takeLine 1 = .ok (.getfield 47, 3) := by decide +kernel
theorem dX1_takeLine_4 : decode cX1_takeLine 4 = .ok (.iconst 1, 1) := by decide +kernel
theorem dX1_takeLine_5 : decode cX1_takeLine 5 = .ok (.if_icmp .ne 10, 3) := by decide +kernel
theorem dX1_takeLine_8 : decode cX1_takeLine 8 = .ok (.aload_n 0, 1) := by decide +kernel
theorem dX1_takeLine_9 : decode cX1_takeLine 9 = .ok (.invokevirtual 61, 3) := by decide +kernel
theorem dX1_takeLine_12 : decode cX1_takeLine 12 = .ok (.goto 5, 3) := by decide +kernel
theorem dX1_takeLine_15 : decode cX1_takeLine 15 = .ok (.bipush 8, 2) := by decide +kernel
theorem dX1_takeLine_17 : decode cX1_takeLine 17 = .ok (.istore_n 2, 1) := by decide +kernel
theorem dX1_takeLine_18 : decode cX1_takeLine 18 = .ok (.iload_n 2, 1) := by decide +kernel
theorem dX1_takeLine_19 : decode cX1_takeLine 19 = .ok (.tableswitch 77 4 8 #[45, 53, 61, 69, 33], 33) := by decide +kernel
theorem dX1_takeLine_52 : decode cX1_takeLine 52 = .ok (.aload_n 0, 1) := by decide +kernel
theorem dX1_takeLine_53 : decode cX1_takeLine 53 = .ok (.iconst 2, 1) := by decide +kernel
theorem dX1_takeLine_54 : decode cX1_takeLine 54 = .ok (.aload_n 0, 1) := by decide +kernel
theorem dX1_takeLine_55 : decode cX1_takeLine 55 = .ok (.getfield 65, 3) := by decide +kernel
theorem dX1_takeLine_58 : decode cX1_takeLine 58 = .ok (.invokevirtual 57, 3) := by decide +kernel
theorem dX1_takeLine_61 : decode cX1_takeLine 61 = .ok (.goto 41, 3) := by decide +kernel
theorem dX1_takeLine_64 : decode cX1_takeLine 64 = .ok (.aload_n 0, 1) := by decide +kernel
theorem dX1_takeLine_65 : decode cX1_takeLine 65 = .ok (.aload_n 1, 1) := by decide +kernel
theorem dX1_takeLine_66 : decode cX1_takeLine 66 = .ok (.invokevirtual 68, 3) := by decide +kernel
theorem dX1_takeLine_69 : decode cX1_takeLine 69 = .ok (.goto 33, 3) := by decide +kernel
theorem dX1_takeLine_72 : decode cX1_takeLine 72 = .ok (.aload_n 0, 1) := by decide +kernel
theorem dX1_takeLine_73 : decode cX1_takeLine 73 = .ok (.aload_n 1, 1) := by decide +kernel
theorem dX1_takeLine_74 : decode cX1_takeLine 74 = .ok (.invokevirtual 71, 3) := by decide +kernel
theorem dX1_takeLine_77 : decode cX1_takeLine 77 = .ok (.goto 25, 3) := by decide +kernel
theorem dX1_takeLine_80 : decode cX1_takeLine 80 = .ok (.aload_n 0, 1) := by decide +kernel
theorem dX1_takeLine_81 : decode cX1_takeLine 81 = .ok (.aload_n 1, 1) := by decide +kernel
theorem dX1_takeLine_82 : decode cX1_takeLine 82 = .ok (.invokevirtual 74, 3) := by decide +kernel
theorem dX1_takeLine_85 : decode cX1_takeLine 85 = .ok (.goto 17, 3) := by decide +kernel
theorem dX1_takeLine_88 : decode cX1_takeLine 88 = .ok (.aload_n 0, 1) := by decide +kernel
theorem dX1_takeLine_89 : decode cX1_takeLine 89 = .ok (.aload_n 1, 1) := by decide +kernel
theorem dX1_takeLine_90 : decode cX1_takeLine 90 = .ok (.invokevirtual 77, 3) := by decide +kernel
theorem dX1_takeLine_93 : decode cX1_takeLine 93 = .ok (.goto 9, 3) := by decide +kernel
theorem dX1_takeLine_96 : decode cX1_takeLine 96 = .ok (.aload_n 0, 1) := by decide +kernel
theorem dX1_takeLine_97 : decode cX1_takeLine 97 = .ok (.aload_n 1, 1) := by decide +kernel
theorem dX1_takeLine_98 : decode cX1_takeLine 98 = .ok (.iload_n 2, 1) := by decide +kernel
theorem dX1_takeLine_99 : decode cX1_takeLine 99 = .ok (.invokevirtual 80, 3) := by decide +kernel
theorem dX1_takeLine_102 : decode cX1_takeLine 102 = .ok (.return_, 1) := by decide +kernel
theorem dX1_takeMan_0 : decode cX1_takeMan 0 = .ok (.aload_n 1, 1) := by decide +kernel
theorem dX1_takeMan_1 : decode cX1_takeMan 1 = .ok (.getfield 84, 3) := by decide +kernel
theorem dX1_takeMan_4 : decode cX1_takeMan 4 = .ok (.iconst 4, 1) := by decide +kernel
theorem dX1_takeMan_5 : decode cX1_takeMan 5 = .ok (.if_icmp .lt 13, 3) := by decide +kernel
theorem dX1_takeMan_8 : decode cX1_takeMan 8 = .ok (.aload_n 0, 1) := by decide +kernel
theorem dX1_takeMan_9 : decode cX1_takeMan 9 = .ok (.iconst 5, 1) := by decide +kernel
theorem dX1_takeMan_10 : decode cX1_takeMan 10 = .ok (.aload_n 0, 1) := by decide +kernel
theorem dX1_takeMan_11 : decode cX1_takeMan 11 = .ok (.getfield 65, 3) := by decide +kernel
theorem dX1_takeMan_14 : decode cX1_takeMan 14 = .ok (.invokevirtual 57, 3) := by decide +kernel
theorem dX1_takeMan_17 : decode cX1_takeMan 17 = .ok (.return_, 1) := by decide +kernel
theorem dX1_takeMan_18 : decode cX1_takeMan 18 = .ok (.aload_n 0, 1) := by decide +kernel
theorem dX1_takeMan_19 : decode cX1_takeMan 19 = .ok (.iconst 0, 1) := by decide +kernel
theorem dX1_takeMan_20 : decode cX1_takeMan 20 = .ok (.bipush 6, 2) := by decide +kernel
theorem dX1_takeMan_22 : decode cX1_takeMan 22 = .ok (.invokevirtual 87, 3) := by decide +kernel
theorem dX1_takeMan_25 : decode cX1_takeMan 25 = .ok (.istore_n 3, 1) := by decide +kernel
theorem dX1_takeMan_26 : decode cX1_takeMan 26 = .ok (.aload_n 0, 1) := by decide +kernel
theorem dX1_takeMan_27 : decode cX1_takeMan 27 = .ok (.invokevirtual 43, 3) := by decide +kernel
theorem dX1_takeMan_30 : decode cX1_takeMan 30 = .ok (.ifCond .eq 14, 3) := by decide +kernel
theorem dX1_takeMan_33 : decode cX1_takeMan 33 = .ok (.aload_n 1, 1) := by decide +kernel
theorem dX1_takeMan_34 : decode cX1_takeMan 34 = .ok (.iload_n 2, 1) := by decide +kernel
theorem dX1_takeMan_35 : decode cX1_takeMan 35 = .ok (.iload_n 3, 1) := by decide +kernel
theorem dX1_takeMan_36 : decode cX1_takeMan 36 = .ok (.invokevirtual 91, 3) := by decide +kernel
theorem dX1_takeMan_39 : decode cX1_takeMan 39 = .ok (.pop, 1) := by decide +kernel
theorem dX1_takeMan_40 : decode cX1_takeMan 40 = .ok (.aload_n 0, 1) := by decide +kernel
theorem dX1_takeMan_41 : decode cX1_takeMan 41 = .ok (.invokevirtual 95, 3) := by decide +kernel
theorem dX1_takeMan_44 : decode cX1_takeMan 44 = .ok (.return_, 1) := by decide +kernel
theorem dX1_takeRota_0 : decode cX1_takeRota 0 = .ok (.aload_n 0, 1) := by decide +kernel
theorem dX1_takeRota_1 : decode cX1_takeRota 1 = .ok (.getfield 33, 3) := by decide +kernel
theorem dX1_takeRota_4 : decode cX1_takeRota 4 = .ok (.ifCond .eq 13, 3) := by decide +kernel
theorem dX1_takeRota_7 : decode cX1_takeRota 7 = .ok (.aload_n 0, 1) := by decide +kernel
theorem dX1_takeRota_8 : decode cX1_takeRota 8 = .ok (.iconst 4, 1) := by decide +kernel
theorem dX1_takeRota_9 : decode cX1_takeRota 9 = .ok (.aload_n 0, 1) := by decide +kernel
theorem dX1_takeRota_10 : decode cX1_takeRota 10 = .ok (.getfield 65, 3) := by decide +kernel
theorem dX1_takeRota_13 : decode cX1_takeRota 13 = .ok (.invokevirtual 57, 3) := by decide +kernel
theorem dX1_takeRota_16 : decode cX1_takeRota 16 = .ok (.return_, 1) := by decide +kernel
theorem dX1_takeRota_17 : decode cX1_takeRota 17 = .ok (.aload_n 0, 1) := by decide +kernel
theorem dX1_takeRota_18 : decode cX1_takeRota 18 = .ok (.iconst 1, 1) := by decide +kernel
theorem dX1_takeRota_19 : decode cX1_takeRota 19 = .ok (.putfield 33, 3) := by decide +kernel
theorem dX1_takeRota_22 : decode cX1_takeRota 22 = .ok (.iconst 0, 1) := by decide +kernel
theorem dX1_takeRota_23 : decode cX1_takeRota 23 = .ok (.istore_n 2, 1) := by decide +kernel
theorem dX1_takeRota_24 : decode cX1_takeRota 24 = .ok (.iload_n 2, 1) := by decide +kernel
theorem dX1_takeRota_25 : decode cX1_takeRota 25 = .ok (.bipush 12, 2) := by decide +kernel
theorem dX1_takeRota_27 : decode cX1_takeRota 27 = .ok (.if_icmp .gt 92, 3) := by decide +kernel
theorem dX1_takeRota_30 : decode cX1_takeRota 30 = .ok (.aload_n 0, 1) := by decide +kernel
theorem dX1_takeRota_31 : decode cX1_takeRota 31 = .ok (.invokevirtual 40, 3) := by decide +kernel
theorem dX1_takeRota_34 : decode cX1_takeRota 34 = .ok (.aload_n 0, 1) := by decide +kernel
theorem dX1_takeRota_35 : decode cX1_takeRota 35 = .ok (.invokevirtual 43, 3) := by decide +kernel
theorem dX1_takeRota_38 : decode cX1_takeRota 38 = .ok (.ifCond .eq 11, 3) := by decide +kernel
theorem dX1_takeRota_41 : decode cX1_takeRota 41 = .ok (.aload_n 0, 1) := by decide +kernel
theorem dX1_takeRota_42 : decode cX1_takeRota 42 = .ok (.getfield 47, 3) := by decide +kernel
theorem dX1_takeRota_45 : decode cX1_takeRota 45 = .ok (.iconst 3, 1) := by decide +kernel
theorem dX1_takeRota_46 : decode cX1_takeRota 46 = .ok (.if_icmp .ne 4, 3) := by decide +kernel
theorem dX1_takeRota_49 : decode cX1_takeRota 49 = .ok (.return_, 1) := by decide +kernel
theorem dX1_takeRota_50 : decode cX1_takeRota 50 = .ok (.iload_n 2, 1) := by decide +kernel
theorem dX1_takeRota_51 : decode cX1_takeRota 51 = .ok (.bipush 12, 2) := by decide +kernel
theorem dX1_takeRota_53 : decode cX1_takeRota 53 = .ok (.if_icmp .ne 24, 3) := by decide +kernel
theorem dX1_takeRota_56 : decode cX1_takeRota 56 = .ok (.aload_n 0, 1) := by decide +kernel
theorem dX1_takeRota_57 : decode cX1_takeRota 57 = .ok (.aload_n 0, 1) := by decide +kernel
theorem dX1_takeRota_58 : decode cX1_takeRota 58 = .ok (.getfield 47, 3) := by decide +kernel
theorem dX1_takeRota_61 : decode cX1_takeRota 61 = .ok (.ifCond .ne 7, 3) := by decide +kernel
theorem dX1_takeRota_64 : decode cX1_takeRota 64 = .ok (.iconst 2, 1) := by decide +kernel
theorem dX1_takeRota_65 : decode cX1_takeRota 65 = .ok (.goto 4, 3) := by decide +kernel
theorem dX1_takeRota_68 : decode cX1_takeRota 68 = .ok (.iconst 5, 1) := by decide +kernel
theorem dX1_takeRota_69 : decode cX1_takeRota 69 = .ok (.aload_n 0, 1) := by decide +kernel
theorem dX1_takeRota_70 : decode cX1_takeRota 70 = .ok (.getfield 65, 3) := by decide +kernel
theorem dX1_takeRota_73 : decode cX1_takeRota 73 = .ok (.invokevirtual 57, 3) := by decide +kernel
theorem dX1_takeRota_76 : decode cX1_takeRota 76 = .ok (.return_, 1) := by decide +kernel
theorem dX1_takeRota_77 : decode cX1_takeRota 77 = .ok (.aload_n 0, 1) := by decide +kernel
theorem dX1_takeRota_78 : decode cX1_takeRota 78 = .ok (.iconst 0, 1) := by decide +kernel
theorem dX1_takeRota_79 : decode cX1_takeRota 79 = .ok (.iconst 4, 1) := by decide +kernel
theorem dX1_takeRota_80 : decode cX1_takeRota 80 = .ok (.invokevirtual 98, 3) := by decide +kernel
theorem dX1_takeRota_83 : decode cX1_takeRota 83 = .ok (.aload_n 0, 1) := by decide +kernel
theorem dX1_takeRota_84 : decode cX1_takeRota 84 = .ok (.invokevirtual 43, 3) := by decide +kernel
theorem dX1_takeRota_87 : decode cX1_takeRota 87 = .ok (.ifCond .ne 4, 3) := by decide +kernel
theorem dX1_takeRota_90 : decode cX1_takeRota 90 = .ok (.return_, 1) := by decide +kernel
theorem dX1_takeRota_91 : decode cX1_takeRota 91 = .ok (.aload_n 1, 1) := by decide +kernel
theorem dX1_takeRota_92 : decode cX1_takeRota 92 = .ok (.iload_n 2, 1) := by decide +kernel
theorem dX1_takeRota_93 : decode cX1_takeRota 93 = .ok (.aload_n 0, 1) := by decide +kernel
theorem dX1_takeRota_94 : decode cX1_takeRota 94 = .ok (.getfield 101, 3) := by decide +kernel
theorem dX1_takeRota_97 : decode cX1_takeRota 97 = .ok (.iconst 4, 1) := by decide +kernel
theorem dX1_takeRota_98 : decode cX1_takeRota 98 = .ok (.if_icmp .ne 8, 3) := by decide +kernel
theorem dX1_takeRota_101 : decode cX1_takeRota 101 = .ok (.bipush (-4), 2) := by decide +kernel
theorem dX1_takeRota_103 : decode cX1_takeRota 103 = .ok (.goto 7, 3) := by decide +kernel
theorem dX1_takeRota_106 : decode cX1_takeRota 106 = .ok (.aload_n 0, 1) := by decide +kernel
theorem dX1_takeRota_107 : decode cX1_takeRota 107 = .ok (.getfield 101, 3) := by decide +kernel
theorem dX1_takeRota_110 : decode cX1_takeRota 110 = .ok (.invokevirtual 104, 3) := by decide +kernel
theorem dX1_takeRota_113 : decode cX1_takeRota 113 = .ok (.iinc 2 1, 3) := by decide +kernel
theorem dX1_takeRota_116 : decode cX1_takeRota 116 = .ok (.goto (-92), 3) := by decide +kernel
theorem dX1_takeRota_119 : decode cX1_takeRota 119 = .ok (.return_, 1) := by decide +kernel
theorem dX1_takeCloud_0 : decode cX1_takeCloud 0 = .ok (.aload_n 0, 1) := by decide +kernel
theorem dX1_takeCloud_1 : decode cX1_takeCloud 1 = .ok (.iconst 0, 1) := by decide +kernel
theorem dX1_takeCloud_2 : decode cX1_takeCloud 2 = .ok (.bipush 11, 2) := by decide +kernel
theorem dX1_takeCloud_4 : decode cX1_takeCloud 4 = .ok (.invokevirtual 87, 3) := by decide +kernel
theorem dX1_takeCloud_7 : decode cX1_takeCloud 7 = .ok (.istore_n 2, 1) := by decide +kernel
theorem dX1_takeCloud_8 : decode cX1_takeCloud 8 = .ok (.aload_n 0, 1) := by decide +kernel
theorem dX1_takeCloud_9 : decode cX1_takeCloud 9 = .ok (.invokevirtual 43, 3) := by decide +kernel
theorem dX1_takeCloud_12 : decode cX1_takeCloud 12 = .ok (.ifCond .ne 4, 3) := by decide +kernel
theorem dX1_takeCloud_15 : decode cX1_takeCloud 15 = .ok (.return_, 1) := by decide +kernel
theorem dX1_takeCloud_16 : decode cX1_takeCloud 16 = .ok (.aload_n 1, 1) := by decide +kernel
theorem dX1_takeCloud_17 : decode cX1_takeCloud 17 = .ok (.iload_n 2, 1) := by decide +kernel
theorem dX1_takeCloud_18 : decode cX1_takeCloud 18 = .ok (.invokevirtual 107, 3) := by decide +kernel
theorem dX1_takeCloud_21 : decode cX1_takeCloud 21 = .ok (.ifCond .eq 13, 3) := by decide +kernel
theorem dX1_takeCloud_24 : decode cX1_takeCloud 24 = .ok (.aload_n 0, 1) := by decide +kernel
theorem dX1_takeCloud_25 : decode cX1_takeCloud 25 = .ok (.iconst 4, 1) := by decide +kernel
theorem dX1_takeCloud_26 : decode cX1_takeCloud 26 = .ok (.aload_n 0, 1) := by decide +kernel
theorem dX1_takeCloud_27 : decode cX1_takeCloud 27 = .ok (.getfield 65, 3) := by decide +kernel
theorem dX1_takeCloud_30 : decode cX1_takeCloud 30 = .ok (.invokevirtual 57, 3) := by decide +kernel
theorem dX1_takeCloud_33 : decode cX1_takeCloud 33 = .ok (.return_, 1) := by decide +kernel
theorem dX1_takeCloud_34 : decode cX1_takeCloud 34 = .ok (.aload_n 1, 1) := by decide +kernel
theorem dX1_takeCloud_35 : decode cX1_takeCloud 35 = .ok (.iload_n 2, 1) := by decide +kernel
theorem dX1_takeCloud_36 : decode cX1_takeCloud 36 = .ok (.iconst 1, 1) := by decide +kernel
theorem dX1_takeCloud_37 : decode cX1_takeCloud 37 = .ok (.invokevirtual 111, 3) := by decide +kernel
theorem dX1_takeCloud_40 : decode cX1_takeCloud 40 = .ok (.aload_n 0, 1) := by decide +kernel
theorem dX1_takeCloud_41 : decode cX1_takeCloud 41 = .ok (.invokevirtual 95, 3) := by decide +kernel
theorem dX1_takeCloud_44 : decode cX1_takeCloud 44 = .ok (.return_, 1) := by decide +kernel
theorem dX1_takePaint_0 : decode cX1_takePaint 0 = .ok (.aload_n 0, 1) := by decide +kernel
theorem dX1_takePaint_1 : decode cX1_takePaint 1 = .ok (.getfield 37, 3) := by decide +kernel
theorem dX1_takePaint_4 : decode cX1_takePaint 4 = .ok (.ifCond .eq 13, 3) := by decide +kernel
theorem dX1_takePaint_7 : decode cX1_takePaint 7 = .ok (.aload_n 0, 1) := by decide +kernel
theorem dX1_takePaint_8 : decode cX1_takePaint 8 = .ok (.iconst 4, 1) := by decide +kernel
theorem dX1_takePaint_9 : decode cX1_takePaint 9 = .ok (.aload_n 0, 1) := by decide +kernel
theorem dX1_takePaint_10 : decode cX1_takePaint 10 = .ok (.getfield 65, 3) := by decide +kernel
theorem dX1_takePaint_13 : decode cX1_takePaint 13 = .ok (.invokevirtual 57, 3) := by decide +kernel
theorem dX1_takePaint_16 : decode cX1_takePaint 16 = .ok (.return_, 1) := by decide +kernel
theorem dX1_takePaint_17 : decode cX1_takePaint 17 = .ok (.aload_n 0, 1) := by decide +kernel
theorem dX1_takePaint_18 : decode cX1_takePaint 18 = .ok (.iconst 1, 1) := by decide +kernel
theorem dX1_takePaint_19 : decode cX1_takePaint 19 = .ok (.putfield 37, 3) := by decide +kernel
theorem dX1_takePaint_22 : decode cX1_takePaint 22 = .ok (.aload_n 0, 1) := by decide +kernel
theorem dX1_takePaint_23 : decode cX1_takePaint 23 = .ok (.iconst 0, 1) := by decide +kernel
theorem dX1_takePaint_24 : decode cX1_takePaint 24 = .ok (.bipush 6, 2) := by decide +kernel
theorem dX1_takePaint_26 : decode cX1_takePaint 26 = .ok (.invokevirtual 87, 3) := by decide +kernel
theorem dX1_takePaint_29 : decode cX1_takePaint 29 = .ok (.istore_n 2, 1) := by decide +kernel
theorem dX1_takePaint_30 : decode cX1_takePaint 30 = .ok (.aload_n 0, 1) := by decide +kernel
theorem dX1_takePaint_31 : decode cX1_takePaint 31 = .ok (.invokevirtual 43, 3) := by decide +kernel
theorem dX1_takePaint_34 : decode cX1_takePaint 34 = .ok (.ifCond .eq 12, 3) := by decide +kernel
theorem dX1_takePaint_37 : decode cX1_takePaint 37 = .ok (.aload_n 1, 1) := by decide +kernel
theorem dX1_takePaint_38 : decode cX1_takePaint 38 = .ok (.iload_n 2, 1) := by decide +kernel
theorem dX1_takePaint_39 : decode cX1_takePaint 39 = .ok (.invokevirtual 115, 3) := by decide +kernel
theorem dX1_takePaint_42 : decode cX1_takePaint 42 = .ok (.aload_n 0, 1) := by decide +kernel
theorem dX1_takePaint_43 : decode cX1_takePaint 43 = .ok (.invokevirtual 95, 3) := by decide +kernel
theorem dX1_takePaint_46 : decode cX1_takePaint 46 = .ok (.return_, 1) := by decide +kernel
theorem dX1_takeDeed_0 : decode cX1_takeDeed 0 = .ok (.aload_n 1, 1) := by decide +kernel
theorem dX1_takeDeed_1 : decode cX1_takeDeed 1 = .ok (.getfield 119, 3) := by decide +kernel
theorem dX1_takeDeed_4 : decode cX1_takeDeed 4 = .ok (.iconst 5, 1) := by decide +kernel
theorem dX1_takeDeed_5 : decode cX1_takeDeed 5 = .ok (.if_icmp .lt 13, 3) := by decide +kernel
theorem dX1_takeDeed_8 : decode cX1_takeDeed 8 = .ok (.aload_n 0, 1) := by decide +kernel
theorem dX1_takeDeed_9 : decode cX1_takeDeed 9 = .ok (.iconst 5, 1) := by decide +kernel
theorem dX1_takeDeed_10 : decode cX1_takeDeed 10 = .ok (.aload_n 0, 1) := by decide +kernel
theorem dX1_takeDeed_11 : decode cX1_takeDeed 11 = .ok (.getfield 65, 3) := by decide +kernel
theorem dX1_takeDeed_14 : decode cX1_takeDeed 14 = .ok (.invokevirtual 57, 3) := by decide +kernel
theorem dX1_takeDeed_17 : decode cX1_takeDeed 17 = .ok (.return_, 1) := by decide +kernel
theorem dX1_takeDeed_18 : decode cX1_takeDeed 18 = .ok (.aload_n 0, 1) := by decide +kernel
theorem dX1_takeDeed_19 : decode cX1_takeDeed 19 = .ok (.iconst 0, 1) := by decide +kernel
theorem dX1_takeDeed_20 : decode cX1_takeDeed 20 = .ok (.bipush 47, 2) := by decide +kernel
theorem dX1_takeDeed_22 : decode cX1_takeDeed 22 = .ok (.invokevirtual 87, 3) := by decide +kernel
theorem dX1_takeDeed_25 : decode cX1_takeDeed 25 = .ok (.istore_n 2, 1) := by decide +kernel
theorem dX1_takeDeed_26 : decode cX1_takeDeed 26 = .ok (.aload_n 0, 1) := by decide +kernel
theorem dX1_takeDeed_27 : decode cX1_takeDeed 27 = .ok (.invokevirtual 43, 3) := by decide +kernel
theorem dX1_takeDeed_30 : decode cX1_takeDeed 30 = .ok (.ifCond .ne 4, 3) := by decide +kernel
theorem dX1_takeDeed_33 : decode cX1_takeDeed 33 = .ok (.return_, 1) := by decide +kernel
theorem dX1_takeDeed_34 : decode cX1_takeDeed 34 = .ok (.aload_n 0, 1) := by decide +kernel
theorem dX1_takeDeed_35 : decode cX1_takeDeed 35 = .ok (.iconst 1, 1) := by decide +kernel
theorem dX1_takeDeed_36 : decode cX1_takeDeed 36 = .ok (.bipush 9, 2) := by decide +kernel
theorem dX1_takeDeed_38 : decode cX1_takeDeed 38 = .ok (.invokevirtual 87, 3) := by decide +kernel
theorem dX1_takeDeed_41 : decode cX1_takeDeed 41 = .ok (.istore_n 3, 1) := by decide +kernel
theorem dX1_takeDeed_42 : decode cX1_takeDeed 42 = .ok (.aload_n 0, 1) := by decide +kernel
theorem dX1_takeDeed_43 : decode cX1_takeDeed 43 = .ok (.invokevirtual 43, 3) := by decide +kernel
theorem dX1_takeDeed_46 : decode cX1_takeDeed 46 = .ok (.ifCond .eq 14, 3) := by decide +kernel
theorem dX1_takeDeed_49 : decode cX1_takeDeed 49 = .ok (.aload_n 1, 1) := by decide +kernel
theorem dX1_takeDeed_50 : decode cX1_takeDeed 50 = .ok (.iload_n 2, 1) := by decide +kernel
theorem dX1_takeDeed_51 : decode cX1_takeDeed 51 = .ok (.iload_n 3, 1) := by decide +kernel
theorem dX1_takeDeed_52 : decode cX1_takeDeed 52 = .ok (.invokevirtual 122, 3) := by decide +kernel
theorem dX1_takeDeed_55 : decode cX1_takeDeed 55 = .ok (.pop, 1) := by decide +kernel
theorem dX1_takeDeed_56 : decode cX1_takeDeed 56 = .ok (.aload_n 0, 1) := by decide +kernel
theorem dX1_takeDeed_57 : decode cX1_takeDeed 57 = .ok (.invokevirtual 95, 3) := by decide +kernel
theorem dX1_takeDeed_60 : decode cX1_takeDeed 60 = .ok (.return_, 1) := by decide +kernel
theorem dX1_takeNumber_0 : decode cX1_takeNumber 0 = .ok (.aload_n 0, 1) := by decide +kernel
theorem dX1_takeNumber_1 : decode cX1_takeNumber 1 = .ok (.invokevirtual 40, 3) := by decide +kernel
theorem dX1_takeNumber_4 : decode cX1_takeNumber 4 = .ok (.aload_n 0, 1) := by decide +kernel
theorem dX1_takeNumber_5 : decode cX1_takeNumber 5 = .ok (.invokevirtual 43, 3) := by decide +kernel
theorem dX1_takeNumber_8 : decode cX1_takeNumber 8 = .ok (.ifCond .eq 9, 3) := by decide +kernel
theorem dX1_takeNumber_11 : decode cX1_takeNumber 11 = .ok (.aload_n 0, 1) := by decide +kernel
theorem dX1_takeNumber_12 : decode cX1_takeNumber 12 = .ok (.iload_n 1, 1) := by decide +kernel
theorem dX1_takeNumber_13 : decode cX1_takeNumber 13 = .ok (.iload_n 2, 1) := by decide +kernel
theorem dX1_takeNumber_14 : decode cX1_takeNumber 14 = .ok (.invokevirtual 98, 3) := by decide +kernel
theorem dX1_takeNumber_17 : decode cX1_takeNumber 17 = .ok (.aload_n 0, 1) := by decide +kernel
theorem dX1_takeNumber_18 : decode cX1_takeNumber 18 = .ok (.invokevirtual 43, 3) := by decide +kernel
theorem dX1_takeNumber_21 : decode cX1_takeNumber 21 = .ok (.ifCond .eq 10, 3) := by decide +kernel
theorem dX1_takeNumber_24 : decode cX1_takeNumber 24 = .ok (.aload_n 0, 1) := by decide +kernel
theorem dX1_takeNumber_25 : decode cX1_takeNumber 25 = .ok (.getfield 101, 3) := by decide +kernel
theorem dX1_takeNumber_28 : decode cX1_takeNumber 28 = .ok (.goto 4, 3) := by decide +kernel
theorem dX1_takeNumber_31 : decode cX1_takeNumber 31 = .ok (.iconst 0, 1) := by decide +kernel
theorem dX1_takeNumber_32 : decode cX1_takeNumber 32 = .ok (.ireturn, 1) := by decide +kernel
theorem dX1_judgeNumber_0 : decode cX1_judgeNumber 0 = .ok (.aload_n 0, 1) := by decide +kernel
theorem dX1_judgeNumber_1 : decode cX1_judgeNumber 1 = .ok (.getfield 47, 3) := by decide +kernel
theorem dX1_judgeNumber_4 : decode cX1_judgeNumber 4 = .ok (.iconst 2, 1) := by decide +kernel
theorem dX1_judgeNumber_5 : decode cX1_judgeNumber 5 = .ok (.if_icmp .eq 15, 3) := by decide +kernel
theorem dX1_judgeNumber_8 : decode cX1_judgeNumber 8 = .ok (.aload_n 0, 1) := by decide +kernel
theorem dX1_judgeNumber_9 : decode cX1_judgeNumber 9 = .ok (.iconst 2, 1) := by decide +kernel
theorem dX1_judgeNumber_10 : decode cX1_judgeNumber 10 = .ok (.aload_n 0, 1) := by decide +kernel
theorem dX1_judgeNumber_11 : decode cX1_judgeNumber 11 = .ok (.getfield 65, 3) := by decide +kernel
theorem dX1_judgeNumber_14 : decode cX1_judgeNumber 14 = .ok (.invokevirtual 57, 3) := by decide +kernel
theorem dX1_judgeNumber_17 : decode cX1_judgeNumber 17 = .ok (.goto 28, 3) := by decide +kernel
theorem dX1_judgeNumber_20 : decode cX1_judgeNumber 20 = .ok (.aload_n 0, 1) := by decide +kernel
theorem dX1_judgeNumber_21 : decode cX1_judgeNumber 21 = .ok (.getfield 101, 3) := by decide +kernel
theorem dX1_judgeNumber_24 : decode cX1_judgeNumber 24 = .ok (.iload_n 1, 1) := by decide +kernel
theorem dX1_judgeNumber_25 : decode cX1_judgeNumber 25 = .ok (.if_icmp .lt 11, 3) := by decide +kernel
theorem dX1_judgeNumber_28 : decode cX1_judgeNumber 28 = .ok (.aload_n 0, 1) := by decide +kernel
theorem dX1_judgeNumber_29 : decode cX1_judgeNumber 29 = .ok (.getfield 101, 3) := by decide +kernel
theorem dX1_judgeNumber_32 : decode cX1_judgeNumber 32 = .ok (.iload_n 2, 1) := by decide +kernel
theorem dX1_judgeNumber_33 : decode cX1_judgeNumber 33 = .ok (.if_icmp .le 12, 3) := by decide +kernel
theorem dX1_judgeNumber_36 : decode cX1_judgeNumber 36 = .ok (.aload_n 0, 1) := by decide +kernel
theorem dX1_judgeNumber_37 : decode cX1_judgeNumber 37 = .ok (.iconst 3, 1) := by decide +kernel
theorem dX1_judgeNumber_38 : decode cX1_judgeNumber 38 = .ok (.aload_n 0, 1) := by decide +kernel
theorem dX1_judgeNumber_39 : decode cX1_judgeNumber 39 = .ok (.getfield 65, 3) := by decide +kernel
theorem dX1_judgeNumber_42 : decode cX1_judgeNumber 42 = .ok (.invokevirtual 57, 3) := by decide +kernel
theorem dX1_judgeNumber_45 : decode cX1_judgeNumber 45 = .ok (.return_, 1) := by decide +kernel
theorem dX1_takeStop_0 : decode cX1_takeStop 0 = .ok (.aload_n 0, 1) := by decide +kernel
theorem dX1_takeStop_1 : decode cX1_takeStop 1 = .ok (.invokevirtual 40, 3) := by decide +kernel
theorem dX1_takeStop_4 : decode cX1_takeStop 4 = .ok (.aload_n 0, 1) := by decide +kernel
theorem dX1_takeStop_5 : decode cX1_takeStop 5 = .ok (.invokevirtual 43, 3) := by decide +kernel
theorem dX1_takeStop_8 : decode cX1_takeStop 8 = .ok (.ifCond .eq 20, 3) := by decide +kernel
theorem dX1_takeStop_11 : decode cX1_takeStop 11 = .ok (.aload_n 0, 1) := by decide +kernel
theorem dX1_takeStop_12 : decode cX1_takeStop 12 = .ok (.getfield 47, 3) := by decide +kernel
theorem dX1_takeStop_15 : decode cX1_takeStop 15 = .ok (.iconst 3, 1) := by decide +kernel
theorem dX1_takeStop_16 : decode cX1_takeStop 16 = .ok (.if_icmp .eq 12, 3) := by decide +kernel
theorem dX1_takeStop_19 : decode cX1_takeStop 19 = .ok (.aload_n 0, 1) := by decide +kernel
theorem dX1_takeStop_20 : decode cX1_takeStop 20 = .ok (.iconst 2, 1) := by decide +kernel
theorem dX1_takeStop_21 : decode cX1_takeStop 21 = .ok (.aload_n 0, 1) := by decide +kernel
theorem dX1_takeStop_22 : decode cX1_takeStop 22 = .ok (.getfield 65, 3) := by decide +kernel
theorem dX1_takeStop_25 : decode cX1_takeStop 25 = .ok (.invokevirtual 57, 3) := by decide +kernel
theorem dX1_takeStop_28 : decode cX1_takeStop 28 = .ok (.return_, 1) := by decide +kernel
theorem dX1_next_0 : decode cX1_next 0 = .ok (.aload_n 0, 1) := by decide +kernel
theorem dX1_next_1 : decode cX1_next 1 = .ok (.aload_n 0, 1) := by decide +kernel
theorem dX1_next_2 : decode cX1_next 2 = .ok (.aload_n 0, 1) := by decide +kernel
theorem dX1_next_3 : decode cX1_next 3 = .ok (.getfield 30, 3) := by decide +kernel
theorem dX1_next_6 : decode cX1_next 6 = .ok (.invokevirtual 125, 3) := by decide +kernel
theorem dX1_next_9 : decode cX1_next 9 = .ok (.putfield 65, 3) := by decide +kernel
theorem dX1_next_12 : decode cX1_next 12 = .ok (.aload_n 0, 1) := by decide +kernel
theorem dX1_next_13 : decode cX1_next 13 = .ok (.aload_n 0, 1) := by decide +kernel
theorem dX1_next_14 : decode cX1_next 14 = .ok (.getfield 65, 3) := by decide +kernel
theorem dX1_next_17 : decode cX1_next 17 = .ok (.putfield 30, 3) := by decide +kernel
theorem dX1_next_20 : decode cX1_next 20 = .ok (.aload_n 0, 1) := by decide +kernel
theorem dX1_next_21 : decode cX1_next 21 = .ok (.getfield 65, 3) := by decide +kernel
theorem dX1_next_24 : decode cX1_next 24 = .ok (.aload_n 0, 1) := by decide +kernel
theorem dX1_next_25 : decode cX1_next 25 = .ok (.getfield 15, 3) := by decide +kernel
theorem dX1_next_28 : decode cX1_next 28 = .ok (.if_icmp .lt 9, 3) := by decide +kernel
theorem dX1_next_31 : decode cX1_next 31 = .ok (.aload_n 0, 1) := by decide +kernel
theorem dX1_next_32 : decode cX1_next 32 = .ok (.iconst 0, 1) := by decide +kernel
theorem dX1_next_33 : decode cX1_next 33 = .ok (.putfield 47, 3) := by decide +kernel
theorem dX1_next_36 : decode cX1_next 36 = .ok (.return_, 1) := by decide +kernel
theorem dX1_next_37 : decode cX1_next 37 = .ok (.aload_n 0, 1) := by decide +kernel
theorem dX1_next_38 : decode cX1_next 38 = .ok (.getfield 11, 3) := by decide +kernel
theorem dX1_next_41 : decode cX1_next 41 = .ok (.aload_n 0, 1) := by decide +kernel
theorem dX1_next_42 : decode cX1_next 42 = .ok (.getfield 65, 3) := by decide +kernel
theorem dX1_next_45 : decode cX1_next 45 = .ok (.baload, 1) := by decide +kernel
theorem dX1_next_46 : decode cX1_next 46 = .ok (.istore_n 1, 1) := by decide +kernel
theorem dX1_next_47 : decode cX1_next 47 = .ok (.iload_n 1, 1) := by decide +kernel
theorem dX1_next_48 : decode cX1_next 48 = .ok (.bipush 59, 2) := by decide +kernel
theorem dX1_next_50 : decode cX1_next 50 = .ok (.if_icmp .ne 21, 3) := by decide +kernel
theorem dX1_next_53 : decode cX1_next 53 = .ok (.aload_n 0, 1) := by decide +kernel
theorem dX1_next_54 : decode cX1_next 54 = .ok (.iconst 3, 1) := by decide +kernel
theorem dX1_next_55 : decode cX1_next 55 = .ok (.putfield 47, 3) := by decide +kernel
theorem dX1_next_58 : decode cX1_next 58 = .ok (.aload_n 0, 1) := by decide +kernel
theorem dX1_next_59 : decode cX1_next 59 = .ok (.aload_n 0, 1) := by decide +kernel
theorem dX1_next_60 : decode cX1_next 60 = .ok (.getfield 65, 3) := by decide +kernel
theorem dX1_next_63 : decode cX1_next 63 = .ok (.iconst 1, 1) := by decide +kernel
theorem dX1_next_64 : decode cX1_next 64 = .ok (.iadd, 1) := by decide +kernel
theorem dX1_next_65 : decode cX1_next 65 = .ok (.putfield 30, 3) := by decide +kernel
theorem dX1_next_68 : decode cX1_next 68 = .ok (.goto 62, 3) := by decide +kernel
theorem dX1_next_71 : decode cX1_next 71 = .ok (.iload_n 1, 1) := by decide +kernel
theorem dX1_next_72 : decode cX1_next 72 = .ok (.invokestatic 129, 3) := by decide +kernel
theorem dX1_next_75 : decode cX1_next 75 = .ok (.ifCond .eq 23, 3) := by decide +kernel
theorem dX1_next_78 : decode cX1_next 78 = .ok (.aload_n 0, 1) := by decide +kernel
theorem dX1_next_79 : decode cX1_next 79 = .ok (.iconst 1, 1) := by decide +kernel
theorem dX1_next_80 : decode cX1_next 80 = .ok (.putfield 47, 3) := by decide +kernel
theorem dX1_next_83 : decode cX1_next 83 = .ok (.aload_n 0, 1) := by decide +kernel
theorem dX1_next_84 : decode cX1_next 84 = .ok (.aload_n 0, 1) := by decide +kernel
theorem dX1_next_85 : decode cX1_next 85 = .ok (.aload_n 0, 1) := by decide +kernel
theorem dX1_next_86 : decode cX1_next 86 = .ok (.getfield 65, 3) := by decide +kernel
theorem dX1_next_89 : decode cX1_next 89 = .ok (.invokevirtual 132, 3) := by decide +kernel
theorem dX1_next_92 : decode cX1_next 92 = .ok (.putfield 30, 3) := by decide +kernel
theorem dX1_next_95 : decode cX1_next 95 = .ok (.goto 35, 3) := by decide +kernel
theorem dX1_next_98 : decode cX1_next 98 = .ok (.iload_n 1, 1) := by decide +kernel
theorem dX1_next_99 : decode cX1_next 99 = .ok (.invokestatic 135, 3) := by decide +kernel
theorem dX1_next_102 : decode cX1_next 102 = .ok (.ifCond .eq 28, 3) := by decide +kernel
theorem dX1_next_105 : decode cX1_next 105 = .ok (.aload_n 0, 1) := by decide +kernel
theorem dX1_next_106 : decode cX1_next 106 = .ok (.iconst 2, 1) := by decide +kernel
theorem dX1_next_107 : decode cX1_next 107 = .ok (.putfield 47, 3) := by decide +kernel
theorem dX1_next_110 : decode cX1_next 110 = .ok (.aload_n 0, 1) := by decide +kernel
theorem dX1_next_111 : decode cX1_next 111 = .ok (.aload_n 0, 1) := by decide +kernel
theorem dX1_next_112 : decode cX1_next 112 = .ok (.aload_n 0, 1) := by decide +kernel
theorem dX1_next_113 : decode cX1_next 113 = .ok (.getfield 65, 3) := by decide +kernel
theorem dX1_next_116 : decode cX1_next 116 = .ok (.invokevirtual 138, 3) := by decide +kernel
theorem dX1_next_119 : decode cX1_next 119 = .ok (.putfield 30, 3) := by decide +kernel
theorem dX1_next_122 : decode cX1_next 122 = .ok (.aload_n 0, 1) := by decide +kernel
theorem dX1_next_123 : decode cX1_next 123 = .ok (.aload_n 0, 1) := by decide +kernel
theorem dX1_next_124 : decode cX1_next 124 = .ok (.invokevirtual 141, 3) := by decide +kernel
theorem dX1_next_127 : decode cX1_next 127 = .ok (.putfield 101, 3) := by decide +kernel
theorem dX1_next_130 : decode cX1_next 130 = .ok (.aload_n 0, 1) := by decide +kernel
theorem dX1_next_131 : decode cX1_next 131 = .ok (.getfield 30, 3) := by decide +kernel
theorem dX1_next_134 : decode cX1_next 134 = .ok (.aload_n 0, 1) := by decide +kernel
theorem dX1_next_135 : decode cX1_next 135 = .ok (.getfield 65, 3) := by decide +kernel
theorem dX1_next_138 : decode cX1_next 138 = .ok (.if_icmp .ne 7, 3) := by decide +kernel
theorem dX1_next_141 : decode cX1_next 141 = .ok (.iconst 1, 1) := by decide +kernel
theorem dX1_next_142 : decode cX1_next 142 = .ok (.goto 4, 3) := by decide +kernel
theorem dX1_next_145 : decode cX1_next 145 = .ok (.iconst 0, 1) := by decide +kernel
theorem dX1_next_146 : decode cX1_next 146 = .ok (.istore_n 2, 1) := by decide +kernel
theorem dX1_next_147 : decode cX1_next 147 = .ok (.iload_n 2, 1) := by decide +kernel
theorem dX1_next_148 : decode cX1_next 148 = .ok (.ifCond .ne 24, 3) := by decide +kernel
theorem dX1_next_151 : decode cX1_next 151 = .ok (.aload_n 0, 1) := by decide +kernel
theorem dX1_next_152 : decode cX1_next 152 = .ok (.getfield 47, 3) := by decide +kernel
theorem dX1_next_155 : decode cX1_next 155 = .ok (.iconst 2, 1) := by decide +kernel
theorem dX1_next_156 : decode cX1_next 156 = .ok (.if_icmp .ne 25, 3) := by decide +kernel
theorem dX1_next_159 : decode cX1_next 159 = .ok (.aload_n 0, 1) := by decide +kernel
theorem dX1_next_160 : decode cX1_next 160 = .ok (.getfield 30, 3) := by decide +kernel
theorem dX1_next_163 : decode cX1_next 163 = .ok (.aload_n 0, 1) := by decide +kernel
theorem dX1_next_164 : decode cX1_next 164 = .ok (.getfield 65, 3) := by decide +kernel
theorem dX1_next_167 : decode cX1_next 167 = .ok (.isub, 1) := by decide +kernel
theorem dX1_next_168 : decode cX1_next 168 = .ok (.iconst 2, 1) := by decide +kernel
theorem dX1_next_169 : decode cX1_next 169 = .ok (.if_icmp .le 12, 3) := by decide +kernel
theorem dX1_next_172 : decode cX1_next 172 = .ok (.aload_n 0, 1) := by decide +kernel
theorem dX1_next_173 : decode cX1_next 173 = .ok (.iconst 1, 1) := by decide +kernel
theorem dX1_next_174 : decode cX1_next 174 = .ok (.aload_n 0, 1) := by decide +kernel
theorem dX1_next_175 : decode cX1_next 175 = .ok (.getfield 65, 3) := by decide +kernel
theorem dX1_next_178 : decode cX1_next 178 = .ok (.invokevirtual 57, 3) := by decide +kernel
theorem dX1_next_181 : decode cX1_next 181 = .ok (.return_, 1) := by decide +kernel
theorem dX1_numberOfToken_0 : decode cX1_numberOfToken 0 = .ok (.iconst 0, 1) := by decide +kernel
theorem dX1_numberOfToken_1 : decode cX1_numberOfToken 1 = .ok (.istore_n 1, 1) := by decide +kernel
theorem dX1_numberOfToken_2 : decode cX1_numberOfToken 2 = .ok (.aload_n 0, 1) := by decide +kernel
theorem dX1_numberOfToken_3 : decode cX1_numberOfToken 3 = .ok (.getfield 65, 3) := by decide +kernel
theorem dX1_numberOfToken_6 : decode cX1_numberOfToken 6 = .ok (.istore_n 2, 1) := by decide +kernel
theorem dX1_numberOfToken_7 : decode cX1_numberOfToken 7 = .ok (.iload_n 2, 1) := by decide +kernel
theorem dX1_numberOfToken_8 : decode cX1_numberOfToken 8 = .ok (.aload_n 0, 1) := by decide +kernel
theorem dX1_numberOfToken_9 : decode cX1_numberOfToken 9 = .ok (.getfield 30, 3) := by decide +kernel
theorem dX1_numberOfToken_12 : decode cX1_numberOfToken 12 = .ok (.if_icmp .ge 24, 3) := by decide +kernel
theorem dX1_numberOfToken_15 : decode cX1_numberOfToken 15 = .ok (.bipush 10, 2) := by decide +kernel
theorem dX1_numberOfToken_17 : decode cX1_numberOfToken 17 = .ok (.iload_n 1, 1) := by decide +kernel
theorem dX1_numberOfToken_18 : decode cX1_numberOfToken 18 = .ok (.imul, 1) := by decide +kernel
theorem dX1_numberOfToken_19 : decode cX1_numberOfToken 19 = .ok (.aload_n 0, 1) := by decide +kernel
theorem dX1_numberOfToken_20 : decode cX1_numberOfToken 20 = .ok (.getfield 11, 3) := by decide +kernel
theorem dX1_numberOfToken_23 : decode cX1_numberOfToken 23 = .ok (.iload_n 2, 1) := by decide +kernel
theorem dX1_numberOfToken_24 : decode cX1_numberOfToken 24 = .ok (.baload, 1) := by decide +kernel
theorem dX1_numberOfToken_25 : decode cX1_numberOfToken 25 = .ok (.iadd, 1) := by decide +kernel
theorem dX1_numberOfToken_26 : decode cX1_numberOfToken 26 = .ok (.bipush 48, 2) := by decide +kernel
theorem dX1_numberOfToken_28 : decode cX1_numberOfToken 28 = .ok (.isub, 1) := by decide +kernel
theorem dX1_numberOfToken_29 : decode cX1_numberOfToken 29 = .ok (.istore_n 1, 1) := by decide +kernel
theorem dX1_numberOfToken_30 : decode cX1_numberOfToken 30 = .ok (.iinc 2 1, 3) := by decide +kernel
theorem dX1_numberOfToken_33 : decode cX1_numberOfToken 33 = .ok (.goto (-26), 3) := by decide +kernel
theorem dX1_numberOfToken_36 : decode cX1_numberOfToken 36 = .ok (.iload_n 1, 1) := by decide +kernel
theorem dX1_numberOfToken_37 : decode cX1_numberOfToken 37 = .ok (.ireturn, 1) := by decide +kernel
theorem dX1_behindBlanks_0 : decode cX1_behindBlanks 0 = .ok (.iload_n 1, 1) := by decide +kernel
theorem dX1_behindBlanks_1 : decode cX1_behindBlanks 1 = .ok (.istore_n 2, 1) := by decide +kernel
theorem dX1_behindBlanks_2 : decode cX1_behindBlanks 2 = .ok (.iload_n 2, 1) := by decide +kernel
theorem dX1_behindBlanks_3 : decode cX1_behindBlanks 3 = .ok (.aload_n 0, 1) := by decide +kernel
theorem dX1_behindBlanks_4 : decode cX1_behindBlanks 4 = .ok (.getfield 15, 3) := by decide +kernel
theorem dX1_behindBlanks_7 : decode cX1_behindBlanks 7 = .ok (.if_icmp .ge 20, 3) := by decide +kernel
theorem dX1_behindBlanks_10 : decode cX1_behindBlanks 10 = .ok (.aload_n 0, 1) := by decide +kernel
theorem dX1_behindBlanks_11 : decode cX1_behindBlanks 11 = .ok (.getfield 11, 3) := by decide +kernel
theorem dX1_behindBlanks_14 : decode cX1_behindBlanks 14 = .ok (.iload_n 2, 1) := by decide +kernel
theorem dX1_behindBlanks_15 : decode cX1_behindBlanks 15 = .ok (.baload, 1) := by decide +kernel
theorem dX1_behindBlanks_16 : decode cX1_behindBlanks 16 = .ok (.bipush 32, 2) := by decide +kernel
theorem dX1_behindBlanks_18 : decode cX1_behindBlanks 18 = .ok (.if_icmp .ne 9, 3) := by decide +kernel
theorem dX1_behindBlanks_21 : decode cX1_behindBlanks 21 = .ok (.iinc 2 1, 3) := by decide +kernel
theorem dX1_behindBlanks_24 : decode cX1_behindBlanks 24 = .ok (.goto (-22), 3) := by decide +kernel
theorem dX1_behindBlanks_27 : decode cX1_behindBlanks 27 = .ok (.iload_n 2, 1) := by decide +kernel
theorem dX1_behindBlanks_28 : decode cX1_behindBlanks 28 = .ok (.ireturn, 1) := by decide +kernel
theorem dX1_behindLetters_0 : decode cX1_behindLetters 0 = .ok (.iload_n 1, 1) := by decide +kernel
theorem dX1_behindLetters_1 : decode cX1_behindLetters 1 = .ok (.istore_n 2, 1) := by decide +kernel
theorem dX1_behindLetters_2 : decode cX1_behindLetters 2 = .ok (.iload_n 2, 1) := by decide +kernel
theorem dX1_behindLetters_3 : decode cX1_behindLetters 3 = .ok (.aload_n 0, 1) := by decide +kernel
theorem dX1_behindLetters_4 : decode cX1_behindLetters 4 = .ok (.getfield 15, 3) := by decide +kernel
theorem dX1_behindLetters_7 : decode cX1_behindLetters 7 = .ok (.if_icmp .ge 21, 3) := by decide +kernel
theorem dX1_behindLetters_10 : decode cX1_behindLetters 10 = .ok (.aload_n 0, 1) := by decide +kernel
theorem dX1_behindLetters_11 : decode cX1_behindLetters 11 = .ok (.getfield 11, 3) := by decide +kernel
theorem dX1_behindLetters_14 : decode cX1_behindLetters 14 = .ok (.iload_n 2, 1) := by decide +kernel
theorem dX1_behindLetters_15 : decode cX1_behindLetters 15 = .ok (.baload, 1) := by decide +kernel
theorem dX1_behindLetters_16 : decode cX1_behindLetters 16 = .ok (.invokestatic 129, 3) := by decide +kernel
theorem dX1_behindLetters_19 : decode cX1_behindLetters 19 = .ok (.ifCond .eq 9, 3) := by decide +kernel
theorem dX1_behindLetters_22 : decode cX1_behindLetters 22 = .ok (.iinc 2 1, 3) := by decide +kernel
theorem dX1_behindLetters_25 : decode cX1_behindLetters 25 = .ok (.goto (-23), 3) := by decide +kernel
theorem dX1_behindLetters_28 : decode cX1_behindLetters 28 = .ok (.iload_n 2, 1) := by decide +kernel
theorem dX1_behindLetters_29 : decode cX1_behindLetters 29 = .ok (.ireturn, 1) := by decide +kernel
theorem dX1_behindFigures_0 : decode cX1_behindFigures 0 = .ok (.iload_n 1, 1) := by decide +kernel
theorem dX1_behindFigures_1 : decode cX1_behindFigures 1 = .ok (.istore_n 2, 1) := by decide +kernel
theorem dX1_behindFigures_2 : decode cX1_behindFigures 2 = .ok (.iload_n 2, 1) := by decide +kernel
theorem dX1_behindFigures_3 : decode cX1_behindFigures 3 = .ok (.aload_n 0, 1) := by decide +kernel
theorem dX1_behindFigures_4 : decode cX1_behindFigures 4 = .ok (.getfield 15, 3) := by decide +kernel
theorem dX1_behindFigures_7 : decode cX1_behindFigures 7 = .ok (.if_icmp .ge 21, 3) := by decide +kernel
theorem dX1_behindFigures_10 : decode cX1_behindFigures 10 = .ok (.aload_n 0, 1) := by decide +kernel
theorem dX1_behindFigures_11 : decode cX1_behindFigures 11 = .ok (.getfield 11, 3) := by decide +kernel
theorem dX1_behindFigures_14 : decode cX1_behindFigures 14 = .ok (.iload_n 2, 1) := by decide +kernel
theorem dX1_behindFigures_15 : decode cX1_behindFigures 15 = .ok (.baload, 1) := by decide +kernel
theorem dX1_behindFigures_16 : decode cX1_behindFigures 16 = .ok (.invokestatic 135, 3) := by decide +kernel
theorem dX1_behindFigures_19 : decode cX1_behindFigures 19 = .ok (.ifCond .eq 9, 3) := by decide +kernel
theorem dX1_behindFigures_22 : decode cX1_behindFigures 22 = .ok (.iinc 2 1, 3) := by decide +kernel
theorem dX1_behindFigures_25 : decode cX1_behindFigures 25 = .ok (.goto (-23), 3) := by decide +kernel
theorem dX1_behindFigures_28 : decode cX1_behindFigures 28 = .ok (.iload_n 2, 1) := by decide +kernel
theorem dX1_behindFigures_29 : decode cX1_behindFigures 29 = .ok (.ireturn, 1) := by decide +kernel
theorem dX1_isLetter_0 : decode cX1_isLetter 0 = .ok (.iload_n 0, 1) := by decide +kernel
theorem dX1_isLetter_1 : decode cX1_isLetter 1 = .ok (.bipush 97, 2) := by decide +kernel
theorem dX1_isLetter_3 : decode cX1_isLetter 3 = .ok (.if_icmp .lt 13, 3) := by decide +kernel
theorem dX1_isLetter_6 : decode cX1_isLetter 6 = .ok (.iload_n 0, 1) := by decide +kernel
theorem dX1_isLetter_7 : decode cX1_isLetter 7 = .ok (.bipush 122, 2) := by decide +kernel
theorem dX1_isLetter_9 : decode cX1_isLetter 9 = .ok (.if_icmp .gt 7, 3) := by decide +kernel
theorem dX1_isLetter_12 : decode cX1_isLetter 12 = .ok (.iconst 1, 1) := by decide +kernel
theorem dX1_isLetter_13 : decode cX1_isLetter 13 = .ok (.goto 4, 3) := by decide +kernel
theorem dX1_isLetter_16 : decode cX1_isLetter 16 = .ok (.iconst 0, 1) := by decide +kernel
theorem dX1_isLetter_17 : decode cX1_isLetter 17 = .ok (.ireturn, 1) := by decide +kernel
theorem dX1_isFigure_0 : decode cX1_isFigure 0 = .ok (.iload_n 0, 1) := by decide +kernel
theorem dX1_isFigure_1 : decode cX1_isFigure 1 = .ok (.bipush 48, 2) := by decide +kernel
theorem dX1_isFigure_3 : decode cX1_isFigure 3 = .ok (.if_icmp .lt 13, 3) := by decide +kernel
theorem dX1_isFigure_6 : decode cX1_isFigure 6 = .ok (.iload_n 0, 1) := by decide +kernel
theorem dX1_isFigure_7 : decode cX1_isFigure 7 = .ok (.bipush 57, 2) := by decide +kernel
theorem dX1_isFigure_9 : decode cX1_isFigure 9 = .ok (.if_icmp .gt 7, 3) := by decide +kernel
theorem dX1_isFigure_12 : decode cX1_isFigure 12 = .ok (.iconst 1, 1) := by decide +kernel
theorem dX1_isFigure_13 : decode cX1_isFigure 13 = .ok (.goto 4, 3) := by decide +kernel
theorem dX1_isFigure_16 : decode cX1_isFigure 16 = .ok (.iconst 0, 1) := by decide +kernel
theorem dX1_isFigure_17 : decode cX1_isFigure 17 = .ok (.ireturn, 1) := by decide +kernel
theorem dX1_lineOfName_0 : decode cX1_lineOfName 0 = .ok (.iconst 0, 1) := by decide +kernel
theorem dX1_lineOfName_1 : decode cX1_lineOfName 1 = .ok (.istore_n 1, 1) := by decide +kernel
theorem dX1_lineOfName_2 : decode cX1_lineOfName 2 = .ok (.iload_n 1, 1) := by decide +kernel
theorem dX1_lineOfName_3 : decode cX1_lineOfName 3 = .ok (.bipush 8, 2) := by decide +kernel
theorem dX1_lineOfName_5 : decode cX1_lineOfName 5 = .ok (.if_icmp .ge 22, 3) := by decide +kernel
theorem dX1_lineOfName_8 : decode cX1_lineOfName 8 = .ok (.aload_n 0, 1) := by decide +kernel
theorem dX1_lineOfName_9 : decode cX1_lineOfName 9 = .ok (.iload_n 1, 1) := by decide +kernel
theorem dX1_lineOfName_10 : decode cX1_lineOfName 10 = .ok (.invokestatic 144, 3) := by decide +kernel
theorem dX1_lineOfName_13 : decode cX1_lineOfName 13 = .ok (.invokevirtual 148, 3) := by decide +kernel
theorem dX1_lineOfName_16 : decode cX1_lineOfName 16 = .ok (.ifCond .eq 5, 3) := by decide +kernel
theorem dX1_lineOfName_19 : decode cX1_lineOfName 19 = .ok (.iload_n 1, 1) := by decide +kernel
theorem dX1_lineOfName_20 : decode cX1_lineOfName 20 = .ok (.ireturn, 1) := by decide +kernel
theorem dX1_lineOfName_21 : decode cX1_lineOfName 21 = .ok (.iinc 1 1, 3) := by decide +kernel
theorem dX1_lineOfName_24 : decode cX1_lineOfName 24 = .ok (.goto (-22), 3) := by decide +kernel
theorem dX1_lineOfName_27 : decode cX1_lineOfName 27 = .ok (.bipush 8, 2) := by decide +kernel
theorem dX1_lineOfName_29 : decode cX1_lineOfName 29 = .ok (.ireturn, 1) := by decide +kernel
theorem dX1_nameOfLine_0 : decode cX1_nameOfLine 0 = .ok (.iload_n 0, 1) := by decide +kernel
theorem dX1_nameOfLine_1 : decode cX1_nameOfLine 1 = .ok (.tableswitch 64 0 6 #[43, 46, 49, 52, 55, 58, 61], 43) := by decide +kernel
theorem dX1_nameOfLine_44 : decode cX1_nameOfLine 44 = .ok (.ldc 152, 2) := by decide +kernel
theorem dX1_nameOfLine_46 : decode cX1_nameOfLine 46 = .ok (.areturn, 1) := by decide +kernel
theorem dX1_nameOfLine_47 : decode cX1_nameOfLine 47 = .ok (.ldc 154, 2) := by decide +kernel
theorem dX1_nameOfLine_49 : decode cX1_nameOfLine 49 = .ok (.areturn, 1) := by decide +kernel
theorem dX1_nameOfLine_50 : decode cX1_nameOfLine 50 = .ok (.ldc 156, 2) := by decide +kernel
theorem dX1_nameOfLine_52 : decode cX1_nameOfLine 52 = .ok (.areturn, 1) := by decide +kernel
theorem dX1_nameOfLine_53 : decode cX1_nameOfLine 53 = .ok (.ldc 158, 2) := by decide +kernel
theorem dX1_nameOfLine_55 : decode cX1_nameOfLine 55 = .ok (.areturn, 1) := by decide +kernel
theorem dX1_nameOfLine_56 : decode cX1_nameOfLine 56 = .ok (.ldc 160, 2) := by decide +kernel
theorem dX1_nameOfLine_58 : decode cX1_nameOfLine 58 = .ok (.areturn, 1) := by decide +kernel
theorem dX1_nameOfLine_59 : decode cX1_nameOfLine 59 = .ok (.ldc 162, 2) := by decide +kernel
theorem dX1_nameOfLine_61 : decode cX1_nameOfLine 61 = .ok (.areturn, 1) := by decide +kernel
theorem dX1_nameOfLine_62 : decode cX1_nameOfLine 62 = .ok (.ldc 164, 2) := by decide +kernel
theorem dX1_nameOfLine_64 : decode cX1_nameOfLine 64 = .ok (.areturn, 1) := by decide +kernel
theorem dX1_nameOfLine_65 : decode cX1_nameOfLine 65 = .ok (.ldc 166, 2) := by decide +kernel
theorem dX1_nameOfLine_67 : decode cX1_nameOfLine 67 = .ok (.areturn, 1) := by decide +kernel
theorem dX1_tokenSpells_0 : decode cX1_tokenSpells 0 = .ok (.aload_n 0, 1) := by decide +kernel
theorem dX1_tokenSpells_1 : decode cX1_tokenSpells 1 = .ok (.getfield 30, 3) := by decide +kernel
theorem dX1_tokenSpells_4 : decode cX1_tokenSpells 4 = .ok (.aload_n 0, 1) := by decide +kernel
theorem dX1_tokenSpells_5 : decode cX1_tokenSpells 5 = .ok (.getfield 65, 3) := by decide +kernel
theorem dX1_tokenSpells_8 : decode cX1_tokenSpells 8 = .ok (.isub, 1) := by decide +kernel
theorem dX1_tokenSpells_9 : decode cX1_tokenSpells 9 = .ok (.aload_n 1, 1) := by decide +kernel
theorem dX1_tokenSpells_10 : decode cX1_tokenSpells 10 = .ok (.invokevirtual 168, 3) := by decide +kernel
theorem dX1_tokenSpells_13 : decode cX1_tokenSpells 13 = .ok (.if_icmp .eq 5, 3) := by decide +kernel
theorem dX1_tokenSpells_16 : decode cX1_tokenSpells 16 = .ok (.iconst 0, 1) := by decide +kernel
theorem dX1_tokenSpells_17 : decode cX1_tokenSpells 17 = .ok (.ireturn, 1) := by decide +kernel
theorem dX1_tokenSpells_18 : decode cX1_tokenSpells 18 = .ok (.iconst 0, 1) := by decide +kernel
theorem dX1_tokenSpells_19 : decode cX1_tokenSpells 19 = .ok (.istore_n 2, 1) := by decide +kernel
theorem dX1_tokenSpells_20 : decode cX1_tokenSpells 20 = .ok (.iload_n 2, 1) := by decide +kernel
theorem dX1_tokenSpells_21 : decode cX1_tokenSpells 21 = .ok (.aload_n 1, 1) := by decide +kernel
theorem dX1_tokenSpells_22 : decode cX1_tokenSpells 22 = .ok (.invokevirtual 168, 3) := by decide +kernel
theorem dX1_tokenSpells_25 : decode cX1_tokenSpells 25 = .ok (.if_icmp .ge 30, 3) := by decide +kernel
theorem dX1_tokenSpells_28 : decode cX1_tokenSpells 28 = .ok (.aload_n 0, 1) := by decide +kernel
theorem dX1_tokenSpells_29 : decode cX1_tokenSpells 29 = .ok (.getfield 11, 3) := by decide +kernel
theorem dX1_tokenSpells_32 : decode cX1_tokenSpells 32 = .ok (.aload_n 0, 1) := by decide +kernel
theorem dX1_tokenSpells_33 : decode cX1_tokenSpells 33 = .ok (.getfield 65, 3) := by decide +kernel
theorem dX1_tokenSpells_36 : decode cX1_tokenSpells 36 = .ok (.iload_n 2, 1) := by decide +kernel
theorem dX1_tokenSpells_37 : decode cX1_tokenSpells 37 = .ok (.iadd, 1) := by decide +kernel
theorem dX1_tokenSpells_38 : decode cX1_tokenSpells 38 = .ok (.baload, 1) := by decide +kernel
theorem dX1_tokenSpells_39 : decode cX1_tokenSpells 39 = .ok (.aload_n 1, 1) := by decide +kernel
theorem dX1_tokenSpells_40 : decode cX1_tokenSpells 40 = .ok (.iload_n 2, 1) := by decide +kernel
theorem dX1_tokenSpells_41 : decode cX1_tokenSpells 41 = .ok (.invokevirtual 172, 3) := by decide +kernel
theorem dX1_tokenSpells_44 : decode cX1_tokenSpells 44 = .ok (.if_icmp .eq 5, 3) := by decide +kernel
theorem dX1_tokenSpells_47 : decode cX1_tokenSpells 47 = .ok (.iconst 0, 1) := by decide +kernel
theorem dX1_tokenSpells_48 : decode cX1_tokenSpells 48 = .ok (.ireturn, 1) := by decide +kernel
theorem dX1_tokenSpells_49 : decode cX1_tokenSpells 49 = .ok (.iinc 2 1, 3) := by decide +kernel
theorem dX1_tokenSpells_52 : decode cX1_tokenSpells 52 = .ok (.goto (-32), 3) := by decide +kernel
theorem dX1_tokenSpells_55 : decode cX1_tokenSpells 55 = .ok (.iconst 1, 1) := by decide +kernel
theorem dX1_tokenSpells_56 : decode cX1_tokenSpells 56 = .ok (.ireturn, 1) := by decide +kernel
theorem dX2_init_0 : decode cX2_init 0 = .ok (.aload_n 0, 1) := by decide +kernel
theorem dX2_init_1 : decode cX2_init 1 = .ok (.invokespecial 3, 3) := by decide +kernel
theorem dX2_init_4 : decode cX2_init 4 = .ok (.aload_n 0, 1) := by decide +kernel
theorem dX2_init_5 : decode cX2_init 5 = .ok (.iconst 4, 1) := by decide +kernel
theorem dX2_init_6 : decode cX2_init 6 = .ok (.newarray .int, 2) := by decide +kernel
theorem dX2_init_8 : decode cX2_init 8 = .ok (.putfield 9, 3) := by decide +kernel
theorem dX2_init_11 : decode cX2_init 11 = .ok (.aload_n 0, 1) := by decide +kernel
theorem dX2_init_12 : decode cX2_init 12 = .ok (.iconst 4, 1) := by decide +kernel
theorem dX2_init_13 : decode cX2_init 13 = .ok (.newarray .int, 2) := by decide +kernel
theorem dX2_init_15 : decode cX2_init 15 = .ok (.putfield 15, 3) := by decide +kernel
theorem dX2_init_18 : decode cX2_init 18 = .ok (.aload_n 0, 1) := by decide +kernel
theorem dX2_init_19 : decode cX2_init 19 = .ok (.bipush 12, 2) := by decide +kernel
theorem dX2_init_21 : decode cX2_init 21 = .ok (.newarray .int, 2) := by decide +kernel
theorem dX2_init_23 : decode cX2_init 23 = .ok (.putfield 18, 3) := by decide +kernel
theorem dX2_init_26 : decode cX2_init 26 = .ok (.aload_n 0, 1) := by decide +kernel
theorem dX2_init_27 : decode cX2_init 27 = .ok (.iconst 5, 1) := by decide +kernel
theorem dX2_init_28 : decode cX2_init 28 = .ok (.newarray .int, 2) := by decide +kernel
theorem dX2_init_30 : decode cX2_init 30 = .ok (.putfield 21, 3) := by decide +kernel
theorem dX2_init_33 : decode cX2_init 33 = .ok (.aload_n 0, 1) := by decide +kernel
theorem dX2_init_34 : decode cX2_init 34 = .ok (.iconst 5, 1) := by decide +kernel
theorem dX2_init_35 : decode cX2_init 35 = .ok (.newarray .int, 2) := by decide +kernel
theorem dX2_init_37 : decode cX2_init 37 = .ok (.putfield 24, 3) := by decide +kernel
theorem dX2_init_40 : decode cX2_init 40 = .ok (.aload_n 0, 1) := by decide +kernel
theorem dX2_init_41 : decode cX2_init 41 = .ok (.bipush 12, 2) := by decide +kernel
theorem dX2_init_43 : decode cX2_init 43 = .ok (.newarray .int, 2) := by decide +kernel
theorem dX2_init_45 : decode cX2_init 45 = .ok (.putfield 27, 3) := by decide +kernel
theorem dX2_init_48 : decode cX2_init 48 = .ok (.aload_n 0, 1) := by decide +kernel
theorem dX2_init_49 : decode cX2_init 49 = .ok (.invokevirtual 30, 3) := by decide +kernel
theorem dX2_init_52 : decode cX2_init 52 = .ok (.return_, 1) := by decide +kernel
theorem dX2_clear_0 : decode cX2_clear 0 = .ok (.aload_n 0, 1) := by decide +kernel
theorem dX2_clear_1 : decode cX2_clear 1 = .ok (.iconst 0, 1) := by decide +kernel
theorem dX2_clear_2 : decode cX2_clear 2 = .ok (.putfield 33, 3) := by decide +kernel
theorem dX2_clear_5 : decode cX2_clear 5 = .ok (.aload_n 0, 1) := by decide +kernel
theorem dX2_clear_6 : decode cX2_clear 6 = .ok (.iconst 0, 1) := by decide +kernel
theorem dX2_clear_7 : decode cX2_clear 7 = .ok (.putfield 37, 3) := by decide +kernel
theorem dX2_clear_10 : decode cX2_clear 10 = .ok (.aload_n 0, 1) := by decide +kernel
theorem dX2_clear_11 : decode cX2_clear 11 = .ok (.iconst 0, 1) := by decide +kernel
theorem dX2_clear_12 : decode cX2_clear 12 = .ok (.putfield 40, 3) := by decide +kernel
theorem dX2_clear_15 : decode cX2_clear 15 = .ok (.aload_n 0, 1) := by decide +kernel
theorem dX2_clear_16 : decode cX2_clear 16 = .ok (.iconst 3, 1) := by decide +kernel
theorem dX2_clear_17 : decode cX2_clear 17 = .ok (.putfield 43, 3) := by decide +kernel
theorem dX2_clear_20 : decode cX2_clear 20 = .ok (.aload_n 0, 1) := by decide +kernel
theorem dX2_clear_21 : decode cX2_clear 21 = .ok (.bipush (-4), 2) := by decide +kernel
theorem dX2_clear_23 : decode cX2_clear 23 = .ok (.invokevirtual 46, 3) := by decide +kernel
theorem dX2_clear_26 : decode cX2_clear 26 = .ok (.return_, 1) := by decide +kernel
theorem dX2_copyOf_0 : decode cX2_copyOf 0 = .ok (.aload_n 1, 1) := by decide +kernel
theorem dX2_copyOf_1 : decode cX2_copyOf 1 = .ok (.getfield 9, 3) := by decide +kernel
theorem dX2_copyOf_4 : decode cX2_copyOf 4 = .ok (.iconst 0, 1) := by decide +kernel
theorem dX2_copyOf_5 : decode cX2_copyOf 5 = .ok (.aload_n 0, 1) := by decide +kernel
theorem dX2_copyOf_6 : decode cX2_copyOf 6 = .ok (.getfield 9, 3) := by decide +kernel
theorem dX2_copyOf_9 : decode cX2_copyOf 9 = .ok (.iconst 0, 1) := by decide +kernel
theorem dX2_copyOf_10 : decode cX2_copyOf 10 = .ok (.iconst 4, 1) := by decide +kernel
theorem dX2_copyOf_11 : decode cX2_copyOf 11 = .ok (.invokestatic 50, 3) := by decide +kernel
theorem dX2_copyOf_14 : decode cX2_copyOf 14 = .ok (.aload_n 1, 1) := by decide +kernel
theorem dX2_copyOf_15 : decode cX2_copyOf 15 = .ok (.getfield 15, 3) := by decide +kernel
theorem dX2_copyOf_18 : decode cX2_copyOf 18 = .ok (.iconst 0, 1) := by decide +kernel
theorem dX2_copyOf_19 : decode cX2_copyOf 19 = .ok (.aload_n 0, 1) := by decide +kernel
theorem dX2_copyOf_20 : decode cX2_copyOf 20 = .ok (.getfield 15, 3) := by decide +kernel
theorem dX2_copyOf_23 : decode cX2_copyOf 23 = .ok (.iconst 0, 1) := by decide +kernel
theorem dX2_copyOf_24 : decode cX2_copyOf 24 = .ok (.iconst 4, 1) := by decide +kernel
theorem dX2_copyOf_25 : decode cX2_copyOf 25 = .ok (.invokestatic 50, 3) := by decide +kernel
theorem dX2_copyOf_28 : decode cX2_copyOf 28 = .ok (.aload_n 1, 1) := by decide +kernel
theorem dX2_copyOf_29 : decode cX2_copyOf 29 = .ok (.getfield 18, 3) := by decide +kernel
theorem dX2_copyOf_32 : decode cX2_copyOf 32 = .ok (.iconst 0, 1) := by decide +kernel
theorem dX2_copyOf_33 : decode cX2_copyOf 33 = .ok (.aload_n 0, 1) := by decide +kernel
theorem dX2_copyOf_34 : decode cX2_copyOf 34 = .ok (.getfield 18, 3) := by decide +kernel
theorem dX2_copyOf_37 : decode cX2_copyOf 37 = .ok (.iconst 0, 1) := by decide +kernel
theorem dX2_copyOf_38 : decode cX2_copyOf 38 = .ok (.bipush 12, 2) := by decide +kernel
theorem dX2_copyOf_40 : decode cX2_copyOf 40 = .ok (.invokestatic 50, 3) := by decide +kernel
theorem dX2_copyOf_43 : decode cX2_copyOf 43 = .ok (.aload_n 1, 1) := by decide +kernel
theorem dX2_copyOf_44 : decode cX2_copyOf 44 = .ok (.getfield 21, 3) := by decide +kernel
theorem dX2_copyOf_47 : decode cX2_copyOf 47 = .ok (.iconst 0, 1) := by decide +kernel
theorem dX2_copyOf_48 : decode cX2_copyOf 48 = .ok (.aload_n 0, 1) := by decide +kernel
theorem dX2_copyOf_49 : decode cX2_copyOf 49 = .ok (.getfield 21, 3) := by decide +kernel
theorem dX2_copyOf_52 : decode cX2_copyOf 52 = .ok (.iconst 0, 1) := by decide +kernel
theorem dX2_copyOf_53 : decode cX2_copyOf 53 = .ok (.iconst 5, 1) := by decide +kernel
theorem dX2_copyOf_54 : decode cX2_copyOf 54 = .ok (.invokestatic 50, 3) := by decide +kernel
theorem dX2_copyOf_57 : decode cX2_copyOf 57 = .ok (.aload_n 1, 1) := by decide +kernel
theorem dX2_copyOf_58 : decode cX2_copyOf 58 = .ok (.getfield 24, 3) := by decide +kernel
theorem dX2_copyOf_61 : decode cX2_copyOf 61 = .ok (.iconst 0, 1) := by decide +kernel
theorem dX2_copyOf_62 : decode cX2_copyOf 62 = .ok (.aload_n 0, 1) := by decide +kernel
theorem dX2_copyOf_63 : decode cX2_copyOf 63 = .ok (.getfield 24, 3) := by decide +kernel
theorem dX2_copyOf_66 : decode cX2_copyOf 66 = .ok (.iconst 0, 1) := by decide +kernel
theorem dX2_copyOf_67 : decode cX2_copyOf 67 = .ok (.iconst 5, 1) := by decide +kernel
theorem dX2_copyOf_68 : decode cX2_copyOf 68 = .ok (.invokestatic 50, 3) := by decide +kernel
theorem dX2_copyOf_71 : decode cX2_copyOf 71 = .ok (.aload_n 1, 1) := by decide +kernel
theorem dX2_copyOf_72 : decode cX2_copyOf 72 = .ok (.getfield 27, 3) := by decide +kernel
theorem dX2_copyOf_75 : decode cX2_copyOf 75 = .ok (.iconst 0, 1) := by decide +kernel
theorem dX2_copyOf_76 : decode cX2_copyOf 76 = .ok (.aload_n 0, 1) := by decide +kernel
theorem dX2_copyOf_77 : decode cX2_copyOf 77 = .ok (.getfield 27, 3) := by decide +kernel
theorem dX2_copyOf_80 : decode cX2_copyOf 80 = .ok (.iconst 0, 1) := by decide +kernel
theorem dX2_copyOf_81 : decode cX2_copyOf 81 = .ok (.bipush 12, 2) := by decide +kernel
theorem dX2_copyOf_83 : decode cX2_copyOf 83 = .ok (.invokestatic 50, 3) := by decide +kernel
theorem dX2_copyOf_86 : decode cX2_copyOf 86 = .ok (.aload_n 0, 1) := by decide +kernel
theorem dX2_copyOf_87 : decode cX2_copyOf 87 = .ok (.aload_n 1, 1) := by decide +kernel
theorem dX2_copyOf_88 : decode cX2_copyOf 88 = .ok (.getfield 33, 3) := by decide +kernel
theorem dX2_copyOf_91 : decode cX2_copyOf 91 = .ok (.putfield 33, 3) := by decide +kernel
theorem dX2_copyOf_94 : decode cX2_copyOf 94 = .ok (.aload_n 0, 1) := by decide +kernel
theorem dX2_copyOf_95 : decode cX2_copyOf 95 = .ok (.aload_n 1, 1) := by decide +kernel
theorem dX2_copyOf_96 : decode cX2_copyOf 96 = .ok (.getfield 37, 3) := by decide +kernel
theorem dX2_copyOf_99 : decode cX2_copyOf 99 = .ok (.putfield 37, 3) := by decide +kernel
theorem dX2_copyOf_102 : decode cX2_copyOf 102 = .ok (.aload_n 0, 1) := by decide +kernel
theorem dX2_copyOf_103 : decode cX2_copyOf 103 = .ok (.aload_n 1, 1) := by decide +kernel
theorem dX2_copyOf_104 : decode cX2_copyOf 104 = .ok (.getfield 40, 3) := by decide +kernel
theorem dX2_copyOf_107 : decode cX2_copyOf 107 = .ok (.putfield 40, 3) := by decide +kernel
theorem dX2_copyOf_110 : decode cX2_copyOf 110 = .ok (.aload_n 0, 1) := by decide +kernel
theorem dX2_copyOf_111 : decode cX2_copyOf 111 = .ok (.aload_n 1, 1) := by decide +kernel
theorem dX2_copyOf_112 : decode cX2_copyOf 112 = .ok (.getfield 43, 3) := by decide +kernel
theorem dX2_copyOf_115 : decode cX2_copyOf 115 = .ok (.putfield 43, 3) := by decide +kernel
theorem dX2_copyOf_118 : decode cX2_copyOf 118 = .ok (.return_, 1) := by decide +kernel
theorem dX2_hasMan_0 : decode cX2_hasMan 0 = .ok (.iload_n 1, 1) := by decide +kernel
theorem dX2_hasMan_1 : decode cX2_hasMan 1 = .ok (.ifCond .lt 15, 3) := by decide +kernel
theorem dX2_hasMan_4 : decode cX2_hasMan 4 = .ok (.iload_n 1, 1) := by decide +kernel
theorem dX2_hasMan_5 : decode cX2_hasMan 5 = .ok (.aload_n 0, 1) := by decide +kernel
theorem dX2_hasMan_6 : decode cX2_hasMan 6 = .ok (.getfield 33, 3) := by decide +kernel
theorem dX2_hasMan_9 : decode cX2_hasMan 9 = .ok (.if_icmp .ge 7, 3) := by decide +kernel
theorem dX2_hasMan_12 : decode cX2_hasMan 12 = .ok (.iconst 1, 1) := by decide +kernel
theorem dX2_hasMan_13 : decode cX2_hasMan 13 = .ok (.goto 4, 3) := by decide +kernel
theorem dX2_hasMan_16 : decode cX2_hasMan 16 = .ok (.iconst 0, 1) := by decide +kernel
theorem dX2_hasMan_17 : decode cX2_hasMan 17 = .ok (.ireturn, 1) := by decide +kernel
theorem dX2_hasDeed_0 : decode cX2_hasDeed 0 = .ok (.iload_n 1, 1) := by decide +kernel
theorem dX2_hasDeed_1 : decode cX2_hasDeed 1 = .ok (.ifCond .lt 15, 3) := by decide +kernel
theorem dX2_hasDeed_4 : decode cX2_hasDeed 4 = .ok (.iload_n 1, 1) := by decide +kernel
theorem dX2_hasDeed_5 : decode cX2_hasDeed 5 = .ok (.aload_n 0, 1) := by decide +kernel
theorem dX2_hasDeed_6 : decode cX2_hasDeed 6 = .ok (.getfield 37, 3) := by decide +kernel
theorem dX2_hasDeed_9 : decode cX2_hasDeed 9 = .ok (.if_icmp .ge 7, 3) := by decide +kernel
theorem dX2_hasDeed_12 : decode cX2_hasDeed 12 = .ok (.iconst 1, 1) := by decide +kernel
theorem dX2_hasDeed_13 : decode cX2_hasDeed 13 = .ok (.goto 4, 3) := by decide +kernel
theorem dX2_hasDeed_16 : decode cX2_hasDeed 16 = .ok (.iconst 0, 1) := by decide +kernel
theorem dX2_hasDeed_17 : decode cX2_hasDeed 17 = .ok (.ireturn, 1) := by decide +kernel
theorem dX2_isCloudy_0 : decode cX2_isCloudy 0 = .ok (.aload_n 0, 1) := by decide +kernel
theorem dX2_isCloudy_1 : decode cX2_isCloudy 1 = .ok (.getfield 40, 3) := by decide +kernel
theorem dX2_isCloudy_4 : decode cX2_isCloudy 4 = .ok (.iload_n 1, 1) := by decide +kernel
theorem dX2_isCloudy_5 : decode cX2_isCloudy 5 = .ok (.ishr, 1) := by decide +kernel
theorem dX2_isCloudy_6 : decode cX2_isCloudy 6 = .ok (.iconst 1, 1) := by decide +kernel
theorem dX2_isCloudy_7 : decode cX2_isCloudy 7 = .ok (.iand, 1) := by decide +kernel
theorem dX2_isCloudy_8 : decode cX2_isCloudy 8 = .ok (.iconst 1, 1) := by decide +kernel
theorem dX2_isCloudy_9 : decode cX2_isCloudy 9 = .ok (.if_icmp .ne 7, 3) := by decide +kernel
theorem dX2_isCloudy_12 : decode cX2_isCloudy 12 = .ok (.iconst 1, 1) := by decide +kernel
theorem dX2_isCloudy_13 : decode cX2_isCloudy 13 = .ok (.goto 4, 3) := by decide +kernel
theorem dX2_isCloudy_16 : decode cX2_isCloudy 16 = .ok (.iconst 0, 1) := by decide +kernel
theorem dX2_isCloudy_17 : decode cX2_isCloudy 17 = .ok (.ireturn, 1) := by decide +kernel
theorem dX2_setCloudy_0 : decode cX2_setCloudy 0 = .ok (.aload_n 0, 1) := by decide +kernel
theorem dX2_setCloudy_1 : decode cX2_setCloudy 1 = .ok (.iload_n 2, 1) := by decide +kernel
theorem dX2_setCloudy_2 : decode cX2_setCloudy 2 = .ok (.ifCond .eq 14, 3) := by decide +kernel
theorem dX2_setCloudy_5 : decode cX2_setCloudy 5 = .ok (.aload_n 0, 1) := by decide +kernel
theorem dX2_setCloudy_6 : decode cX2_setCloudy 6 = .ok (.getfield 40, 3) := by decide +kernel
theorem dX2_setCloudy_9 : decode cX2_setCloudy 9 = .ok (.iconst 1, 1) := by decide +kernel
theorem dX2_setCloudy_10 : decode cX2_setCloudy 10 = .ok (.iload_n 1, 1) := by decide +kernel
theorem dX2_setCloudy_11 : decode cX2_setCloudy 11 = .ok (.ishl, 1) := by decide +kernel
theorem dX2_setCloudy_12 : decode cX2_setCloudy 12 = .ok (.ior, 1) := by decide +kernel
theorem dX2_setCloudy_13 : decode cX2_setCloudy 13 = .ok (.goto 13, 3) := by decide +kernel
theorem dX2_setCloudy_16 : decode cX2_setCloudy 16 = .ok (.aload_n 0, 1) := by decide +kernel
theorem dX2_setCloudy_17 : decode cX2_setCloudy 17 = .ok (.getfield 40, 3) := by decide +kernel
theorem dX2_setCloudy_20 : decode cX2_setCloudy 20 = .ok (.iconst 1, 1) := by decide +kernel
theorem dX2_setCloudy_21 : decode cX2_setCloudy 21 = .ok (.iload_n 1, 1) := by decide +kernel
theorem dX2_setCloudy_22 : decode cX2_setCloudy 22 = .ok (.ishl, 1) := by decide +kernel
theorem dX2_setCloudy_23 : decode cX2_setCloudy 23 = .ok (.iconst (-1), 1) := by decide +kernel
theorem dX2_setCloudy_24 : decode cX2_setCloudy 24 = .ok (.ixor, 1) := by decide +kernel
theorem dX2_setCloudy_25 : decode cX2_setCloudy 25 = .ok (.iand, 1) := by decide +kernel
theorem dX2_setCloudy_26 : decode cX2_setCloudy 26 = .ok (.putfield 40, 3) := by decide +kernel
theorem dX2_setCloudy_29 : decode cX2_setCloudy 29 = .ok (.return_, 1) := by decide +kernel
theorem dX2_setKind_0 : decode cX2_setKind 0 = .ok (.aload_n 0, 1) := by decide +kernel
theorem dX2_setKind_1 : decode cX2_setKind 1 = .ok (.getfield 9, 3) := by decide +kernel
theorem dX2_setKind_4 : decode cX2_setKind 4 = .ok (.iload_n 1, 1) := by decide +kernel
theorem dX2_setKind_5 : decode cX2_setKind 5 = .ok (.iload_n 2, 1) := by decide +kernel
theorem dX2_setKind_6 : decode cX2_setKind 6 = .ok (.iastore, 1) := by decide +kernel
theorem dX2_setKind_7 : decode cX2_setKind 7 = .ok (.aload_n 0, 1) := by decide +kernel
theorem dX2_setKind_8 : decode cX2_setKind 8 = .ok (.invokevirtual 56, 3) := by decide +kernel
theorem dX2_setKind_11 : decode cX2_setKind 11 = .ok (.return_, 1) := by decide +kernel
theorem dX2_setLean_0 : decode cX2_setLean 0 = .ok (.aload_n 0, 1) := by decide +kernel
theorem dX2_setLean_1 : decode cX2_setLean 1 = .ok (.getfield 15, 3) := by decide +kernel
theorem dX2_setLean_4 : decode cX2_setLean 4 = .ok (.iload_n 1, 1) := by decide +kernel
theorem dX2_setLean_5 : decode cX2_setLean 5 = .ok (.iload_n 2, 1) := by decide +kernel
theorem dX2_setLean_6 : decode cX2_setLean 6 = .ok (.iastore, 1) := by decide +kernel
theorem dX2_setLean_7 : decode cX2_setLean 7 = .ok (.aload_n 0, 1) := by decide +kernel
theorem dX2_setLean_8 : decode cX2_setLean 8 = .ok (.invokevirtual 56, 3) := by decide +kernel
theorem dX2_setLean_11 : decode cX2_setLean 11 = .ok (.return_, 1) := by decide +kernel
theorem dX2_setPainted_0 : decode cX2_setPainted 0 = .ok (.aload_n 0, 1) := by decide +kernel
theorem dX2_setPainted_1 : decode cX2_setPainted 1 = .ok (.iload_n 1, 1) := by decide +kernel
theorem dX2_setPainted_2 : decode cX2_setPainted 2 = .ok (.putfield 43, 3) := by decide +kernel
theorem dX2_setPainted_5 : decode cX2_setPainted 5 = .ok (.aload_n 0, 1) := by decide +kernel
theorem dX2_setPainted_6 : decode cX2_setPainted 6 = .ok (.invokevirtual 56, 3) := by decide +kernel
theorem dX2_setPainted_9 : decode cX2_setPainted 9 = .ok (.return_, 1) := by decide +kernel
theorem dX2_setStands_0 : decode cX2_setStands 0 = .ok (.aload_n 0, 1) := by decide +kernel
theorem dX2_setStands_1 : decode cX2_setStands 1 = .ok (.getfield 18, 3) := by decide +kernel
theorem dX2_setStands_4 : decode cX2_setStands 4 = .ok (.iload_n 1, 1) := by decide +kernel
theorem dX2_setStands_5 : decode cX2_setStands 5 = .ok (.iload_n 2, 1) := by decide +kernel
theorem dX2_setStands_6 : decode cX2_setStands 6 = .ok (.iastore, 1) := by decide +kernel
theorem dX2_setStands_7 : decode cX2_setStands 7 = .ok (.aload_n 0, 1) := by decide +kernel
theorem dX2_setStands_8 : decode cX2_setStands 8 = .ok (.invokevirtual 56, 3) := by decide +kernel
theorem dX2_setStands_11 : decode cX2_setStands 11 = .ok (.return_, 1) := by decide +kernel
theorem dX2_exchange_0 : decode cX2_exchange 0 = .ok (.aload_n 0, 1) := by decide +kernel
theorem dX2_exchange_1 : decode cX2_exchange 1 = .ok (.getfield 18, 3) := by decide +kernel
theorem dX2_exchange_4 : decode cX2_exchange 4 = .ok (.iload_n 1, 1) := by decide +kernel
theorem dX2_exchange_5 : decode cX2_exchange 5 = .ok (.iaload, 1) := by decide +kernel
theorem dX2_exchange_6 : decode cX2_exchange 6 = .ok (.istore_n 3, 1) := by decide +kernel
theorem dX2_exchange_7 : decode cX2_exchange 7 = .ok (.aload_n 0, 1) := by decide +kernel
theorem dX2_exchange_8 : decode cX2_exchange 8 = .ok (.getfield 18, 3) := by decide +kernel
theorem dX2_exchange_11 : decode cX2_exchange 11 = .ok (.iload_n 1, 1) := by decide +kernel
theorem dX2_exchange_12 : decode cX2_exchange 12 = .ok (.aload_n 0, 1) := by decide +kernel
theorem dX2_exchange_13 : decode cX2_exchange 13 = .ok (.getfield 18, 3) := by decide +kernel
theorem dX2_exchange_16 : decode cX2_exchange 16 = .ok (.iload_n 2, 1) := by decide +kernel
theorem dX2_exchange_17 : decode cX2_exchange 17 = .ok (.iaload, 1) := by decide +kernel
theorem dX2_exchange_18 : decode cX2_exchange 18 = .ok (.iastore, 1) := by decide +kernel
theorem dX2_exchange_19 : decode cX2_exchange 19 = .ok (.aload_n 0, 1) := by decide +kernel
theorem dX2_exchange_20 : decode cX2_exchange 20 = .ok (.getfield 18, 3) := by decide +kernel
theorem dX2_exchange_23 : decode cX2_exchange 23 = .ok (.iload_n 2, 1) := by decide +kernel
theorem dX2_exchange_24 : decode cX2_exchange 24 = .ok (.iload_n 3, 1) := by decide +kernel
theorem dX2_exchange_25 : decode cX2_exchange 25 = .ok (.iastore, 1) := by decide +kernel
theorem dX2_exchange_26 : decode cX2_exchange 26 = .ok (.aload_n 0, 1) := by decide +kernel
theorem dX2_exchange_27 : decode cX2_exchange 27 = .ok (.invokevirtual 56, 3) := by decide +kernel
theorem dX2_exchange_30 : decode cX2_exchange 30 = .ok (.return_, 1) := by decide +kernel
theorem dX2_setAllStand_0 : decode cX2_setAllStand 0 = .ok (.iconst 0, 1) := by decide +kernel
theorem dX2_setAllStand_1 : decode cX2_setAllStand 1 = .ok (.istore_n 2, 1) := by decide +kernel
theorem dX2_setAllStand_2 : decode cX2_setAllStand 2 = .ok (.iload_n 2, 1) := by decide +kernel
theorem dX2_setAllStand_3 : decode cX2_setAllStand 3 = .ok (.bipush 12, 2) := by decide +kernel
theorem dX2_setAllStand_5 : decode cX2_setAllStand 5 = .ok (.if_icmp .ge 16, 3) := by decide +kernel
theorem dX2_setAllStand_8 : decode cX2_setAllStand 8 = .ok (.aload_n 0, 1) := by decide +kernel
theorem dX2_setAllStand_9 : decode cX2_setAllStand 9 = .ok (.getfield 18, 3) := by decide +kernel
theorem dX2_setAllStand_12 : decode cX2_setAllStand 12 = .ok (.iload_n 2, 1) := by decide +kernel
theorem dX2_setAllStand_13 : decode cX2_setAllStand 13 = .ok (.iload_n 1, 1) := by decide +kernel
theorem dX2_setAllStand_14 : decode cX2_setAllStand 14 = .ok (.iastore, 1) := by decide +kernel
theorem dX2_setAllStand_15 : decode cX2_setAllStand 15 = .ok (.iinc 2 1, 3) := by decide +kernel
theorem dX2_setAllStand_18 : decode cX2_setAllStand 18 = .ok (.goto (-16), 3) := by decide +kernel
theorem dX2_setAllStand_21 : decode cX2_setAllStand 21 = .ok (.aload_n 0, 1) := by decide +kernel
theorem dX2_setAllStand_22 : decode cX2_setAllStand 22 = .ok (.invokevirtual 56, 3) := by decide +kernel
theorem dX2_setAllStand_25 : decode cX2_setAllStand 25 = .ok (.return_, 1) := by decide +kernel
theorem dX2_addMan_0 : decode cX2_addMan 0 = .ok (.aload_n 0, 1) := by decide +kernel
theorem dX2_addMan_1 : decode cX2_addMan 1 = .ok (.getfield 33, 3) := by decide +kernel
theorem dX2_addMan_4 : decode cX2_addMan 4 = .ok (.iconst 4, 1) := by decide +kernel
theorem dX2_addMan_5 : decode cX2_addMan 5 = .ok (.if_icmp .lt 5, 3) := by decide +kernel
theorem dX2_addMan_8 : decode cX2_addMan 8 = .ok (.iconst 0, 1) := by decide +kernel
theorem dX2_addMan_9 : decode cX2_addMan 9 = .ok (.ireturn, 1) := by decide +kernel
theorem dX2_addMan_10 : decode cX2_addMan 10 = .ok (.aload_n 0, 1) := by decide +kernel
theorem dX2_addMan_11 : decode cX2_addMan 11 = .ok (.getfield 9, 3) := by decide +kernel
theorem dX2_addMan_14 : decode cX2_addMan 14 = .ok (.aload_n 0, 1) := by decide +kernel
theorem dX2_addMan_15 : decode cX2_addMan 15 = .ok (.getfield 33, 3) := by decide +kernel
theorem dX2_addMan_18 : decode cX2_addMan 18 = .ok (.iload_n 1, 1) := by decide +kernel
theorem dX2_addMan_19 : decode cX2_addMan 19 = .ok (.iastore, 1) := by decide +kernel
theorem dX2_addMan_20 : decode cX2_addMan 20 = .ok (.aload_n 0, 1) := by decide +kernel
theorem dX2_addMan_21 : decode cX2_addMan 21 = .ok (.getfield 15, 3) := by decide +kernel
theorem dX2_addMan_24 : decode cX2_addMan 24 = .ok (.aload_n 0, 1) := by decide +kernel
theorem dX2_addMan_25 : decode cX2_addMan 25 = .ok (.getfield 33, 3) := by decide +kernel
theorem dX2_addMan_28 : decode cX2_addMan 28 = .ok (.iload_n 2, 1) := by decide +kernel
theorem dX2_addMan_29 : decode cX2_addMan 29 = .ok (.iastore, 1) := by decide +kernel
theorem dX2_addMan_30 : decode cX2_addMan 30 = .ok (.aload_n 0, 1) := by decide +kernel
theorem dX2_addMan_31 : decode cX2_addMan 31 = .ok (.dup, 1) := by decide +kernel
theorem dX2_addMan_32 : decode cX2_addMan 32 = .ok (.getfield 33, 3) := by decide +kernel
theorem dX2_addMan_35 : decode cX2_addMan 35 = .ok (.iconst 1, 1) := by decide +kernel
theorem dX2_addMan_36 : decode cX2_addMan 36 = .ok (.iadd, 1) := by decide +kernel
theorem dX2_addMan_37 : decode cX2_addMan 37 = .ok (.putfield 33, 3) := by decide +kernel
theorem dX2_addMan_40 : decode cX2_addMan 40 = .ok (.aload_n 0, 1) := by decide +kernel
theorem dX2_addMan_41 : decode cX2_addMan 41 = .ok (.invokevirtual 56, 3) := by decide +kernel
theorem dX2_addMan_44 : decode cX2_addMan 44 = .ok (.iconst 1, 1) := by decide +kernel
theorem dX2_addMan_45 : decode cX2_addMan 45 = .ok (.ireturn, 1) := by decide +kernel
theorem dX2_addDeed_0 : decode cX2_addDeed 0 = .ok (.aload_n 0, 1) := by decide +kernel
theorem dX2_addDeed_1 : decode cX2_addDeed 1 = .ok (.getfield 37, 3) := by decide +kernel
theorem dX2_addDeed_4 : decode cX2_addDeed 4 = .ok (.iconst 5, 1) := by decide +kernel
theorem dX2_addDeed_5 : decode cX2_addDeed 5 = .ok (.if_icmp .lt 5, 3) := by decide +kernel
theorem dX2_addDeed_8 : decode cX2_addDeed 8 = .ok (.iconst 0, 1) := by decide +kernel
theorem dX2_addDeed_9 : decode cX2_addDeed 9 = .ok (.ireturn, 1) := by decide +kernel
theorem dX2_addDeed_10 : decode cX2_addDeed 10 = .ok (.aload_n 0, 1) := by decide +kernel
theorem dX2_addDeed_11 : decode cX2_addDeed 11 = .ok (.getfield 21, 3) := by decide +kernel
theorem dX2_addDeed_14 : decode cX2_addDeed 14 = .ok (.aload_n 0, 1) := by decide +kernel
theorem dX2_addDeed_15 : decode cX2_addDeed 15 = .ok (.getfield 37, 3) := by decide +kernel
theorem dX2_addDeed_18 : decode cX2_addDeed 18 = .ok (.iload_n 1, 1) := by decide +kernel
theorem dX2_addDeed_19 : decode cX2_addDeed 19 = .ok (.iastore, 1) := by decide +kernel
theorem dX2_addDeed_20 : decode cX2_addDeed 20 = .ok (.aload_n 0, 1) := by decide +kernel
theorem dX2_addDeed_21 : decode cX2_addDeed 21 = .ok (.getfield 24, 3) := by decide +kernel
theorem dX2_addDeed_24 : decode cX2_addDeed 24 = .ok (.aload_n 0, 1) := by decide +kernel
theorem dX2_addDeed_25 : decode cX2_addDeed 25 = .ok (.getfield 37, 3) := by decide +kernel
theorem dX2_addDeed_28 : decode cX2_addDeed 28 = .ok (.iload_n 2, 1) := by decide +kernel
theorem dX2_addDeed_29 : decode cX2_addDeed 29 = .ok (.iastore, 1) := by decide +kernel
theorem dX2_addDeed_30 : decode cX2_addDeed 30 = .ok (.aload_n 0, 1) := by decide +kernel
theorem dX2_addDeed_31 : decode cX2_addDeed 31 = .ok (.dup, 1) := by decide +kernel
theorem dX2_addDeed_32 : decode cX2_addDeed 32 = .ok (.getfield 37, 3) := by decide +kernel
theorem dX2_addDeed_35 : decode cX2_addDeed 35 = .ok (.iconst 1, 1) := by decide +kernel
theorem dX2_addDeed_36 : decode cX2_addDeed 36 = .ok (.iadd, 1) := by decide +kernel
theorem dX2_addDeed_37 : decode cX2_addDeed 37 = .ok (.putfield 37, 3) := by decide +kernel
theorem dX2_addDeed_40 : decode cX2_addDeed 40 = .ok (.iconst 1, 1) := by decide +kernel
theorem dX2_addDeed_41 : decode cX2_addDeed 41 = .ok (.ireturn, 1) := by decide +kernel
theorem dX2_reckonBends_0 : decode cX2_reckonBends 0 = .ok (.iconst 0, 1) := by decide +kernel
theorem dX2_reckonBends_1 : decode cX2_reckonBends 1 = .ok (.istore_n 1, 1) := by decide +kernel
theorem dX2_reckonBends_2 : decode cX2_reckonBends 2 = .ok (.iconst 0, 1) := by decide +kernel
theorem dX2_reckonBends_3 : decode cX2_reckonBends 3 = .ok (.istore_n 2, 1) := by decide +kernel
theorem dX2_reckonBends_4 : decode cX2_reckonBends 4 = .ok (.iload_n 2, 1) := by decide +kernel
theorem dX2_reckonBends_5 : decode cX2_reckonBends 5 = .ok (.bipush 12, 2) := by decide +kernel
theorem dX2_reckonBends_7 : decode cX2_reckonBends 7 = .ok (.if_icmp .ge 96, 3) := by decide +kernel
theorem dX2_reckonBends_10 : decode cX2_reckonBends 10 = .ok (.aload_n 0, 1) := by decide +kernel
theorem dX2_reckonBends_11 : decode cX2_reckonBends 11 = .ok (.getfield 18, 3) := by decide +kernel
theorem dX2_reckonBends_14 : decode cX2_reckonBends 14 = .ok (.iload_n 2, 1) := by decide +kernel
theorem dX2_reckonBends_15 : decode cX2_reckonBends 15 = .ok (.iaload, 1) := by decide +kernel
theorem dX2_reckonBends_16 : decode cX2_reckonBends 16 = .ok (.istore_n 3, 1) := by decide +kernel
theorem dX2_reckonBends_17 : decode cX2_reckonBends 17 = .ok (.iload_n 2, 1) := by decide +kernel
theorem dX2_reckonBends_18 : decode cX2_reckonBends 18 = .ok (.ifCond .le 19, 3) := by decide +kernel
theorem dX2_reckonBends_21 : decode cX2_reckonBends 21 = .ok (.iload_n 3, 1) := by decide +kernel
theorem dX2_reckonBends_22 : decode cX2_reckonBends 22 = .ok (.aload_n 0, 1) := by decide +kernel
theorem dX2_reckonBends_23 : decode cX2_reckonBends 23 = .ok (.getfield 18, 3) := by decide +kernel
theorem dX2_reckonBends_26 : decode cX2_reckonBends 26 = .ok (.iload_n 2, 1) := by decide +kernel
theorem dX2_reckonBends_27 : decode cX2_reckonBends 27 = .ok (.iconst 1, 1) := by decide +kernel
theorem dX2_reckonBends_28 : decode cX2_reckonBends 28 = .ok (.isub, 1) := by decide +kernel
theorem dX2_reckonBends_29 : decode cX2_reckonBends 29 = .ok (.iaload, 1) := by decide +kernel
theorem dX2_reckonBends_30 : decode cX2_reckonBends 30 = .ok (.if_icmp .ne 7, 3) := by decide +kernel
theorem dX2_reckonBends_33 : decode cX2_reckonBends 33 = .ok (.iconst 1, 1) := by decide +kernel
theorem dX2_reckonBends_34 : decode cX2_reckonBends 34 = .ok (.goto 4, 3) := by decide +kernel
theorem dX2_reckonBends_37 : decode cX2_reckonBends 37 = .ok (.iconst 0, 1) := by decide +kernel
theorem dX2_reckonBends_38 : decode cX2_reckonBends 38 = .ok (.istore 4, 2) := by decide +kernel
theorem dX2_reckonBends_40 : decode cX2_reckonBends 40 = .ok (.iload 4, 2) := by decide +kernel
theorem dX2_reckonBends_42 : decode cX2_reckonBends 42 = .ok (.ifCond .eq 9, 3) := by decide +kernel
theorem dX2_reckonBends_45 : decode cX2_reckonBends 45 = .ok (.iload_n 1, 1) := by decide +kernel
theorem dX2_reckonBends_46 : decode cX2_reckonBends 46 = .ok (.iconst 4, 1) := by decide +kernel
theorem dX2_reckonBends_47 : decode cX2_reckonBends 47 = .ok (.iadd, 1) := by decide +kernel
theorem dX2_reckonBends_48 : decode cX2_reckonBends 48 = .ok (.goto 4, 3) := by decide +kernel
theorem dX2_reckonBends_51 : decode cX2_reckonBends 51 = .ok (.iconst 0, 1) := by decide +kernel
theorem dX2_reckonBends_52 : decode cX2_reckonBends 52 = .ok (.istore_n 1, 1) := by decide +kernel
theorem dX2_reckonBends_53 : decode cX2_reckonBends 53 = .ok (.aload_n 0, 1) := by decide +kernel
theorem dX2_reckonBends_54 : decode cX2_reckonBends 54 = .ok (.getfield 27, 3) := by decide +kernel
theorem dX2_reckonBends_57 : decode cX2_reckonBends 57 = .ok (.iload_n 2, 1) := by decide +kernel
theorem dX2_reckonBends_58 : decode cX2_reckonBends 58 = .ok (.aload_n 0, 1) := by decide +kernel
theorem dX2_reckonBends_59 : decode cX2_reckonBends 59 = .ok (.iload_n 3, 1) := by decide +kernel
theorem dX2_reckonBends_60 : decode cX2_reckonBends 60 = .ok (.invokevirtual 59, 3) := by decide +kernel
theorem dX2_reckonBends_63 : decode cX2_reckonBends 63 = .ok (.ifCond .eq 32, 3) := by decide +kernel
theorem dX2_reckonBends_66 : decode cX2_reckonBends 66 = .ok (.aload_n 0, 1) := by decide +kernel
theorem dX2_reckonBends_67 : decode cX2_reckonBends 67 = .ok (.getfield 9, 3) := by decide +kernel
theorem dX2_reckonBends_70 : decode cX2_reckonBends 70 = .ok (.iload_n 3, 1) := by decide +kernel
theorem dX2_reckonBends_71 : decode cX2_reckonBends 71 = .ok (.iaload, 1) := by decide +kernel
theorem dX2_reckonBends_72 : decode cX2_reckonBends 72 = .ok (.iload_n 2, 1) := by decide +kernel
theorem dX2_reckonBends_73 : decode cX2_reckonBends 73 = .ok (.iload_n 1, 1) := by decide +kernel
theorem dX2_reckonBends_74 : decode cX2_reckonBends 74 = .ok (.invokestatic 63, 3) := by decide +kernel
theorem dX2_reckonBends_77 : decode cX2_reckonBends 77 = .ok (.aload_n 0, 1) := by decide +kernel
theorem dX2_reckonBends_78 : decode cX2_reckonBends 78 = .ok (.getfield 15, 3) := by decide +kernel
theorem dX2_reckonBends_81 : decode cX2_reckonBends 81 = .ok (.iload_n 3, 1) := by decide +kernel
theorem dX2_reckonBends_82 : decode cX2_reckonBends 82 = .ok (.iaload, 1) := by decide +kernel
theorem dX2_reckonBends_83 : decode cX2_reckonBends 83 = .ok (.iadd, 1) := by decide +kernel
theorem dX2_reckonBends_84 : decode cX2_reckonBends 84 = .ok (.aload_n 0, 1) := by decide +kernel
theorem dX2_reckonBends_85 : decode cX2_reckonBends 85 = .ok (.getfield 43, 3) := by decide +kernel
theorem dX2_reckonBends_88 : decode cX2_reckonBends 88 = .ok (.iadd, 1) := by decide +kernel
theorem dX2_reckonBends_89 : decode cX2_reckonBends 89 = .ok (.bipush 6, 2) := by decide +kernel
theorem dX2_reckonBends_91 : decode cX2_reckonBends 91 = .ok (.isub, 1) := by decide +kernel
theorem dX2_reckonBends_92 : decode cX2_reckonBends 92 = .ok (.goto 4, 3) := by decide +kernel
theorem dX2_reckonBends_95 : decode cX2_reckonBends 95 = .ok (.iconst 0, 1) := by decide +kernel
theorem dX2_reckonBends_96 : decode cX2_reckonBends 96 = .ok (.iastore, 1) := by decide +kernel
theorem dX2_reckonBends_97 : decode cX2_reckonBends 97 = .ok (.iinc 2 1, 3) := by decide +kernel
theorem dX2_reckonBends_100 : decode cX2_reckonBends 100 = .ok (.goto (-96), 3) := by decide +kernel
theorem dX2_reckonBends_103 : decode cX2_reckonBends 103 = .ok (.return_, 1) := by decide +kernel
theorem dX2_slip_0 : decode cX2_slip 0 = .ok (.iload_n 0, 1) := by decide +kernel
theorem dX2_slip_1 : decode cX2_slip 1 = .ok (.tableswitch 48 1 3 #[27, 29, 36], 27) := by decide +kernel
theorem dX2_slip_28 : decode cX2_slip 28 = .ok (.iconst (-1), 1) := by decide +kernel
theorem dX2_slip_29 : decode cX2_slip 29 = .ok (.ireturn, 1) := by decide +kernel
theorem dX2_slip_30 : decode cX2_slip 30 = .ok (.iconst (-1), 1) := by decide +kernel
theorem dX2_slip_31 : decode cX2_slip 31 = .ok (.iload_n 2, 1) := by decide +kernel
theorem dX2_slip_32 : decode cX2_slip 32 = .ok (.bipush 8, 2) := by decide +kernel
theorem dX2_slip_34 : decode cX2_slip 34 = .ok (.idiv, 1) := by decide +kernel
theorem dX2_slip_35 : decode cX2_slip 35 = .ok (.isub, 1) := by decide +kernel
theorem dX2_slip_36 : decode cX2_slip 36 = .ok (.ireturn, 1) := by decide +kernel
theorem dX2_slip_37 : decode cX2_slip 37 = .ok (.iload_n 1, 1) := by decide +kernel
theorem dX2_slip_38 : decode cX2_slip 38 = .ok (.iconst 2, 1) := by decide +kernel
theorem dX2_slip_39 : decode cX2_slip 39 = .ok (.irem, 1) := by decide +kernel
theorem dX2_slip_40 : decode cX2_slip 40 = .ok (.ifCond .ne 7, 3) := by decide +kernel
theorem dX2_slip_43 : decode cX2_slip 43 = .ok (.iconst 1, 1) := by decide +kernel
theorem dX2_slip_44 : decode cX2_slip 44 = .ok (.goto 4, 3) := by decide +kernel
theorem dX2_slip_47 : decode cX2_slip 47 = .ok (.iconst (-1), 1) := by decide +kernel
theorem dX2_slip_48 : decode cX2_slip 48 = .ok (.ireturn, 1) := by decide +kernel
theorem dX2_slip_49 : decode cX2_slip 49 = .ok (.iconst 0, 1) := by decide +kernel
theorem dX2_slip_50 : decode cX2_slip 50 = .ok (.ireturn, 1) := by decide +kernel
theorem dX2_readsIn_0 : decode cX2_readsIn 0 = .ok (.aload_n 0, 1) := by decide +kernel
theorem dX2_readsIn_1 : decode cX2_readsIn 1 = .ok (.getfield 18, 3) := by decide +kernel
theorem dX2_readsIn_4 : decode cX2_readsIn 4 = .ok (.iload_n 1, 1) := by decide +kernel
theorem dX2_readsIn_5 : decode cX2_readsIn 5 = .ok (.iaload, 1) := by decide +kernel
theorem dX2_readsIn_6 : decode cX2_readsIn 6 = .ok (.bipush (-4), 2) := by decide +kernel
theorem dX2_readsIn_8 : decode cX2_readsIn 8 = .ok (.if_icmp .eq 15, 3) := by decide +kernel
theorem dX2_readsIn_11 : decode cX2_readsIn 11 = .ok (.aload_n 0, 1) := by decide +kernel
theorem dX2_readsIn_12 : decode cX2_readsIn 12 = .ok (.iload_n 1, 1) := by decide +kernel
theorem dX2_readsIn_13 : decode cX2_readsIn 13 = .ok (.invokevirtual 67, 3) := by decide +kernel
theorem dX2_readsIn_16 : decode cX2_readsIn 16 = .ok (.ifCond .ne 7, 3) := by decide +kernel
theorem dX2_readsIn_19 : decode cX2_readsIn 19 = .ok (.iconst 1, 1) := by decide +kernel
theorem dX2_readsIn_20 : decode cX2_readsIn 20 = .ok (.goto 4, 3) := by decide +kernel
theorem dX2_readsIn_23 : decode cX2_readsIn 23 = .ok (.iconst 0, 1) := by decide +kernel
theorem dX2_readsIn_24 : decode cX2_readsIn 24 = .ok (.ireturn, 1) := by decide +kernel
theorem dX2_reading_0 : decode cX2_reading 0 = .ok (.iload_n 1, 1) := by decide +kernel
theorem dX2_reading_1 : decode cX2_reading 1 = .ok (.iconst 4, 1) := by decide +kernel
theorem dX2_reading_2 : decode cX2_reading 2 = .ok (.idiv, 1) := by decide +kernel
theorem dX2_reading_3 : decode cX2_reading 3 = .ok (.istore_n 2, 1) := by decide +kernel
theorem dX2_reading_4 : decode cX2_reading 4 = .ok (.aload_n 0, 1) := by decide +kernel
theorem dX2_reading_5 : decode cX2_reading 5 = .ok (.iload_n 2, 1) := by decide +kernel
theorem dX2_reading_6 : decode cX2_reading 6 = .ok (.invokevirtual 70, 3) := by decide +kernel
theorem dX2_reading_9 : decode cX2_reading 9 = .ok (.ifCond .ne 6, 3) := by decide +kernel
theorem dX2_reading_12 : decode cX2_reading 12 = .ok (.bipush (-4), 2) := by decide +kernel
theorem dX2_reading_14 : decode cX2_reading 14 = .ok (.ireturn, 1) := by decide +kernel
theorem dX2_reading_15 : decode cX2_reading 15 = .ok (.iconst 0, 1) := by decide +kernel
theorem dX2_reading_16 : decode cX2_reading 16 = .ok (.bipush 47, 2) := by decide +kernel
theorem dX2_reading_18 : decode cX2_reading 18 = .ok (.iload_n 1, 1) := by decide +kernel
theorem dX2_reading_19 : decode cX2_reading 19 = .ok (.aload_n 0, 1) := by decide +kernel
theorem dX2_reading_20 : decode cX2_reading 20 = .ok (.getfield 27, 3) := by decide +kernel
theorem dX2_reading_23 : decode cX2_reading 23 = .ok (.iload_n 2, 1) := by decide +kernel
theorem dX2_reading_24 : decode cX2_reading 24 = .ok (.iaload, 1) := by decide +kernel
theorem dX2_reading_25 : decode cX2_reading 25 = .ok (.iadd, 1) := by decide +kernel
theorem dX2_reading_26 : decode cX2_reading 26 = .ok (.invokestatic 73, 3) := by decide +kernel
theorem dX2_reading_29 : decode cX2_reading 29 = .ok (.invokestatic 79, 3) := by decide +kernel
theorem dX2_reading_32 : decode cX2_reading 32 = .ok (.ireturn, 1) := by decide +kernel
theorem dX2_firstIn_0 : decode cX2_firstIn 0 = .ok (.aload_n 0, 1) := by decide +kernel
theorem dX2_firstIn_1 : decode cX2_firstIn 1 = .ok (.iload_n 1, 1) := by decide +kernel
theorem dX2_firstIn_2 : decode cX2_firstIn 2 = .ok (.invokevirtual 70, 3) := by decide +kernel
theorem dX2_firstIn_5 : decode cX2_firstIn 5 = .ok (.ifCond .ne 6, 3) := by decide +kernel
theorem dX2_firstIn_8 : decode cX2_firstIn 8 = .ok (.bipush (-4), 2) := by decide +kernel
theorem dX2_firstIn_10 : decode cX2_firstIn 10 = .ok (.ireturn, 1) := by decide +kernel
theorem dX2_firstIn_11 : decode cX2_firstIn 11 = .ok (.iload_n 1, 1) := by decide +kernel
theorem dX2_firstIn_12 : decode cX2_firstIn 12 = .ok (.iconst 4, 1) := by decide +kernel
theorem dX2_firstIn_13 : decode cX2_firstIn 13 = .ok (.imul, 1) := by decide +kernel
theorem dX2_firstIn_14 : decode cX2_firstIn 14 = .ok (.istore_n 3, 1) := by decide +kernel
theorem dX2_firstIn_15 : decode cX2_firstIn 15 = .ok (.iload_n 2, 1) := by decide +kernel
theorem dX2_firstIn_16 : decode cX2_firstIn 16 = .ok (.ifCond .ne 7, 3) := by decide +kernel
theorem dX2_firstIn_19 : decode cX2_firstIn 19 = .ok (.iload_n 3, 1) := by decide +kernel
theorem dX2_firstIn_20 : decode cX2_firstIn 20 = .ok (.goto 15, 3) := by decide +kernel
theorem dX2_firstIn_23 : decode cX2_firstIn 23 = .ok (.iload_n 3, 1) := by decide +kernel
theorem dX2_firstIn_24 : decode cX2_firstIn 24 = .ok (.iload_n 2, 1) := by decide +kernel
theorem dX2_firstIn_25 : decode cX2_firstIn 25 = .ok (.aload_n 0, 1) := by decide +kernel
theorem dX2_firstIn_26 : decode cX2_firstIn 26 = .ok (.getfield 27, 3) := by decide +kernel
theorem dX2_firstIn_29 : decode cX2_firstIn 29 = .ok (.iload_n 1, 1) := by decide +kernel
theorem dX2_firstIn_30 : decode cX2_firstIn 30 = .ok (.iaload, 1) := by decide +kernel
theorem dX2_firstIn_31 : decode cX2_firstIn 31 = .ok (.isub, 1) := by decide +kernel
theorem dX2_firstIn_32 : decode cX2_firstIn 32 = .ok (.invokestatic 79, 3) := by decide +kernel
theorem dX2_firstIn_35 : decode cX2_firstIn 35 = .ok (.istore 4, 2) := by decide +kernel
theorem dX2_firstIn_37 : decode cX2_firstIn 37 = .ok (.iload 4, 2) := by decide +kernel
theorem dX2_firstIn_39 : decode cX2_firstIn 39 = .ok (.iload_n 3, 1) := by decide +kernel
theorem dX2_firstIn_40 : decode cX2_firstIn 40 = .ok (.iconst 4, 1) := by decide +kernel
theorem dX2_firstIn_41 : decode cX2_firstIn 41 = .ok (.iadd, 1) := by decide +kernel
theorem dX2_firstIn_42 : decode cX2_firstIn 42 = .ok (.if_icmp .ge 8, 3) := by decide +kernel
theorem dX2_firstIn_45 : decode cX2_firstIn 45 = .ok (.iload 4, 2) := by decide +kernel
theorem dX2_firstIn_47 : decode cX2_firstIn 47 = .ok (.goto 5, 3) := by decide +kernel
theorem dX2_firstIn_50 : decode cX2_firstIn 50 = .ok (.bipush (-4), 2) := by decide +kernel
theorem dX2_firstIn_52 : decode cX2_firstIn 52 = .ok (.ireturn, 1) := by decide +kernel
theorem dX2_doneAt_0 : decode cX2_doneAt 0 = .ok (.iconst 0, 1) := by decide +kernel
theorem dX2_doneAt_1 : decode cX2_doneAt 1 = .ok (.istore_n 2, 1) := by decide +kernel
theorem dX2_doneAt_2 : decode cX2_doneAt 2 = .ok (.iload_n 2, 1) := by decide +kernel
theorem dX2_doneAt_3 : decode cX2_doneAt 3 = .ok (.bipush 12, 2) := by decide +kernel
theorem dX2_doneAt_5 : decode cX2_doneAt 5 = .ok (.if_icmp .ge 29, 3) := by decide +kernel
theorem dX2_doneAt_8 : decode cX2_doneAt 8 = .ok (.aload_n 0, 1) := by decide +kernel
theorem dX2_doneAt_9 : decode cX2_doneAt 9 = .ok (.iload_n 2, 1) := by decide +kernel
theorem dX2_doneAt_10 : decode cX2_doneAt 10 = .ok (.aload_n 0, 1) := by decide +kernel
theorem dX2_doneAt_11 : decode cX2_doneAt 11 = .ok (.getfield 21, 3) := by decide +kernel
theorem dX2_doneAt_14 : decode cX2_doneAt 14 = .ok (.iload_n 1, 1) := by decide +kernel
theorem dX2_doneAt_15 : decode cX2_doneAt 15 = .ok (.iaload, 1) := by decide +kernel
theorem dX2_doneAt_16 : decode cX2_doneAt 16 = .ok (.invokevirtual 82, 3) := by decide +kernel
theorem dX2_doneAt_19 : decode cX2_doneAt 19 = .ok (.istore_n 3, 1) := by decide +kernel
theorem dX2_doneAt_20 : decode cX2_doneAt 20 = .ok (.iload_n 3, 1) := by decide +kernel
theorem dX2_doneAt_21 : decode cX2_doneAt 21 = .ok (.bipush (-4), 2) := by decide +kernel
theorem dX2_doneAt_23 : decode cX2_doneAt 23 = .ok (.if_icmp .eq 5, 3) := by decide +kernel
theorem dX2_doneAt_26 : decode cX2_doneAt 26 = .ok (.iload_n 3, 1) := by decide +kernel
theorem dX2_doneAt_27 : decode cX2_doneAt 27 = .ok (.ireturn, 1) := by decide +kernel
theorem dX2_doneAt_28 : decode cX2_doneAt 28 = .ok (.iinc 2 1, 3) := by decide +kernel
theorem dX2_doneAt_31 : decode cX2_doneAt 31 = .ok (.goto (-29), 3) := by decide +kernel
theorem dX2_doneAt_34 : decode cX2_doneAt 34 = .ok (.bipush (-4), 2) := by decide +kernel
theorem dX2_doneAt_36 : decode cX2_doneAt 36 = .ok (.ireturn, 1) := by decide +kernel
theorem dX2_harmAt_0 : decode cX2_harmAt 0 = .ok (.aload_n 0, 1) := by decide +kernel
theorem dX2_harmAt_1 : decode cX2_harmAt 1 = .ok (.getfield 24, 3) := by decide +kernel
theorem dX2_harmAt_4 : decode cX2_harmAt 4 = .ok (.iload_n 1, 1) := by decide +kernel
theorem dX2_harmAt_5 : decode cX2_harmAt 5 = .ok (.iaload, 1) := by decide +kernel
theorem dX2_harmAt_6 : decode cX2_harmAt 6 = .ok (.iload_n 2, 1) := by decide +kernel
theorem dX2_harmAt_7 : decode cX2_harmAt 7 = .ok (.bipush (-4), 2) := by decide +kernel
theorem dX2_harmAt_9 : decode cX2_harmAt 9 = .ok (.if_icmp .ne 8, 3) := by decide +kernel
theorem dX2_harmAt_12 : decode cX2_harmAt 12 = .ok (.bipush 48, 2) := by decide +kernel
theorem dX2_harmAt_14 : decode cX2_harmAt 14 = .ok (.goto 14, 3) := by decide +kernel
theorem dX2_harmAt_17 : decode cX2_harmAt 17 = .ok (.iload_n 2, 1) := by decide +kernel
theorem dX2_harmAt_18 : decode cX2_harmAt 18 = .ok (.aload_n 0, 1) := by decide +kernel
theorem dX2_harmAt_19 : decode cX2_harmAt 19 = .ok (.getfield 21, 3) := by decide +kernel
theorem dX2_harmAt_22 : decode cX2_harmAt 22 = .ok (.iload_n 1, 1) := by decide +kernel
theorem dX2_harmAt_23 : decode cX2_harmAt 23 = .ok (.iaload, 1) := by decide +kernel
theorem dX2_harmAt_24 : decode cX2_harmAt 24 = .ok (.isub, 1) := by decide +kernel
theorem dX2_harmAt_25 : decode cX2_harmAt 25 = .ok (.invokestatic 85, 3) := by decide +kernel
theorem dX2_harmAt_28 : decode cX2_harmAt 28 = .ok (.imul, 1) := by decide +kernel
theorem dX2_harmAt_29 : decode cX2_harmAt 29 = .ok (.ireturn, 1) := by decide +kernel
theorem dX2_harm_0 : decode cX2_harm 0 = .ok (.iconst 0, 1) := by decide +kernel
theorem dX2_harm_1 : decode cX2_harm 1 = .ok (.istore_n 1, 1) := by decide +kernel
theorem dX2_harm_2 : decode cX2_harm 2 = .ok (.iconst 0, 1) := by decide +kernel
theorem dX2_harm_3 : decode cX2_harm 3 = .ok (.istore_n 2, 1) := by decide +kernel
theorem dX2_harm_4 : decode cX2_harm 4 = .ok (.iload_n 2, 1) := by decide +kernel
theorem dX2_harm_5 : decode cX2_harm 5 = .ok (.aload_n 0, 1) := by decide +kernel
theorem dX2_harm_6 : decode cX2_harm 6 = .ok (.getfield 37, 3) := by decide +kernel
theorem dX2_harm_9 : decode cX2_harm 9 = .ok (.if_icmp .ge 22, 3) := by decide +kernel
theorem dX2_harm_12 : decode cX2_harm 12 = .ok (.iload_n 1, 1) := by decide +kernel
theorem dX2_harm_13 : decode cX2_harm 13 = .ok (.aload_n 0, 1) := by decide +kernel
theorem dX2_harm_14 : decode cX2_harm 14 = .ok (.iload_n 2, 1) := by decide +kernel
theorem dX2_harm_15 : decode cX2_harm 15 = .ok (.aload_n 0, 1) := by decide +kernel
theorem dX2_harm_16 : decode cX2_harm 16 = .ok (.iload_n 2, 1) := by decide +kernel
theorem dX2_harm_17 : decode cX2_harm 17 = .ok (.invokevirtual 89, 3) := by decide +kernel
theorem dX2_harm_20 : decode cX2_harm 20 = .ok (.invokevirtual 92, 3) := by decide +kernel
theorem dX2_harm_23 : decode cX2_harm 23 = .ok (.iadd, 1) := by decide +kernel
theorem dX2_harm_24 : decode cX2_harm 24 = .ok (.istore_n 1, 1) := by decide +kernel
theorem dX2_harm_25 : decode cX2_harm 25 = .ok (.iinc 2 1, 3) := by decide +kernel
theorem dX2_harm_28 : decode cX2_harm 28 = .ok (.goto (-24), 3) := by decide +kernel
theorem dX2_harm_31 : decode cX2_harm 31 = .ok (.iload_n 1, 1) := by decide +kernel
theorem dX2_harm_32 : decode cX2_harm 32 = .ok (.ireturn, 1) := by decide +kernel
theorem dX2_hoursStood_0 : decode cX2_hoursStood 0 = .ok (.iconst 0, 1) := by decide +kernel
theorem dX2_hoursStood_1 : decode cX2_hoursStood 1 = .ok (.istore_n 1, 1) := by decide +kernel
theorem dX2_hoursStood_2 : decode cX2_hoursStood 2 = .ok (.iconst 0, 1) := by decide +kernel
theorem dX2_hoursStood_3 : decode cX2_hoursStood 3 = .ok (.istore_n 2, 1) := by decide +kernel
theorem dX2_hoursStood_4 : decode cX2_hoursStood 4 = .ok (.iload_n 2, 1) := by decide +kernel
theorem dX2_hoursStood_5 : decode cX2_hoursStood 5 = .ok (.bipush 12, 2) := by decide +kernel
theorem dX2_hoursStood_7 : decode cX2_hoursStood 7 = .ok (.if_icmp .ge 26, 3) := by decide +kernel
theorem dX2_hoursStood_10 : decode cX2_hoursStood 10 = .ok (.aload_n 0, 1) := by decide +kernel
theorem dX2_hoursStood_11 : decode cX2_hoursStood 11 = .ok (.getfield 18, 3) := by decide +kernel
theorem dX2_hoursStood_14 : decode cX2_hoursStood 14 = .ok (.iload_n 2, 1) := by decide +kernel
theorem dX2_hoursStood_15 : decode cX2_hoursStood 15 = .ok (.iaload, 1) := by decide +kernel
theorem dX2_hoursStood_16 : decode cX2_hoursStood 16 = .ok (.bipush (-4), 2) := by decide +kernel
theorem dX2_hoursStood_18 : decode cX2_hoursStood 18 = .ok (.if_icmp .eq 9, 3) := by decide +kernel
theorem dX2_hoursStood_21 : decode cX2_hoursStood 21 = .ok (.iload_n 1, 1) := by decide +kernel
theorem dX2_hoursStood_22 : decode cX2_hoursStood 22 = .ok (.iconst 1, 1) := by decide +kernel
theorem dX2_hoursStood_23 : decode cX2_hoursStood 23 = .ok (.iload_n 2, 1) := by decide +kernel
theorem dX2_hoursStood_24 : decode cX2_hoursStood 24 = .ok (.ishl, 1) := by decide +kernel
theorem dX2_hoursStood_25 : decode cX2_hoursStood 25 = .ok (.ior, 1) := by decide +kernel
theorem dX2_hoursStood_26 : decode cX2_hoursStood 26 = .ok (.istore_n 1, 1) := by decide +kernel
theorem dX2_hoursStood_27 : decode cX2_hoursStood 27 = .ok (.iinc 2 1, 3) := by decide +kernel
theorem dX2_hoursStood_30 : decode cX2_hoursStood 30 = .ok (.goto (-26), 3) := by decide +kernel
theorem dX2_hoursStood_33 : decode cX2_hoursStood 33 = .ok (.iload_n 1, 1) := by decide +kernel
theorem dX2_hoursStood_34 : decode cX2_hoursStood 34 = .ok (.ireturn, 1) := by decide +kernel
theorem dX2_hoursOf_0 : decode cX2_hoursOf 0 = .ok (.iconst 0, 1) := by decide +kernel
theorem dX2_hoursOf_1 : decode cX2_hoursOf 1 = .ok (.istore_n 2, 1) := by decide +kernel
theorem dX2_hoursOf_2 : decode cX2_hoursOf 2 = .ok (.iconst 0, 1) := by decide +kernel
theorem dX2_hoursOf_3 : decode cX2_hoursOf 3 = .ok (.istore_n 3, 1) := by decide +kernel
theorem dX2_hoursOf_4 : decode cX2_hoursOf 4 = .ok (.iload_n 3, 1) := by decide +kernel
theorem dX2_hoursOf_5 : decode cX2_hoursOf 5 = .ok (.bipush 12, 2) := by decide +kernel
theorem dX2_hoursOf_7 : decode cX2_hoursOf 7 = .ok (.if_icmp .ge 25, 3) := by decide +kernel
theorem dX2_hoursOf_10 : decode cX2_hoursOf 10 = .ok (.aload_n 0, 1) := by decide +kernel
theorem dX2_hoursOf_11 : decode cX2_hoursOf 11 = .ok (.getfield 18, 3) := by decide +kernel
theorem dX2_hoursOf_14 : decode cX2_hoursOf 14 = .ok (.iload_n 3, 1) := by decide +kernel
theorem dX2_hoursOf_15 : decode cX2_hoursOf 15 = .ok (.iaload, 1) := by decide +kernel
theorem dX2_hoursOf_16 : decode cX2_hoursOf 16 = .ok (.iload_n 1, 1) := by decide +kernel
theorem dX2_hoursOf_17 : decode cX2_hoursOf 17 = .ok (.if_icmp .ne 9, 3) := by decide +kernel
theorem dX2_hoursOf_20 : decode cX2_hoursOf 20 = .ok (.iload_n 2, 1) := by decide +kernel
theorem dX2_hoursOf_21 : decode cX2_hoursOf 21 = .ok (.iconst 1, 1) := by decide +kernel
theorem dX2_hoursOf_22 : decode cX2_hoursOf 22 = .ok (.iload_n 3, 1) := by decide +kernel
theorem dX2_hoursOf_23 : decode cX2_hoursOf 23 = .ok (.ishl, 1) := by decide +kernel
theorem dX2_hoursOf_24 : decode cX2_hoursOf 24 = .ok (.ior, 1) := by decide +kernel
theorem dX2_hoursOf_25 : decode cX2_hoursOf 25 = .ok (.istore_n 2, 1) := by decide +kernel
theorem dX2_hoursOf_26 : decode cX2_hoursOf 26 = .ok (.iinc 3 1, 3) := by decide +kernel
theorem dX2_hoursOf_29 : decode cX2_hoursOf 29 = .ok (.goto (-25), 3) := by decide +kernel
theorem dX2_hoursOf_32 : decode cX2_hoursOf 32 = .ok (.iload_n 2, 1) := by decide +kernel
theorem dX2_hoursOf_33 : decode cX2_hoursOf 33 = .ok (.ireturn, 1) := by decide +kernel
theorem dX2_longestStood_0 : decode cX2_longestStood 0 = .ok (.iconst 0, 1) := by decide +kernel
theorem dX2_longestStood_1 : decode cX2_longestStood 1 = .ok (.istore_n 2, 1) := by decide +kernel
theorem dX2_longestStood_2 : decode cX2_longestStood 2 = .ok (.iconst 0, 1) := by decide +kernel
theorem dX2_longestStood_3 : decode cX2_longestStood 3 = .ok (.istore_n 3, 1) := by decide +kernel
theorem dX2_longestStood_4 : decode cX2_longestStood 4 = .ok (.iconst 0, 1) := by decide +kernel
theorem dX2_longestStood_5 : decode cX2_longestStood 5 = .ok (.istore 4, 2) := by decide +kernel
theorem dX2_longestStood_7 : decode cX2_longestStood 7 = .ok (.iload 4, 2) := by decide +kernel
theorem dX2_longestStood_9 : decode cX2_longestStood 9 = .ok (.bipush 12, 2) := by decide +kernel
theorem dX2_longestStood_11 : decode cX2_longestStood 11 = .ok (.if_icmp .ge 34, 3) := by decide +kernel
theorem dX2_longestStood_14 : decode cX2_longestStood 14 = .ok (.aload_n 0, 1) := by decide +kernel
theorem dX2_longestStood_15 : decode cX2_longestStood 15 = .ok (.getfield 18, 3) := by decide +kernel
theorem dX2_longestStood_18 : decode cX2_longestStood 18 = .ok (.iload 4, 2) := by decide +kernel
theorem dX2_longestStood_20 : decode cX2_longestStood 20 = .ok (.iaload, 1) := by decide +kernel
theorem dX2_longestStood_21 : decode cX2_longestStood 21 = .ok (.iload_n 1, 1) := by decide +kernel
theorem dX2_longestStood_22 : decode cX2_longestStood 22 = .ok (.if_icmp .ne 9, 3) := by decide +kernel
theorem dX2_longestStood_25 : decode cX2_longestStood 25 = .ok (.iload_n 2, 1) := by decide +kernel
theorem dX2_longestStood_26 : decode cX2_longestStood 26 = .ok (.iconst 1, 1) := by decide +kernel
theorem dX2_longestStood_27 : decode cX2_longestStood 27 = .ok (.iadd, 1) := by decide +kernel
theorem dX2_longestStood_28 : decode cX2_longestStood 28 = .ok (.goto 4, 3) := by decide +kernel
theorem dX2_longestStood_31 : decode cX2_longestStood 31 = .ok (.iconst 0, 1) := by decide +kernel
theorem dX2_longestStood_32 : decode cX2_longestStood 32 = .ok (.istore_n 2, 1) := by decide +kernel
theorem dX2_longestStood_33 : decode cX2_longestStood 33 = .ok (.iload_n 3, 1) := by decide +kernel
theorem dX2_longestStood_34 : decode cX2_longestStood 34 = .ok (.iload_n 2, 1) := by decide +kernel
theorem dX2_longestStood_35 : decode cX2_longestStood 35 = .ok (.invokestatic 79, 3) := by decide +kernel
theorem dX2_longestStood_38 : decode cX2_longestStood 38 = .ok (.istore_n 3, 1) := by decide +kernel
theorem dX2_longestStood_39 : decode cX2_longestStood 39 = .ok (.iinc 4 1, 3) := by decide +kernel
theorem dX2_longestStood_42 : decode cX2_longestStood 42 = .ok (.goto (-35), 3) := by decide +kernel
theorem dX2_longestStood_45 : decode cX2_longestStood 45 = .ok (.iload_n 3, 1) := by decide +kernel
theorem dX2_longestStood_46 : decode cX2_longestStood 46 = .ok (.ifCond .ne 8, 3) := by decide +kernel
theorem dX2_longestStood_49 : decode cX2_longestStood 49 = .ok (.bipush (-4), 2) := by decide +kernel
theorem dX2_longestStood_51 : decode cX2_longestStood 51 = .ok (.goto 8, 3) := by decide +kernel
theorem dX2_longestStood_54 : decode cX2_longestStood 54 = .ok (.iload_n 3, 1) := by decide +kernel
theorem dX2_longestStood_55 : decode cX2_longestStood 55 = .ok (.iconst 4, 1) := by decide +kernel
theorem dX2_longestStood_56 : decode cX2_longestStood 56 = .ok (.imul, 1) := by decide +kernel
theorem dX2_longestStood_57 : decode cX2_longestStood 57 = .ok (.iconst 1, 1) := by decide +kernel
theorem dX2_longestStood_58 : decode cX2_longestStood 58 = .ok (.isub, 1) := by decide +kernel
theorem dX2_longestStood_59 : decode cX2_longestStood 59 = .ok (.ireturn, 1) := by decide +kernel
theorem dX2_allWhoStandAreThere_0 : decode cX2_allWhoStandAreThere 0 = .ok (.iconst 0, 1) := by decide +kernel
theorem dX2_allWhoStandAreThere_1 : decode cX2_allWhoStandAreThere 1 = .ok (.istore_n 1, 1) := by decide +kernel
theorem dX2_allWhoStandAreThere_2 : decode cX2_allWhoStandAreThere 2 = .ok (.iload_n 1, 1) := by decide +kernel
theorem dX2_allWhoStandAreThere_3 : decode cX2_allWhoStandAreThere 3 = .ok (.bipush 12, 2) := by decide +kernel
theorem dX2_allWhoStandAreThere_5 : decode cX2_allWhoStandAreThere 5 = .ok (.if_icmp .ge 35, 3) := by decide +kernel
theorem dX2_allWhoStandAreThere_8 : decode cX2_allWhoStandAreThere 8 = .ok (.aload_n 0, 1) := by decide +kernel
theorem dX2_allWhoStandAreThere_9 : decode cX2_allWhoStandAreThere 9 = .ok (.getfield 18, 3) := by decide +kernel
theorem dX2_allWhoStandAreThere_12 : decode cX2_allWhoStandAreThere 12 = .ok (.iload_n 1, 1) := by decide +kernel
theorem dX2_allWhoStandAreThere_13 : decode cX2_allWhoStandAreThere 13 = .ok (.iaload, 1) := by decide +kernel
theorem dX2_allWhoStandAreThere_14 : decode cX2_allWhoStandAreThere 14 = .ok (.bipush (-4), 2) := by decide +kernel
theorem dX2_allWhoStandAreThere_16 : decode cX2_allWhoStandAreThere 16 = .ok (.if_icmp .eq 18, 3) := by decide +kernel
theorem dX2_allWhoStandAreThere_19 : decode cX2_allWhoStandAreThere 19 = .ok (.aload_n 0, 1) := by decide +kernel
theorem dX2_allWhoStandAreThere_20 : decode cX2_allWhoStandAreThere 20 = .ok (.aload_n 0, 1) := by decide +kernel
theorem dX2_allWhoStandAreThere_21 : decode cX2_allWhoStandAreThere 21 = .ok (.getfield 18, 3) := by decide +kernel
theorem dX2_allWhoStandAreThere_24 : decode cX2_allWhoStandAreThere 24 = .ok (.iload_n 1, 1) := by decide +kernel
theorem dX2_allWhoStandAreThere_25 : decode cX2_allWhoStandAreThere 25 = .ok (.iaload, 1) := by decide +kernel
theorem dX2_allWhoStandAreThere_26 : decode cX2_allWhoStandAreThere 26 = .ok (.invokevirtual 59, 3) := by decide +kernel
theorem dX2_allWhoStandAreThere_29 : decode cX2_allWhoStandAreThere 29 = .ok (.ifCond .ne 5, 3) := by decide +kernel
theorem dX2_allWhoStandAreThere_32 : decode cX2_allWhoStandAreThere 32 = .ok (.iconst 0, 1) := by decide +kernel
theorem dX2_allWhoStandAreThere_33 : decode cX2_allWhoStandAreThere 33 = .ok (.ireturn, 1) := by decide +kernel
theorem dX2_allWhoStandAreThere_34 : decode cX2_allWhoStandAreThere 34 = .ok (.iinc 1 1, 3) := by decide +kernel
theorem dX2_allWhoStandAreThere_37 : decode cX2_allWhoStandAreThere 37 = .ok (.goto (-35), 3) := by decide +kernel
theorem dX2_allWhoStandAreThere_40 : decode cX2_allWhoStandAreThere 40 = .ok (.iconst 1, 1) := by decide +kernel
theorem dX2_allWhoStandAreThere_41 : decode cX2_allWhoStandAreThere 41 = .ok (.ireturn, 1) := by decide +kernel
theorem dX2_allWorth_0 : decode cX2_allWorth 0 = .ok (.iconst 0, 1) := by decide +kernel
theorem dX2_allWorth_1 : decode cX2_allWorth 1 = .ok (.istore_n 1, 1) := by decide +kernel
theorem dX2_allWorth_2 : decode cX2_allWorth 2 = .ok (.iconst 0, 1) := by decide +kernel
theorem dX2_allWorth_3 : decode cX2_allWorth 3 = .ok (.istore_n 2, 1) := by decide +kernel
theorem dX2_allWorth_4 : decode cX2_allWorth 4 = .ok (.iload_n 2, 1) := by decide +kernel
theorem dX2_allWorth_5 : decode cX2_allWorth 5 = .ok (.aload_n 0, 1) := by decide +kernel
theorem dX2_allWorth_6 : decode cX2_allWorth 6 = .ok (.getfield 37, 3) := by decide +kernel
theorem dX2_allWorth_9 : decode cX2_allWorth 9 = .ok (.if_icmp .ge 18, 3) := by decide +kernel
theorem dX2_allWorth_12 : decode cX2_allWorth 12 = .ok (.iload_n 1, 1) := by decide +kernel
theorem dX2_allWorth_13 : decode cX2_allWorth 13 = .ok (.aload_n 0, 1) := by decide +kernel
theorem dX2_allWorth_14 : decode cX2_allWorth 14 = .ok (.getfield 24, 3) := by decide +kernel
theorem dX2_allWorth_17 : decode cX2_allWorth 17 = .ok (.iload_n 2, 1) := by decide +kernel
theorem dX2_allWorth_18 : decode cX2_allWorth 18 = .ok (.iaload, 1) := by decide +kernel
theorem dX2_allWorth_19 : decode cX2_allWorth 19 = .ok (.iadd, 1) := by decide +kernel
theorem dX2_allWorth_20 : decode cX2_allWorth 20 = .ok (.istore_n 1, 1) := by decide +kernel
theorem dX2_allWorth_21 : decode cX2_allWorth 21 = .ok (.iinc 2 1, 3) := by decide +kernel
theorem dX2_allWorth_24 : decode cX2_allWorth 24 = .ok (.goto (-20), 3) := by decide +kernel
theorem dX2_allWorth_27 : decode cX2_allWorth 27 = .ok (.iload_n 1, 1) := by decide +kernel
theorem dX2_allWorth_28 : decode cX2_allWorth 28 = .ok (.ireturn, 1) := by decide +kernel
theorem dX2_quartersRead_0 : decode cX2_quartersRead 0 = .ok (.iconst 0, 1) := by decide +kernel
theorem dX2_quartersRead_1 : decode cX2_quartersRead 1 = .ok (.istore_n 1, 1) := by decide +kernel
theorem dX2_quartersRead_2 : decode cX2_quartersRead 2 = .ok (.iconst 0, 1) := by decide +kernel
theorem dX2_quartersRead_3 : decode cX2_quartersRead 3 = .ok (.istore_n 2, 1) := by decide +kernel
theorem dX2_quartersRead_4 : decode cX2_quartersRead 4 = .ok (.iload_n 2, 1) := by decide +kernel
theorem dX2_quartersRead_5 : decode cX2_quartersRead 5 = .ok (.bipush 12, 2) := by decide +kernel
theorem dX2_quartersRead_7 : decode cX2_quartersRead 7 = .ok (.if_icmp .ge 25, 3) := by decide +kernel
theorem dX2_quartersRead_10 : decode cX2_quartersRead 10 = .ok (.iload_n 1, 1) := by decide +kernel
theorem dX2_quartersRead_11 : decode cX2_quartersRead 11 = .ok (.aload_n 0, 1) := by decide +kernel
theorem dX2_quartersRead_12 : decode cX2_quartersRead 12 = .ok (.iload_n 2, 1) := by decide +kernel
theorem dX2_quartersRead_13 : decode cX2_quartersRead 13 = .ok (.invokevirtual 70, 3) := by decide +kernel
theorem dX2_quartersRead_16 : decode cX2_quartersRead 16 = .ok (.ifCond .eq 7, 3) := by decide +kernel
theorem dX2_quartersRead_19 : decode cX2_quartersRead 19 = .ok (.iconst 4, 1) := by decide +kernel
theorem dX2_quartersRead_20 : decode cX2_quartersRead 20 = .ok (.goto 4, 3) := by decide +kernel
theorem dX2_quartersRead_23 : decode cX2_quartersRead 23 = .ok (.iconst 0, 1) := by decide +kernel
theorem dX2_quartersRead_24 : decode cX2_quartersRead 24 = .ok (.iadd, 1) := by decide +kernel
theorem dX2_quartersRead_25 : decode cX2_quartersRead 25 = .ok (.istore_n 1, 1) := by decide +kernel
theorem dX2_quartersRead_26 : decode cX2_quartersRead 26 = .ok (.iinc 2 1, 3) := by decide +kernel
theorem dX2_quartersRead_29 : decode cX2_quartersRead 29 = .ok (.goto (-25), 3) := by decide +kernel
theorem dX2_quartersRead_32 : decode cX2_quartersRead 32 = .ok (.iload_n 1, 1) := by decide +kernel
theorem dX2_quartersRead_33 : decode cX2_quartersRead 33 = .ok (.ireturn, 1) := by decide +kernel
