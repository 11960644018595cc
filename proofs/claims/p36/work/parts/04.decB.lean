theorem dX3_init_0 : decode cX3_init 0 = .ok (.aload_n 0, 1) := by decide +kernel
theorem dX3_init_1 : decode cX3_init 1 = .ok (.invokespecial 1, 3) := by decide +kernel
theorem dX3_init_4 : decode cX3_init 4 = .ok (.aload_n 0, 1) := by decide +kernel
theorem dX3_init_5 : decode cX3_init 5 = .ok (.new 7, 3) := by decide +kernel
theorem dX3_init_8 : decode cX3_init 8 = .ok (.dup, 1) := by decide +kernel
theorem dX3_init_9 : decode cX3_init 9 = .ok (.invokespecial 9, 3) := by decide +kernel
theorem dX3_init_12 : decode cX3_init 12 = .ok (.putfield 10, 3) := by decide +kernel
theorem dX3_init_15 : decode cX3_init 15 = .ok (.aload_n 0, 1) := by decide +kernel
theorem dX3_init_16 : decode cX3_init 16 = .ok (.new 7, 3) := by decide +kernel
theorem dX3_init_19 : decode cX3_init 19 = .ok (.dup, 1) := by decide +kernel
theorem dX3_init_20 : decode cX3_init 20 = .ok (.invokespecial 9, 3) := by decide +kernel
theorem dX3_init_23 : decode cX3_init 23 = .ok (.putfield 16, 3) := by decide +kernel
theorem dX3_init_26 : decode cX3_init 26 = .ok (.aload_n 0, 1) := by decide +kernel
theorem dX3_init_27 : decode cX3_init 27 = .ok (.iconst 2, 1) := by decide +kernel
theorem dX3_init_28 : decode cX3_init 28 = .ok (.anewarray 7, 3) := by decide +kernel
theorem dX3_init_31 : decode cX3_init 31 = .ok (.putfield 19, 3) := by decide +kernel
theorem dX3_init_34 : decode cX3_init 34 = .ok (.aload_n 0, 1) := by decide +kernel
theorem dX3_init_35 : decode cX3_init 35 = .ok (.iconst 2, 1) := by decide +kernel
theorem dX3_init_36 : decode cX3_init 36 = .ok (.newarray .boolean, 2) := by decide +kernel
theorem dX3_init_38 : decode cX3_init 38 = .ok (.putfield 23, 3) := by decide +kernel
theorem dX3_init_41 : decode cX3_init 41 = .ok (.aload_n 0, 1) := by decide +kernel
theorem dX3_init_42 : decode cX3_init 42 = .ok (.new 27, 3) := by decide +kernel
theorem dX3_init_45 : decode cX3_init 45 = .ok (.dup, 1) := by decide +kernel
theorem dX3_init_46 : decode cX3_init 46 = .ok (.invokespecial 29, 3) := by decide +kernel
theorem dX3_init_49 : decode cX3_init 49 = .ok (.putfield 30, 3) := by decide +kernel
theorem dX3_init_52 : decode cX3_init 52 = .ok (.aload_n 0, 1) := by decide +kernel
theorem dX3_init_53 : decode cX3_init 53 = .ok (.iconst 4, 1) := by decide +kernel
theorem dX3_init_54 : decode cX3_init 54 = .ok (.anewarray 34, 3) := by decide +kernel
theorem dX3_init_57 : decode cX3_init 57 = .ok (.putfield 36, 3) := by decide +kernel
theorem dX3_init_60 : decode cX3_init 60 = .ok (.aload_n 0, 1) := by decide +kernel
theorem dX3_init_61 : decode cX3_init 61 = .ok (.bipush 6, 2) := by decide +kernel
theorem dX3_init_63 : decode cX3_init 63 = .ok (.newarray .int, 2) := by decide +kernel
theorem dX3_init_65 : decode cX3_init 65 = .ok (.putfield 40, 3) := by decide +kernel
theorem dX3_init_68 : decode cX3_init 68 = .ok (.aload_n 0, 1) := by decide +kernel
theorem dX3_init_69 : decode cX3_init 69 = .ok (.bipush 6, 2) := by decide +kernel
theorem dX3_init_71 : decode cX3_init 71 = .ok (.newarray .int, 2) := by decide +kernel
theorem dX3_init_73 : decode cX3_init 73 = .ok (.putfield 44, 3) := by decide +kernel
theorem dX3_init_76 : decode cX3_init 76 = .ok (.aload_n 0, 1) := by decide +kernel
theorem dX3_init_77 : decode cX3_init 77 = .ok (.bipush 7, 2) := by decide +kernel
theorem dX3_init_79 : decode cX3_init 79 = .ok (.newarray .int, 2) := by decide +kernel
theorem dX3_init_81 : decode cX3_init 81 = .ok (.putfield 47, 3) := by decide +kernel
theorem dX3_init_84 : decode cX3_init 84 = .ok (.iconst 0, 1) := by decide +kernel
theorem dX3_init_85 : decode cX3_init 85 = .ok (.istore_n 1, 1) := by decide +kernel
theorem dX3_init_86 : decode cX3_init 86 = .ok (.iload_n 1, 1) := by decide +kernel
theorem dX3_init_87 : decode cX3_init 87 = .ok (.iconst 2, 1) := by decide +kernel
theorem dX3_init_88 : decode cX3_init 88 = .ok (.if_icmp .ge 22, 3) := by decide +kernel
theorem dX3_init_91 : decode cX3_init 91 = .ok (.aload_n 0, 1) := by decide +kernel
theorem dX3_init_92 : decode cX3_init 92 = .ok (.getfield 19, 3) := by decide +kernel
theorem dX3_init_95 : decode cX3_init 95 = .ok (.iload_n 1, 1) := by decide +kernel
theorem dX3_init_96 : decode cX3_init 96 = .ok (.new 7, 3) := by decide +kernel
theorem dX3_init_99 : decode cX3_init 99 = .ok (.dup, 1) := by decide +kernel
theorem dX3_init_100 : decode cX3_init 100 = .ok (.invokespecial 9, 3) := by decide +kernel
theorem dX3_init_103 : decode cX3_init 103 = .ok (.aastore, 1) := by decide +kernel
theorem dX3_init_104 : decode cX3_init 104 = .ok (.iinc 1 1, 3) := by decide +kernel
theorem dX3_init_107 : decode cX3_init 107 = .ok (.goto (-21), 3) := by decide +kernel
theorem dX3_init_110 : decode cX3_init 110 = .ok (.iconst 0, 1) := by decide +kernel
theorem dX3_init_111 : decode cX3_init 111 = .ok (.istore_n 1, 1) := by decide +kernel
theorem dX3_init_112 : decode cX3_init 112 = .ok (.iload_n 1, 1) := by decide +kernel
theorem dX3_init_113 : decode cX3_init 113 = .ok (.iconst 4, 1) := by decide +kernel
theorem dX3_init_114 : decode cX3_init 114 = .ok (.if_icmp .ge 22, 3) := by decide +kernel
theorem dX3_init_117 : decode cX3_init 117 = .ok (.aload_n 0, 1) := by decide +kernel
theorem dX3_init_118 : decode cX3_init 118 = .ok (.getfield 36, 3) := by decide +kernel
theorem dX3_init_121 : decode cX3_init 121 = .ok (.iload_n 1, 1) := by decide +kernel
theorem dX3_init_122 : decode cX3_init 122 = .ok (.new 34, 3) := by decide +kernel
theorem dX3_init_125 : decode cX3_init 125 = .ok (.dup, 1) := by decide +kernel
theorem dX3_init_126 : decode cX3_init 126 = .ok (.invokespecial 50, 3) := by decide +kernel
theorem dX3_init_129 : decode cX3_init 129 = .ok (.aastore, 1) := by decide +kernel
theorem dX3_init_130 : decode cX3_init 130 = .ok (.iinc 1 1, 3) := by decide +kernel
theorem dX3_init_133 : decode cX3_init 133 = .ok (.goto (-21), 3) := by decide +kernel
theorem dX3_init_136 : decode cX3_init 136 = .ok (.return_, 1) := by decide +kernel
theorem dX3_feed_0 : decode cX3_feed 0 = .ok (.iload_n 1, 1) := by decide +kernel
theorem dX3_feed_1 : decode cX3_feed 1 = .ok (.ifCond .lt 9, 3) := by decide +kernel
theorem dX3_feed_4 : decode cX3_feed 4 = .ok (.iload_n 1, 1) := by decide +kernel
theorem dX3_feed_5 : decode cX3_feed 5 = .ok (.bipush 127, 2) := by decide +kernel
theorem dX3_feed_7 : decode cX3_feed 7 = .ok (.if_icmp .le 5, 3) := by decide +kernel
theorem dX3_feed_10 : decode cX3_feed 10 = .ok (.iconst (-1), 1) := by decide +kernel
theorem dX3_feed_11 : decode cX3_feed 11 = .ok (.ireturn, 1) := by decide +kernel
theorem dX3_feed_12 : decode cX3_feed 12 = .ok (.aload_n 0, 1) := by decide +kernel
theorem dX3_feed_13 : decode cX3_feed 13 = .ok (.getfield 30, 3) := by decide +kernel
theorem dX3_feed_16 : decode cX3_feed 16 = .ok (.iload_n 1, 1) := by decide +kernel
theorem dX3_feed_17 : decode cX3_feed 17 = .ok (.invokevirtual 51, 3) := by decide +kernel
theorem dX3_feed_20 : decode cX3_feed 20 = .ok (.ifCond .eq 13, 3) := by decide +kernel
theorem dX3_feed_23 : decode cX3_feed 23 = .ok (.aload_n 0, 1) := by decide +kernel
theorem dX3_feed_24 : decode cX3_feed 24 = .ok (.getfield 30, 3) := by decide +kernel
theorem dX3_feed_27 : decode cX3_feed 27 = .ok (.getfield 55, 3) := by decide +kernel
theorem dX3_feed_30 : decode cX3_feed 30 = .ok (.goto 5, 3) := by decide +kernel
theorem dX3_feed_33 : decode cX3_feed 33 = .ok (.bipush (-3), 2) := by decide +kernel
theorem dX3_feed_35 : decode cX3_feed 35 = .ok (.ireturn, 1) := by decide +kernel
theorem dX3_end_0 : decode cX3_end 0 = .ok (.iload_n 1, 1) := by decide +kernel
theorem dX3_end_1 : decode cX3_end 1 = .ok (.ifCond .lt 14, 3) := by decide +kernel
theorem dX3_end_4 : decode cX3_end 4 = .ok (.iload_n 1, 1) := by decide +kernel
theorem dX3_end_5 : decode cX3_end 5 = .ok (.aload_n 0, 1) := by decide +kernel
theorem dX3_end_6 : decode cX3_end 6 = .ok (.getfield 30, 3) := by decide +kernel
theorem dX3_end_9 : decode cX3_end 9 = .ok (.getfield 55, 3) := by decide +kernel
theorem dX3_end_12 : decode cX3_end 12 = .ok (.if_icmp .le 5, 3) := by decide +kernel
theorem dX3_end_15 : decode cX3_end 15 = .ok (.iconst (-1), 1) := by decide +kernel
theorem dX3_end_16 : decode cX3_end 16 = .ok (.ireturn, 1) := by decide +kernel
theorem dX3_end_17 : decode cX3_end 17 = .ok (.aload_n 0, 1) := by decide +kernel
theorem dX3_end_18 : decode cX3_end 18 = .ok (.getfield 30, 3) := by decide +kernel
theorem dX3_end_21 : decode cX3_end 21 = .ok (.getfield 55, 3) := by decide +kernel
theorem dX3_end_24 : decode cX3_end 24 = .ok (.istore_n 2, 1) := by decide +kernel
theorem dX3_end_25 : decode cX3_end 25 = .ok (.aload_n 0, 1) := by decide +kernel
theorem dX3_end_26 : decode cX3_end 26 = .ok (.getfield 30, 3) := by decide +kernel
theorem dX3_end_29 : decode cX3_end 29 = .ok (.iload_n 1, 1) := by decide +kernel
theorem dX3_end_30 : decode cX3_end 30 = .ok (.putfield 55, 3) := by decide +kernel
theorem dX3_end_33 : decode cX3_end 33 = .ok (.iload_n 2, 1) := by decide +kernel
theorem dX3_end_34 : decode cX3_end 34 = .ok (.ireturn, 1) := by decide +kernel
theorem dX3_text_0 : decode cX3_text 0 = .ok (.aload_n 0, 1) := by decide +kernel
theorem dX3_text_1 : decode cX3_text 1 = .ok (.getfield 30, 3) := by decide +kernel
theorem dX3_text_4 : decode cX3_text 4 = .ok (.aload_n 0, 1) := by decide +kernel
theorem dX3_text_5 : decode cX3_text 5 = .ok (.getfield 16, 3) := by decide +kernel
theorem dX3_text_8 : decode cX3_text 8 = .ok (.invokevirtual 59, 3) := by decide +kernel
theorem dX3_text_11 : decode cX3_text 11 = .ok (.istore_n 1, 1) := by decide +kernel
theorem dX3_text_12 : decode cX3_text 12 = .ok (.aload_n 0, 1) := by decide +kernel
theorem dX3_text_13 : decode cX3_text 13 = .ok (.getfield 30, 3) := by decide +kernel
theorem dX3_text_16 : decode cX3_text 16 = .ok (.iconst 0, 1) := by decide +kernel
theorem dX3_text_17 : decode cX3_text 17 = .ok (.putfield 55, 3) := by decide +kernel
theorem dX3_text_20 : decode cX3_text 20 = .ok (.aload_n 0, 1) := by decide +kernel
theorem dX3_text_21 : decode cX3_text 21 = .ok (.getfield 30, 3) := by decide +kernel
theorem dX3_text_24 : decode cX3_text 24 = .ok (.getfield 63, 3) := by decide +kernel
theorem dX3_text_27 : decode cX3_text 27 = .ok (.ifCond .eq 14, 3) := by decide +kernel
theorem dX3_text_30 : decode cX3_text 30 = .ok (.bipush (-10), 2) := by decide +kernel
theorem dX3_text_32 : decode cX3_text 32 = .ok (.aload_n 0, 1) := by decide +kernel
theorem dX3_text_33 : decode cX3_text 33 = .ok (.getfield 30, 3) := by decide +kernel
theorem dX3_text_36 : decode cX3_text 36 = .ok (.getfield 66, 3) := by decide +kernel
theorem dX3_text_39 : decode cX3_text 39 = .ok (.isub, 1) := by decide +kernel
theorem dX3_text_40 : decode cX3_text 40 = .ok (.ireturn, 1) := by decide +kernel
theorem dX3_text_41 : decode cX3_text 41 = .ok (.aload_n 0, 1) := by decide +kernel
theorem dX3_text_42 : decode cX3_text 42 = .ok (.getfield 10, 3) := by decide +kernel
theorem dX3_text_45 : decode cX3_text 45 = .ok (.aload_n 0, 1) := by decide +kernel
theorem dX3_text_46 : decode cX3_text 46 = .ok (.getfield 16, 3) := by decide +kernel
theorem dX3_text_49 : decode cX3_text 49 = .ok (.invokevirtual 69, 3) := by decide +kernel
theorem dX3_text_52 : decode cX3_text 52 = .ok (.aload_n 0, 1) := by decide +kernel
theorem dX3_text_53 : decode cX3_text 53 = .ok (.iconst 0, 1) := by decide +kernel
theorem dX3_text_54 : decode cX3_text 54 = .ok (.putfield 73, 3) := by decide +kernel
theorem dX3_text_57 : decode cX3_text 57 = .ok (.iconst 0, 1) := by decide +kernel
theorem dX3_text_58 : decode cX3_text 58 = .ok (.istore_n 2, 1) := by decide +kernel
theorem dX3_text_59 : decode cX3_text 59 = .ok (.iload_n 2, 1) := by decide +kernel
theorem dX3_text_60 : decode cX3_text 60 = .ok (.iconst 2, 1) := by decide +kernel
theorem dX3_text_61 : decode cX3_text 61 = .ok (.if_icmp .ge 16, 3) := by decide +kernel
theorem dX3_text_64 : decode cX3_text 64 = .ok (.aload_n 0, 1) := by decide +kernel
theorem dX3_text_65 : decode cX3_text 65 = .ok (.getfield 23, 3) := by decide +kernel
theorem dX3_text_68 : decode cX3_text 68 = .ok (.iload_n 2, 1) := by decide +kernel
theorem dX3_text_69 : decode cX3_text 69 = .ok (.iconst 0, 1) := by decide +kernel
theorem dX3_text_70 : decode cX3_text 70 = .ok (.bastore, 1) := by decide +kernel
theorem dX3_text_71 : decode cX3_text 71 = .ok (.iinc 2 1, 3) := by decide +kernel
theorem dX3_text_74 : decode cX3_text 74 = .ok (.goto (-15), 3) := by decide +kernel
theorem dX3_text_77 : decode cX3_text 77 = .ok (.iload_n 1, 1) := by decide +kernel
theorem dX3_text_78 : decode cX3_text 78 = .ok (.ireturn, 1) := by decide +kernel
theorem dX3_fault_0 : decode cX3_fault 0 = .ok (.aload_n 0, 1) := by decide +kernel
theorem dX3_fault_1 : decode cX3_fault 1 = .ok (.getfield 30, 3) := by decide +kernel
theorem dX3_fault_4 : decode cX3_fault 4 = .ok (.getfield 63, 3) := by decide +kernel
theorem dX3_fault_7 : decode cX3_fault 7 = .ok (.ireturn, 1) := by decide +kernel
theorem dX3_rule_0 : decode cX3_rule 0 = .ok (.iload_n 1, 1) := by decide +kernel
theorem dX3_rule_1 : decode cX3_rule 1 = .ok (.tableswitch 87 0 5 #[39, 47, 55, 63, 71, 79], 39) := by decide +kernel
theorem dX3_rule_40 : decode cX3_rule 40 = .ok (.aload_n 0, 1) := by decide +kernel
theorem dX3_rule_41 : decode cX3_rule 41 = .ok (.getfield 10, 3) := by decide +kernel
theorem dX3_rule_44 : decode cX3_rule 44 = .ok (.getfield 76, 3) := by decide +kernel
theorem dX3_rule_47 : decode cX3_rule 47 = .ok (.ireturn, 1) := by decide +kernel
theorem dX3_rule_48 : decode cX3_rule 48 = .ok (.aload_n 0, 1) := by decide +kernel
theorem dX3_rule_49 : decode cX3_rule 49 = .ok (.getfield 10, 3) := by decide +kernel
theorem dX3_rule_52 : decode cX3_rule 52 = .ok (.getfield 79, 3) := by decide +kernel
theorem dX3_rule_55 : decode cX3_rule 55 = .ok (.ireturn, 1) := by decide +kernel
theorem dX3_rule_56 : decode cX3_rule 56 = .ok (.aload_n 0, 1) := by decide +kernel
theorem dX3_rule_57 : decode cX3_rule 57 = .ok (.getfield 10, 3) := by decide +kernel
theorem dX3_rule_60 : decode cX3_rule 60 = .ok (.getfield 82, 3) := by decide +kernel
theorem dX3_rule_63 : decode cX3_rule 63 = .ok (.ireturn, 1) := by decide +kernel
theorem dX3_rule_64 : decode cX3_rule 64 = .ok (.aload_n 0, 1) := by decide +kernel
theorem dX3_rule_65 : decode cX3_rule 65 = .ok (.getfield 10, 3) := by decide +kernel
theorem dX3_rule_68 : decode cX3_rule 68 = .ok (.getfield 85, 3) := by decide +kernel
theorem dX3_rule_71 : decode cX3_rule 71 = .ok (.ireturn, 1) := by decide +kernel
theorem dX3_rule_72 : decode cX3_rule 72 = .ok (.aload_n 0, 1) := by decide +kernel
theorem dX3_rule_73 : decode cX3_rule 73 = .ok (.getfield 10, 3) := by decide +kernel
theorem dX3_rule_76 : decode cX3_rule 76 = .ok (.invokevirtual 88, 3) := by decide +kernel
theorem dX3_rule_79 : decode cX3_rule 79 = .ok (.ireturn, 1) := by decide +kernel
theorem dX3_rule_80 : decode cX3_rule 80 = .ok (.aload_n 0, 1) := by decide +kernel
theorem dX3_rule_81 : decode cX3_rule 81 = .ok (.getfield 10, 3) := by decide +kernel
theorem dX3_rule_84 : decode cX3_rule 84 = .ok (.invokevirtual 92, 3) := by decide +kernel
theorem dX3_rule_87 : decode cX3_rule 87 = .ok (.ireturn, 1) := by decide +kernel
theorem dX3_rule_88 : decode cX3_rule 88 = .ok (.iconst (-1), 1) := by decide +kernel
theorem dX3_rule_89 : decode cX3_rule 89 = .ok (.ireturn, 1) := by decide +kernel
theorem dX3_man_0 : decode cX3_man 0 = .ok (.aload_n 0, 1) := by decide +kernel
theorem dX3_man_1 : decode cX3_man 1 = .ok (.getfield 10, 3) := by decide +kernel
theorem dX3_man_4 : decode cX3_man 4 = .ok (.iload_n 1, 1) := by decide +kernel
theorem dX3_man_5 : decode cX3_man 5 = .ok (.invokevirtual 95, 3) := by decide +kernel
theorem dX3_man_8 : decode cX3_man 8 = .ok (.ifCond .ne 5, 3) := by decide +kernel
theorem dX3_man_11 : decode cX3_man 11 = .ok (.iconst (-1), 1) := by decide +kernel
theorem dX3_man_12 : decode cX3_man 12 = .ok (.ireturn, 1) := by decide +kernel
theorem dX3_man_13 : decode cX3_man 13 = .ok (.iload_n 2, 1) := by decide +kernel
theorem dX3_man_14 : decode cX3_man 14 = .ok (.tableswitch 68 0 3 #[30, 40, 50, 59], 30) := by decide +kernel
theorem dX3_man_44 : decode cX3_man 44 = .ok (.aload_n 0, 1) := by decide +kernel
theorem dX3_man_45 : decode cX3_man 45 = .ok (.getfield 10, 3) := by decide +kernel
theorem dX3_man_48 : decode cX3_man 48 = .ok (.getfield 98, 3) := by decide +kernel
theorem dX3_man_51 : decode cX3_man 51 = .ok (.iload_n 1, 1) := by decide +kernel
theorem dX3_man_52 : decode cX3_man 52 = .ok (.iaload, 1) := by decide +kernel
theorem dX3_man_53 : decode cX3_man 53 = .ok (.ireturn, 1) := by decide +kernel
theorem dX3_man_54 : decode cX3_man 54 = .ok (.aload_n 0, 1) := by decide +kernel
theorem dX3_man_55 : decode cX3_man 55 = .ok (.getfield 10, 3) := by decide +kernel
theorem dX3_man_58 : decode cX3_man 58 = .ok (.getfield 101, 3) := by decide +kernel
theorem dX3_man_61 : decode cX3_man 61 = .ok (.iload_n 1, 1) := by decide +kernel
theorem dX3_man_62 : decode cX3_man 62 = .ok (.iaload, 1) := by decide +kernel
theorem dX3_man_63 : decode cX3_man 63 = .ok (.ireturn, 1) := by decide +kernel
theorem dX3_man_64 : decode cX3_man 64 = .ok (.aload_n 0, 1) := by decide +kernel
theorem dX3_man_65 : decode cX3_man 65 = .ok (.getfield 10, 3) := by decide +kernel
theorem dX3_man_68 : decode cX3_man 68 = .ok (.iload_n 1, 1) := by decide +kernel
theorem dX3_man_69 : decode cX3_man 69 = .ok (.invokevirtual 104, 3) := by decide +kernel
theorem dX3_man_72 : decode cX3_man 72 = .ok (.ireturn, 1) := by decide +kernel
theorem dX3_man_73 : decode cX3_man 73 = .ok (.aload_n 0, 1) := by decide +kernel
theorem dX3_man_74 : decode cX3_man 74 = .ok (.getfield 10, 3) := by decide +kernel
theorem dX3_man_77 : decode cX3_man 77 = .ok (.iload_n 1, 1) := by decide +kernel
theorem dX3_man_78 : decode cX3_man 78 = .ok (.invokevirtual 108, 3) := by decide +kernel
theorem dX3_man_81 : decode cX3_man 81 = .ok (.ireturn, 1) := by decide +kernel
theorem dX3_man_82 : decode cX3_man 82 = .ok (.iconst (-1), 1) := by decide +kernel
theorem dX3_man_83 : decode cX3_man 83 = .ok (.ireturn, 1) := by decide +kernel
theorem dX3_rota_0 : decode cX3_rota 0 = .ok (.iload_n 1, 1) := by decide +kernel
theorem dX3_rota_1 : decode cX3_rota 1 = .ok (.invokestatic 111, 3) := by decide +kernel
theorem dX3_rota_4 : decode cX3_rota 4 = .ok (.ifCond .eq 15, 3) := by decide +kernel
theorem dX3_rota_7 : decode cX3_rota 7 = .ok (.aload_n 0, 1) := by decide +kernel
theorem dX3_rota_8 : decode cX3_rota 8 = .ok (.getfield 10, 3) := by decide +kernel
theorem dX3_rota_11 : decode cX3_rota 11 = .ok (.getfield 114, 3) := by decide +kernel
theorem dX3_rota_14 : decode cX3_rota 14 = .ok (.iload_n 1, 1) := by decide +kernel
theorem dX3_rota_15 : decode cX3_rota 15 = .ok (.iaload, 1) := by decide +kernel
theorem dX3_rota_16 : decode cX3_rota 16 = .ok (.goto 4, 3) := by decide +kernel
theorem dX3_rota_19 : decode cX3_rota 19 = .ok (.iconst (-1), 1) := by decide +kernel
theorem dX3_rota_20 : decode cX3_rota 20 = .ok (.ireturn, 1) := by decide +kernel
theorem dX3_deed_0 : decode cX3_deed 0 = .ok (.aload_n 0, 1) := by decide +kernel
theorem dX3_deed_1 : decode cX3_deed 1 = .ok (.getfield 10, 3) := by decide +kernel
theorem dX3_deed_4 : decode cX3_deed 4 = .ok (.iload_n 1, 1) := by decide +kernel
theorem dX3_deed_5 : decode cX3_deed 5 = .ok (.invokevirtual 117, 3) := by decide +kernel
theorem dX3_deed_8 : decode cX3_deed 8 = .ok (.ifCond .ne 5, 3) := by decide +kernel
theorem dX3_deed_11 : decode cX3_deed 11 = .ok (.iconst (-1), 1) := by decide +kernel
theorem dX3_deed_12 : decode cX3_deed 12 = .ok (.ireturn, 1) := by decide +kernel
theorem dX3_deed_13 : decode cX3_deed 13 = .ok (.iload_n 2, 1) := by decide +kernel
theorem dX3_deed_14 : decode cX3_deed 14 = .ok (.tableswitch 76 0 3 #[30, 40, 50, 59], 30) := by decide +kernel
theorem dX3_deed_44 : decode cX3_deed 44 = .ok (.aload_n 0, 1) := by decide +kernel
theorem dX3_deed_45 : decode cX3_deed 45 = .ok (.getfield 10, 3) := by decide +kernel
theorem dX3_deed_48 : decode cX3_deed 48 = .ok (.getfield 120, 3) := by decide +kernel
theorem dX3_deed_51 : decode cX3_deed 51 = .ok (.iload_n 1, 1) := by decide +kernel
theorem dX3_deed_52 : decode cX3_deed 52 = .ok (.iaload, 1) := by decide +kernel
theorem dX3_deed_53 : decode cX3_deed 53 = .ok (.ireturn, 1) := by decide +kernel
theorem dX3_deed_54 : decode cX3_deed 54 = .ok (.aload_n 0, 1) := by decide +kernel
theorem dX3_deed_55 : decode cX3_deed 55 = .ok (.getfield 10, 3) := by decide +kernel
theorem dX3_deed_58 : decode cX3_deed 58 = .ok (.getfield 123, 3) := by decide +kernel
theorem dX3_deed_61 : decode cX3_deed 61 = .ok (.iload_n 1, 1) := by decide +kernel
theorem dX3_deed_62 : decode cX3_deed 62 = .ok (.iaload, 1) := by decide +kernel
theorem dX3_deed_63 : decode cX3_deed 63 = .ok (.ireturn, 1) := by decide +kernel
theorem dX3_deed_64 : decode cX3_deed 64 = .ok (.aload_n 0, 1) := by decide +kernel
theorem dX3_deed_65 : decode cX3_deed 65 = .ok (.getfield 10, 3) := by decide +kernel
theorem dX3_deed_68 : decode cX3_deed 68 = .ok (.iload_n 1, 1) := by decide +kernel
theorem dX3_deed_69 : decode cX3_deed 69 = .ok (.invokevirtual 126, 3) := by decide +kernel
theorem dX3_deed_72 : decode cX3_deed 72 = .ok (.ireturn, 1) := by decide +kernel
theorem dX3_deed_73 : decode cX3_deed 73 = .ok (.aload_n 0, 1) := by decide +kernel
theorem dX3_deed_74 : decode cX3_deed 74 = .ok (.getfield 10, 3) := by decide +kernel
theorem dX3_deed_77 : decode cX3_deed 77 = .ok (.iload_n 1, 1) := by decide +kernel
theorem dX3_deed_78 : decode cX3_deed 78 = .ok (.aload_n 0, 1) := by decide +kernel
theorem dX3_deed_79 : decode cX3_deed 79 = .ok (.getfield 10, 3) := by decide +kernel
theorem dX3_deed_82 : decode cX3_deed 82 = .ok (.iload_n 1, 1) := by decide +kernel
theorem dX3_deed_83 : decode cX3_deed 83 = .ok (.invokevirtual 126, 3) := by decide +kernel
theorem dX3_deed_86 : decode cX3_deed 86 = .ok (.invokevirtual 129, 3) := by decide +kernel
theorem dX3_deed_89 : decode cX3_deed 89 = .ok (.ireturn, 1) := by decide +kernel
theorem dX3_deed_90 : decode cX3_deed 90 = .ok (.iconst (-1), 1) := by decide +kernel
theorem dX3_deed_91 : decode cX3_deed 91 = .ok (.ireturn, 1) := by decide +kernel
theorem dX3_alter_0 : decode cX3_alter 0 = .ok (.aload_n 0, 1) := by decide +kernel
theorem dX3_alter_1 : decode cX3_alter 1 = .ok (.getfield 10, 3) := by decide +kernel
theorem dX3_alter_4 : decode cX3_alter 4 = .ok (.iload_n 1, 1) := by decide +kernel
theorem dX3_alter_5 : decode cX3_alter 5 = .ok (.invokevirtual 95, 3) := by decide +kernel
theorem dX3_alter_8 : decode cX3_alter 8 = .ok (.ifCond .eq 10, 3) := by decide +kernel
theorem dX3_alter_11 : decode cX3_alter 11 = .ok (.iload_n 2, 1) := by decide +kernel
theorem dX3_alter_12 : decode cX3_alter 12 = .ok (.invokestatic 133, 3) := by decide +kernel
theorem dX3_alter_15 : decode cX3_alter 15 = .ok (.ifCond .ne 5, 3) := by decide +kernel
theorem dX3_alter_18 : decode cX3_alter 18 = .ok (.iconst (-1), 1) := by decide +kernel
theorem dX3_alter_19 : decode cX3_alter 19 = .ok (.ireturn, 1) := by decide +kernel
theorem dX3_alter_20 : decode cX3_alter 20 = .ok (.iload_n 3, 1) := by decide +kernel
theorem dX3_alter_21 : decode cX3_alter 21 = .ok (.ifCond .lt 17, 3) := by decide +kernel
theorem dX3_alter_24 : decode cX3_alter 24 = .ok (.iload_n 3, 1) := by decide +kernel
theorem dX3_alter_25 : decode cX3_alter 25 = .ok (.iload_n 2, 1) := by decide +kernel
theorem dX3_alter_26 : decode cX3_alter 26 = .ok (.ifCond .ne 7, 3) := by decide +kernel
theorem dX3_alter_29 : decode cX3_alter 29 = .ok (.iconst 4, 1) := by decide +kernel
theorem dX3_alter_30 : decode cX3_alter 30 = .ok (.goto 5, 3) := by decide +kernel
theorem dX3_alter_33 : decode cX3_alter 33 = .ok (.bipush 7, 2) := by decide +kernel
theorem dX3_alter_35 : decode cX3_alter 35 = .ok (.if_icmp .lt 5, 3) := by decide +kernel
theorem dX3_alter_38 : decode cX3_alter 38 = .ok (.iconst (-1), 1) := by decide +kernel
theorem dX3_alter_39 : decode cX3_alter 39 = .ok (.ireturn, 1) := by decide +kernel
theorem dX3_alter_40 : decode cX3_alter 40 = .ok (.iload_n 2, 1) := by decide +kernel
theorem dX3_alter_41 : decode cX3_alter 41 = .ok (.ifCond .ne 15, 3) := by decide +kernel
theorem dX3_alter_44 : decode cX3_alter 44 = .ok (.aload_n 0, 1) := by decide +kernel
theorem dX3_alter_45 : decode cX3_alter 45 = .ok (.getfield 10, 3) := by decide +kernel
theorem dX3_alter_48 : decode cX3_alter 48 = .ok (.getfield 98, 3) := by decide +kernel
theorem dX3_alter_51 : decode cX3_alter 51 = .ok (.iload_n 1, 1) := by decide +kernel
theorem dX3_alter_52 : decode cX3_alter 52 = .ok (.iaload, 1) := by decide +kernel
theorem dX3_alter_53 : decode cX3_alter 53 = .ok (.goto 12, 3) := by decide +kernel
theorem dX3_alter_56 : decode cX3_alter 56 = .ok (.aload_n 0, 1) := by decide +kernel
theorem dX3_alter_57 : decode cX3_alter 57 = .ok (.getfield 10, 3) := by decide +kernel
theorem dX3_alter_60 : decode cX3_alter 60 = .ok (.getfield 101, 3) := by decide +kernel
theorem dX3_alter_63 : decode cX3_alter 63 = .ok (.iload_n 1, 1) := by decide +kernel
theorem dX3_alter_64 : decode cX3_alter 64 = .ok (.iaload, 1) := by decide +kernel
theorem dX3_alter_65 : decode cX3_alter 65 = .ok (.istore 4, 2) := by decide +kernel
theorem dX3_alter_67 : decode cX3_alter 67 = .ok (.iload_n 2, 1) := by decide +kernel
theorem dX3_alter_68 : decode cX3_alter 68 = .ok (.ifCond .ne 15, 3) := by decide +kernel
theorem dX3_alter_71 : decode cX3_alter 71 = .ok (.aload_n 0, 1) := by decide +kernel
theorem dX3_alter_72 : decode cX3_alter 72 = .ok (.getfield 10, 3) := by decide +kernel
theorem dX3_alter_75 : decode cX3_alter 75 = .ok (.iload_n 1, 1) := by decide +kernel
theorem dX3_alter_76 : decode cX3_alter 76 = .ok (.iload_n 3, 1) := by decide +kernel
theorem dX3_alter_77 : decode cX3_alter 77 = .ok (.invokevirtual 136, 3) := by decide +kernel
theorem dX3_alter_80 : decode cX3_alter 80 = .ok (.goto 12, 3) := by decide +kernel
theorem dX3_alter_83 : decode cX3_alter 83 = .ok (.aload_n 0, 1) := by decide +kernel
theorem dX3_alter_84 : decode cX3_alter 84 = .ok (.getfield 10, 3) := by decide +kernel
theorem dX3_alter_87 : decode cX3_alter 87 = .ok (.iload_n 1, 1) := by decide +kernel
theorem dX3_alter_88 : decode cX3_alter 88 = .ok (.iload_n 3, 1) := by decide +kernel
theorem dX3_alter_89 : decode cX3_alter 89 = .ok (.invokevirtual 140, 3) := by decide +kernel
theorem dX3_alter_92 : decode cX3_alter 92 = .ok (.iload 4, 2) := by decide +kernel
theorem dX3_alter_94 : decode cX3_alter 94 = .ok (.ireturn, 1) := by decide +kernel
theorem dX3_move_0 : decode cX3_move 0 = .ok (.aload_n 0, 1) := by decide +kernel
theorem dX3_move_1 : decode cX3_move 1 = .ok (.getfield 10, 3) := by decide +kernel
theorem dX3_move_4 : decode cX3_move 4 = .ok (.iload_n 1, 1) := by decide +kernel
theorem dX3_move_5 : decode cX3_move 5 = .ok (.invokevirtual 117, 3) := by decide +kernel
theorem dX3_move_8 : decode cX3_move 8 = .ok (.ifCond .eq 10, 3) := by decide +kernel
theorem dX3_move_11 : decode cX3_move 11 = .ok (.iload_n 2, 1) := by decide +kernel
theorem dX3_move_12 : decode cX3_move 12 = .ok (.invokestatic 133, 3) := by decide +kernel
theorem dX3_move_15 : decode cX3_move 15 = .ok (.ifCond .ne 5, 3) := by decide +kernel
theorem dX3_move_18 : decode cX3_move 18 = .ok (.iconst (-1), 1) := by decide +kernel
theorem dX3_move_19 : decode cX3_move 19 = .ok (.ireturn, 1) := by decide +kernel
theorem dX3_move_20 : decode cX3_move 20 = .ok (.iload_n 2, 1) := by decide +kernel
theorem dX3_move_21 : decode cX3_move 21 = .ok (.ifCond .ne 13, 3) := by decide +kernel
theorem dX3_move_24 : decode cX3_move 24 = .ok (.iload_n 3, 1) := by decide +kernel
theorem dX3_move_25 : decode cX3_move 25 = .ok (.invokestatic 143, 3) := by decide +kernel
theorem dX3_move_28 : decode cX3_move 28 = .ok (.ifCond .ne 15, 3) := by decide +kernel
theorem dX3_move_31 : decode cX3_move 31 = .ok (.goto 10, 3) := by decide +kernel
theorem dX3_move_34 : decode cX3_move 34 = .ok (.iload_n 3, 1) := by decide +kernel
theorem dX3_move_35 : decode cX3_move 35 = .ok (.invokestatic 146, 3) := by decide +kernel
theorem dX3_move_38 : decode cX3_move 38 = .ok (.ifCond .ne 5, 3) := by decide +kernel
theorem dX3_move_41 : decode cX3_move 41 = .ok (.iconst (-1), 1) := by decide +kernel
theorem dX3_move_42 : decode cX3_move 42 = .ok (.ireturn, 1) := by decide +kernel
theorem dX3_move_43 : decode cX3_move 43 = .ok (.iload_n 2, 1) := by decide +kernel
theorem dX3_move_44 : decode cX3_move 44 = .ok (.ifCond .ne 15, 3) := by decide +kernel
theorem dX3_move_47 : decode cX3_move 47 = .ok (.aload_n 0, 1) := by decide +kernel
theorem dX3_move_48 : decode cX3_move 48 = .ok (.getfield 10, 3) := by decide +kernel
theorem dX3_move_51 : decode cX3_move 51 = .ok (.getfield 120, 3) := by decide +kernel
theorem dX3_move_54 : decode cX3_move 54 = .ok (.iload_n 1, 1) := by decide +kernel
theorem dX3_move_55 : decode cX3_move 55 = .ok (.iaload, 1) := by decide +kernel
theorem dX3_move_56 : decode cX3_move 56 = .ok (.goto 12, 3) := by decide +kernel
theorem dX3_move_59 : decode cX3_move 59 = .ok (.aload_n 0, 1) := by decide +kernel
theorem dX3_move_60 : decode cX3_move 60 = .ok (.getfield 10, 3) := by decide +kernel
theorem dX3_move_63 : decode cX3_move 63 = .ok (.getfield 123, 3) := by decide +kernel
theorem dX3_move_66 : decode cX3_move 66 = .ok (.iload_n 1, 1) := by decide +kernel
theorem dX3_move_67 : decode cX3_move 67 = .ok (.iaload, 1) := by decide +kernel
theorem dX3_move_68 : decode cX3_move 68 = .ok (.istore 4, 2) := by decide +kernel
theorem dX3_move_70 : decode cX3_move 70 = .ok (.iload_n 2, 1) := by decide +kernel
theorem dX3_move_71 : decode cX3_move 71 = .ok (.ifCond .ne 16, 3) := by decide +kernel
theorem dX3_move_74 : decode cX3_move 74 = .ok (.aload_n 0, 1) := by decide +kernel
theorem dX3_move_75 : decode cX3_move 75 = .ok (.getfield 10, 3) := by decide +kernel
theorem dX3_move_78 : decode cX3_move 78 = .ok (.getfield 120, 3) := by decide +kernel
theorem dX3_move_81 : decode cX3_move 81 = .ok (.iload_n 1, 1) := by decide +kernel
theorem dX3_move_82 : decode cX3_move 82 = .ok (.iload_n 3, 1) := by decide +kernel
theorem dX3_move_83 : decode cX3_move 83 = .ok (.iastore, 1) := by decide +kernel
theorem dX3_move_84 : decode cX3_move 84 = .ok (.goto 13, 3) := by decide +kernel
theorem dX3_move_87 : decode cX3_move 87 = .ok (.aload_n 0, 1) := by decide +kernel
theorem dX3_move_88 : decode cX3_move 88 = .ok (.getfield 10, 3) := by decide +kernel
theorem dX3_move_91 : decode cX3_move 91 = .ok (.getfield 123, 3) := by decide +kernel
theorem dX3_move_94 : decode cX3_move 94 = .ok (.iload_n 1, 1) := by decide +kernel
theorem dX3_move_95 : decode cX3_move 95 = .ok (.iload_n 3, 1) := by decide +kernel
theorem dX3_move_96 : decode cX3_move 96 = .ok (.iastore, 1) := by decide +kernel
theorem dX3_move_97 : decode cX3_move 97 = .ok (.iload 4, 2) := by decide +kernel
theorem dX3_move_99 : decode cX3_move 99 = .ok (.ireturn, 1) := by decide +kernel
theorem dX3_shift_0 : decode cX3_shift 0 = .ok (.aload_n 0, 1) := by decide +kernel
theorem dX3_shift_1 : decode cX3_shift 1 = .ok (.iload_n 1, 1) := by decide +kernel
theorem dX3_shift_2 : decode cX3_shift 2 = .ok (.iload_n 2, 1) := by decide +kernel
theorem dX3_shift_3 : decode cX3_shift 3 = .ok (.invokevirtual 149, 3) := by decide +kernel
theorem dX3_shift_6 : decode cX3_shift 6 = .ok (.ifCond .ne 5, 3) := by decide +kernel
theorem dX3_shift_9 : decode cX3_shift 9 = .ok (.iconst (-1), 1) := by decide +kernel
theorem dX3_shift_10 : decode cX3_shift 10 = .ok (.ireturn, 1) := by decide +kernel
theorem dX3_shift_11 : decode cX3_shift 11 = .ok (.aload_n 0, 1) := by decide +kernel
theorem dX3_shift_12 : decode cX3_shift 12 = .ok (.getfield 10, 3) := by decide +kernel
theorem dX3_shift_15 : decode cX3_shift 15 = .ok (.getfield 114, 3) := by decide +kernel
theorem dX3_shift_18 : decode cX3_shift 18 = .ok (.iload_n 1, 1) := by decide +kernel
theorem dX3_shift_19 : decode cX3_shift 19 = .ok (.iaload, 1) := by decide +kernel
theorem dX3_shift_20 : decode cX3_shift 20 = .ok (.istore_n 3, 1) := by decide +kernel
theorem dX3_shift_21 : decode cX3_shift 21 = .ok (.aload_n 0, 1) := by decide +kernel
theorem dX3_shift_22 : decode cX3_shift 22 = .ok (.getfield 10, 3) := by decide +kernel
theorem dX3_shift_25 : decode cX3_shift 25 = .ok (.iload_n 1, 1) := by decide +kernel
theorem dX3_shift_26 : decode cX3_shift 26 = .ok (.iload_n 2, 1) := by decide +kernel
theorem dX3_shift_27 : decode cX3_shift 27 = .ok (.invokevirtual 153, 3) := by decide +kernel
theorem dX3_shift_30 : decode cX3_shift 30 = .ok (.iload_n 3, 1) := by decide +kernel
theorem dX3_shift_31 : decode cX3_shift 31 = .ok (.ireturn, 1) := by decide +kernel
theorem dX3_cloud_0 : decode cX3_cloud 0 = .ok (.iload_n 1, 1) := by decide +kernel
theorem dX3_cloud_1 : decode cX3_cloud 1 = .ok (.invokestatic 111, 3) := by decide +kernel
theorem dX3_cloud_4 : decode cX3_cloud 4 = .ok (.ifCond .ne 5, 3) := by decide +kernel
theorem dX3_cloud_7 : decode cX3_cloud 7 = .ok (.iconst (-1), 1) := by decide +kernel
theorem dX3_cloud_8 : decode cX3_cloud 8 = .ok (.ireturn, 1) := by decide +kernel
theorem dX3_cloud_9 : decode cX3_cloud 9 = .ok (.aload_n 0, 1) := by decide +kernel
theorem dX3_cloud_10 : decode cX3_cloud 10 = .ok (.getfield 10, 3) := by decide +kernel
theorem dX3_cloud_13 : decode cX3_cloud 13 = .ok (.iload_n 1, 1) := by decide +kernel
theorem dX3_cloud_14 : decode cX3_cloud 14 = .ok (.invokevirtual 156, 3) := by decide +kernel
theorem dX3_cloud_17 : decode cX3_cloud 17 = .ok (.ifCond .eq 7, 3) := by decide +kernel
theorem dX3_cloud_20 : decode cX3_cloud 20 = .ok (.iconst 1, 1) := by decide +kernel
theorem dX3_cloud_21 : decode cX3_cloud 21 = .ok (.goto 4, 3) := by decide +kernel
theorem dX3_cloud_24 : decode cX3_cloud 24 = .ok (.iconst 0, 1) := by decide +kernel
theorem dX3_cloud_25 : decode cX3_cloud 25 = .ok (.istore_n 3, 1) := by decide +kernel
theorem dX3_cloud_26 : decode cX3_cloud 26 = .ok (.aload_n 0, 1) := by decide +kernel
theorem dX3_cloud_27 : decode cX3_cloud 27 = .ok (.getfield 10, 3) := by decide +kernel
theorem dX3_cloud_30 : decode cX3_cloud 30 = .ok (.iload_n 1, 1) := by decide +kernel
theorem dX3_cloud_31 : decode cX3_cloud 31 = .ok (.iload_n 2, 1) := by decide +kernel
theorem dX3_cloud_32 : decode cX3_cloud 32 = .ok (.invokevirtual 159, 3) := by decide +kernel
theorem dX3_cloud_35 : decode cX3_cloud 35 = .ok (.iload_n 3, 1) := by decide +kernel
theorem dX3_cloud_36 : decode cX3_cloud 36 = .ok (.ireturn, 1) := by decide +kernel
theorem dX3_paint_0 : decode cX3_paint 0 = .ok (.iload_n 1, 1) := by decide +kernel
theorem dX3_paint_1 : decode cX3_paint 1 = .ok (.ifCond .lt 9, 3) := by decide +kernel
theorem dX3_paint_4 : decode cX3_paint 4 = .ok (.iload_n 1, 1) := by decide +kernel
theorem dX3_paint_5 : decode cX3_paint 5 = .ok (.bipush 7, 2) := by decide +kernel
theorem dX3_paint_7 : decode cX3_paint 7 = .ok (.if_icmp .lt 5, 3) := by decide +kernel
theorem dX3_paint_10 : decode cX3_paint 10 = .ok (.iconst (-1), 1) := by decide +kernel
theorem dX3_paint_11 : decode cX3_paint 11 = .ok (.ireturn, 1) := by decide +kernel
theorem dX3_paint_12 : decode cX3_paint 12 = .ok (.aload_n 0, 1) := by decide +kernel
theorem dX3_paint_13 : decode cX3_paint 13 = .ok (.getfield 10, 3) := by decide +kernel
theorem dX3_paint_16 : decode cX3_paint 16 = .ok (.getfield 82, 3) := by decide +kernel
theorem dX3_paint_19 : decode cX3_paint 19 = .ok (.istore_n 2, 1) := by decide +kernel
theorem dX3_paint_20 : decode cX3_paint 20 = .ok (.aload_n 0, 1) := by decide +kernel
theorem dX3_paint_21 : decode cX3_paint 21 = .ok (.getfield 10, 3) := by decide +kernel
theorem dX3_paint_24 : decode cX3_paint 24 = .ok (.iload_n 1, 1) := by decide +kernel
theorem dX3_paint_25 : decode cX3_paint 25 = .ok (.invokevirtual 163, 3) := by decide +kernel
theorem dX3_paint_28 : decode cX3_paint 28 = .ok (.iload_n 2, 1) := by decide +kernel
theorem dX3_paint_29 : decode cX3_paint 29 = .ok (.ireturn, 1) := by decide +kernel
theorem dX3_want_0 : decode cX3_want 0 = .ok (.iload_n 1, 1) := by decide +kernel
theorem dX3_want_1 : decode cX3_want 1 = .ok (.invokestatic 143, 3) := by decide +kernel
theorem dX3_want_4 : decode cX3_want 4 = .ok (.ifCond .eq 10, 3) := by decide +kernel
theorem dX3_want_7 : decode cX3_want 7 = .ok (.iload_n 2, 1) := by decide +kernel
theorem dX3_want_8 : decode cX3_want 8 = .ok (.invokestatic 146, 3) := by decide +kernel
theorem dX3_want_11 : decode cX3_want 11 = .ok (.ifCond .ne 5, 3) := by decide +kernel
theorem dX3_want_14 : decode cX3_want 14 = .ok (.iconst (-1), 1) := by decide +kernel
theorem dX3_want_15 : decode cX3_want 15 = .ok (.ireturn, 1) := by decide +kernel
theorem dX3_want_16 : decode cX3_want 16 = .ok (.aload_n 0, 1) := by decide +kernel
theorem dX3_want_17 : decode cX3_want 17 = .ok (.getfield 10, 3) := by decide +kernel
theorem dX3_want_20 : decode cX3_want 20 = .ok (.iload_n 1, 1) := by decide +kernel
theorem dX3_want_21 : decode cX3_want 21 = .ok (.iload_n 2, 1) := by decide +kernel
theorem dX3_want_22 : decode cX3_want 22 = .ok (.invokevirtual 167, 3) := by decide +kernel
theorem dX3_want_25 : decode cX3_want 25 = .ok (.ifCond .eq 13, 3) := by decide +kernel
theorem dX3_want_28 : decode cX3_want 28 = .ok (.aload_n 0, 1) := by decide +kernel
theorem dX3_want_29 : decode cX3_want 29 = .ok (.getfield 10, 3) := by decide +kernel
theorem dX3_want_32 : decode cX3_want 32 = .ok (.getfield 79, 3) := by decide +kernel
theorem dX3_want_35 : decode cX3_want 35 = .ok (.goto 5, 3) := by decide +kernel
theorem dX3_want_38 : decode cX3_want 38 = .ok (.bipush (-3), 2) := by decide +kernel
theorem dX3_want_40 : decode cX3_want 40 = .ok (.ireturn, 1) := by decide +kernel
theorem dX3_drop_0 : decode cX3_drop 0 = .ok (.iload_n 1, 1) := by decide +kernel
theorem dX3_drop_1 : decode cX3_drop 1 = .ok (.ifCond .lt 14, 3) := by decide +kernel
theorem dX3_drop_4 : decode cX3_drop 4 = .ok (.iload_n 1, 1) := by decide +kernel
theorem dX3_drop_5 : decode cX3_drop 5 = .ok (.aload_n 0, 1) := by decide +kernel
theorem dX3_drop_6 : decode cX3_drop 6 = .ok (.getfield 10, 3) := by decide +kernel
theorem dX3_drop_9 : decode cX3_drop 9 = .ok (.getfield 79, 3) := by decide +kernel
theorem dX3_drop_12 : decode cX3_drop 12 = .ok (.if_icmp .le 5, 3) := by decide +kernel
theorem dX3_drop_15 : decode cX3_drop 15 = .ok (.iconst (-1), 1) := by decide +kernel
theorem dX3_drop_16 : decode cX3_drop 16 = .ok (.ireturn, 1) := by decide +kernel
theorem dX3_drop_17 : decode cX3_drop 17 = .ok (.aload_n 0, 1) := by decide +kernel
theorem dX3_drop_18 : decode cX3_drop 18 = .ok (.getfield 10, 3) := by decide +kernel
theorem dX3_drop_21 : decode cX3_drop 21 = .ok (.getfield 79, 3) := by decide +kernel
theorem dX3_drop_24 : decode cX3_drop 24 = .ok (.istore_n 2, 1) := by decide +kernel
theorem dX3_drop_25 : decode cX3_drop 25 = .ok (.aload_n 0, 1) := by decide +kernel
theorem dX3_drop_26 : decode cX3_drop 26 = .ok (.getfield 10, 3) := by decide +kernel
theorem dX3_drop_29 : decode cX3_drop 29 = .ok (.iload_n 1, 1) := by decide +kernel
theorem dX3_drop_30 : decode cX3_drop 30 = .ok (.putfield 79, 3) := by decide +kernel
theorem dX3_drop_33 : decode cX3_drop 33 = .ok (.iload_n 2, 1) := by decide +kernel
theorem dX3_drop_34 : decode cX3_drop 34 = .ok (.ireturn, 1) := by decide +kernel
theorem dX3_shows_0 : decode cX3_shows 0 = .ok (.iload_n 1, 1) := by decide +kernel
theorem dX3_shows_1 : decode cX3_shows 1 = .ok (.invokestatic 143, 3) := by decide +kernel
theorem dX3_shows_4 : decode cX3_shows 4 = .ok (.ifCond .eq 14, 3) := by decide +kernel
theorem dX3_shows_7 : decode cX3_shows 7 = .ok (.aload_n 0, 1) := by decide +kernel
theorem dX3_shows_8 : decode cX3_shows 8 = .ok (.getfield 10, 3) := by decide +kernel
theorem dX3_shows_11 : decode cX3_shows 11 = .ok (.iload_n 1, 1) := by decide +kernel
theorem dX3_shows_12 : decode cX3_shows 12 = .ok (.invokevirtual 170, 3) := by decide +kernel
theorem dX3_shows_15 : decode cX3_shows 15 = .ok (.goto 4, 3) := by decide +kernel
theorem dX3_shows_18 : decode cX3_shows 18 = .ok (.iconst (-1), 1) := by decide +kernel
theorem dX3_shows_19 : decode cX3_shows 19 = .ok (.ireturn, 1) := by decide +kernel
theorem dX3_lost_0 : decode cX3_lost 0 = .ok (.iload_n 1, 1) := by decide +kernel
theorem dX3_lost_1 : decode cX3_lost 1 = .ok (.invokestatic 133, 3) := by decide +kernel
theorem dX3_lost_4 : decode cX3_lost 4 = .ok (.ifCond .ne 5, 3) := by decide +kernel
theorem dX3_lost_7 : decode cX3_lost 7 = .ok (.iconst (-1), 1) := by decide +kernel
theorem dX3_lost_8 : decode cX3_lost 8 = .ok (.ireturn, 1) := by decide +kernel
theorem dX3_lost_9 : decode cX3_lost 9 = .ok (.iconst 0, 1) := by decide +kernel
theorem dX3_lost_10 : decode cX3_lost 10 = .ok (.istore_n 2, 1) := by decide +kernel
theorem dX3_lost_11 : decode cX3_lost 11 = .ok (.bipush (-4), 2) := by decide +kernel
theorem dX3_lost_13 : decode cX3_lost 13 = .ok (.istore_n 3, 1) := by decide +kernel
theorem dX3_lost_14 : decode cX3_lost 14 = .ok (.bipush (-4), 2) := by decide +kernel
theorem dX3_lost_16 : decode cX3_lost 16 = .ok (.istore 4, 2) := by decide +kernel
theorem dX3_lost_18 : decode cX3_lost 18 = .ok (.iconst 0, 1) := by decide +kernel
theorem dX3_lost_19 : decode cX3_lost 19 = .ok (.istore 5, 2) := by decide +kernel
theorem dX3_lost_21 : decode cX3_lost 21 = .ok (.iload 5, 2) := by decide +kernel
theorem dX3_lost_23 : decode cX3_lost 23 = .ok (.bipush 48, 2) := by decide +kernel
theorem dX3_lost_25 : decode cX3_lost 25 = .ok (.if_icmp .ge 57, 3) := by decide +kernel
theorem dX3_lost_28 : decode cX3_lost 28 = .ok (.aload_n 0, 1) := by decide +kernel
theorem dX3_lost_29 : decode cX3_lost 29 = .ok (.getfield 10, 3) := by decide +kernel
theorem dX3_lost_32 : decode cX3_lost 32 = .ok (.iload 5, 2) := by decide +kernel
theorem dX3_lost_34 : decode cX3_lost 34 = .ok (.invokevirtual 170, 3) := by decide +kernel
theorem dX3_lost_37 : decode cX3_lost 37 = .ok (.istore 6, 2) := by decide +kernel
theorem dX3_lost_39 : decode cX3_lost 39 = .ok (.iload 6, 2) := by decide +kernel
theorem dX3_lost_41 : decode cX3_lost 41 = .ok (.bipush (-4), 2) := by decide +kernel
theorem dX3_lost_43 : decode cX3_lost 43 = .ok (.if_icmp .ne 6, 3) := by decide +kernel
theorem dX3_lost_46 : decode cX3_lost 46 = .ok (.goto 30, 3) := by decide +kernel
theorem dX3_lost_49 : decode cX3_lost 49 = .ok (.iload 6, 2) := by decide +kernel
theorem dX3_lost_51 : decode cX3_lost 51 = .ok (.iload 4, 2) := by decide +kernel
theorem dX3_lost_53 : decode cX3_lost 53 = .ok (.if_icmp .ge 19, 3) := by decide +kernel
theorem dX3_lost_56 : decode cX3_lost 56 = .ok (.iinc 2 1, 3) := by decide +kernel
theorem dX3_lost_59 : decode cX3_lost 59 = .ok (.iload_n 3, 1) := by decide +kernel
theorem dX3_lost_60 : decode cX3_lost 60 = .ok (.bipush (-4), 2) := by decide +kernel
theorem dX3_lost_62 : decode cX3_lost 62 = .ok (.if_icmp .ne 8, 3) := by decide +kernel
theorem dX3_lost_65 : decode cX3_lost 65 = .ok (.iload 5, 2) := by decide +kernel
theorem dX3_lost_67 : decode cX3_lost 67 = .ok (.goto 4, 3) := by decide +kernel
theorem dX3_lost_70 : decode cX3_lost 70 = .ok (.iload_n 3, 1) := by decide +kernel
theorem dX3_lost_71 : decode cX3_lost 71 = .ok (.istore_n 3, 1) := by decide +kernel
theorem dX3_lost_72 : decode cX3_lost 72 = .ok (.iload 6, 2) := by decide +kernel
theorem dX3_lost_74 : decode cX3_lost 74 = .ok (.istore 4, 2) := by decide +kernel
theorem dX3_lost_76 : decode cX3_lost 76 = .ok (.iinc 5 1, 3) := by decide +kernel
theorem dX3_lost_79 : decode cX3_lost 79 = .ok (.goto (-58), 3) := by decide +kernel
theorem dX3_lost_82 : decode cX3_lost 82 = .ok (.iload_n 1, 1) := by decide +kernel
theorem dX3_lost_83 : decode cX3_lost 83 = .ok (.ifCond .ne 7, 3) := by decide +kernel
theorem dX3_lost_86 : decode cX3_lost 86 = .ok (.iload_n 2, 1) := by decide +kernel
theorem dX3_lost_87 : decode cX3_lost 87 = .ok (.goto 4, 3) := by decide +kernel
theorem dX3_lost_90 : decode cX3_lost 90 = .ok (.iload_n 3, 1) := by decide +kernel
theorem dX3_lost_91 : decode cX3_lost 91 = .ok (.ireturn, 1) := by decide +kernel
theorem dX3_worst_0 : decode cX3_worst 0 = .ok (.iload_n 1, 1) := by decide +kernel
theorem dX3_worst_1 : decode cX3_worst 1 = .ok (.invokestatic 133, 3) := by decide +kernel
theorem dX3_worst_4 : decode cX3_worst 4 = .ok (.ifCond .ne 5, 3) := by decide +kernel
theorem dX3_worst_7 : decode cX3_worst 7 = .ok (.iconst (-1), 1) := by decide +kernel
theorem dX3_worst_8 : decode cX3_worst 8 = .ok (.ireturn, 1) := by decide +kernel
theorem dX3_worst_9 : decode cX3_worst 9 = .ok (.bipush (-4), 2) := by decide +kernel
theorem dX3_worst_11 : decode cX3_worst 11 = .ok (.istore_n 2, 1) := by decide +kernel
theorem dX3_worst_12 : decode cX3_worst 12 = .ok (.bipush (-4), 2) := by decide +kernel
theorem dX3_worst_14 : decode cX3_worst 14 = .ok (.istore_n 3, 1) := by decide +kernel
theorem dX3_worst_15 : decode cX3_worst 15 = .ok (.iconst 0, 1) := by decide +kernel
theorem dX3_worst_16 : decode cX3_worst 16 = .ok (.istore 4, 2) := by decide +kernel
theorem dX3_worst_18 : decode cX3_worst 18 = .ok (.iload 4, 2) := by decide +kernel
theorem dX3_worst_20 : decode cX3_worst 20 = .ok (.bipush 48, 2) := by decide +kernel
theorem dX3_worst_22 : decode cX3_worst 22 = .ok (.if_icmp .ge 51, 3) := by decide +kernel
theorem dX3_worst_25 : decode cX3_worst 25 = .ok (.aload_n 0, 1) := by decide +kernel
theorem dX3_worst_26 : decode cX3_worst 26 = .ok (.getfield 10, 3) := by decide +kernel
theorem dX3_worst_29 : decode cX3_worst 29 = .ok (.iload 4, 2) := by decide +kernel
theorem dX3_worst_31 : decode cX3_worst 31 = .ok (.invokevirtual 170, 3) := by decide +kernel
theorem dX3_worst_34 : decode cX3_worst 34 = .ok (.istore 5, 2) := by decide +kernel
theorem dX3_worst_36 : decode cX3_worst 36 = .ok (.iload 5, 2) := by decide +kernel
theorem dX3_worst_38 : decode cX3_worst 38 = .ok (.bipush (-4), 2) := by decide +kernel
theorem dX3_worst_40 : decode cX3_worst 40 = .ok (.if_icmp .eq 27, 3) := by decide +kernel
theorem dX3_worst_43 : decode cX3_worst 43 = .ok (.iload 5, 2) := by decide +kernel
theorem dX3_worst_45 : decode cX3_worst 45 = .ok (.iload 4, 2) := by decide +kernel
theorem dX3_worst_47 : decode cX3_worst 47 = .ok (.isub, 1) := by decide +kernel
theorem dX3_worst_48 : decode cX3_worst 48 = .ok (.invokestatic 173, 3) := by decide +kernel
theorem dX3_worst_51 : decode cX3_worst 51 = .ok (.iload_n 2, 1) := by decide +kernel
theorem dX3_worst_52 : decode cX3_worst 52 = .ok (.if_icmp .le 15, 3) := by decide +kernel
theorem dX3_worst_55 : decode cX3_worst 55 = .ok (.iload 5, 2) := by decide +kernel
theorem dX3_worst_57 : decode cX3_worst 57 = .ok (.iload 4, 2) := by decide +kernel
theorem dX3_worst_59 : decode cX3_worst 59 = .ok (.isub, 1) := by decide +kernel
theorem dX3_worst_60 : decode cX3_worst 60 = .ok (.invokestatic 173, 3) := by decide +kernel
theorem dX3_worst_63 : decode cX3_worst 63 = .ok (.istore_n 2, 1) := by decide +kernel
theorem dX3_worst_64 : decode cX3_worst 64 = .ok (.iload 4, 2) := by decide +kernel
theorem dX3_worst_66 : decode cX3_worst 66 = .ok (.istore_n 3, 1) := by decide +kernel
theorem dX3_worst_67 : decode cX3_worst 67 = .ok (.iinc 4 1, 3) := by decide +kernel
theorem dX3_worst_70 : decode cX3_worst 70 = .ok (.goto (-52), 3) := by decide +kernel
theorem dX3_worst_73 : decode cX3_worst 73 = .ok (.iload_n 1, 1) := by decide +kernel
theorem dX3_worst_74 : decode cX3_worst 74 = .ok (.ifCond .ne 7, 3) := by decide +kernel
theorem dX3_worst_77 : decode cX3_worst 77 = .ok (.iload_n 2, 1) := by decide +kernel
theorem dX3_worst_78 : decode cX3_worst 78 = .ok (.goto 4, 3) := by decide +kernel
theorem dX3_worst_81 : decode cX3_worst 81 = .ok (.iload_n 3, 1) := by decide +kernel
theorem dX3_worst_82 : decode cX3_worst 82 = .ok (.ireturn, 1) := by decide +kernel
theorem dX3_done_0 : decode cX3_done 0 = .ok (.iload_n 1, 1) := by decide +kernel
theorem dX3_done_1 : decode cX3_done 1 = .ok (.ifCond .lt 8, 3) := by decide +kernel
theorem dX3_done_4 : decode cX3_done 4 = .ok (.iload_n 1, 1) := by decide +kernel
theorem dX3_done_5 : decode cX3_done 5 = .ok (.iconst 3, 1) := by decide +kernel
theorem dX3_done_6 : decode cX3_done 6 = .ok (.if_icmp .le 5, 3) := by decide +kernel
theorem dX3_done_9 : decode cX3_done 9 = .ok (.iconst (-1), 1) := by decide +kernel
theorem dX3_done_10 : decode cX3_done 10 = .ok (.ireturn, 1) := by decide +kernel
theorem dX3_done_11 : decode cX3_done 11 = .ok (.iconst 0, 1) := by decide +kernel
theorem dX3_done_12 : decode cX3_done 12 = .ok (.istore_n 2, 1) := by decide +kernel
theorem dX3_done_13 : decode cX3_done 13 = .ok (.iconst 0, 1) := by decide +kernel
theorem dX3_done_14 : decode cX3_done 14 = .ok (.istore_n 3, 1) := by decide +kernel
theorem dX3_done_15 : decode cX3_done 15 = .ok (.iload_n 3, 1) := by decide +kernel
theorem dX3_done_16 : decode cX3_done 16 = .ok (.aload_n 0, 1) := by decide +kernel
theorem dX3_done_17 : decode cX3_done 17 = .ok (.getfield 10, 3) := by decide +kernel
theorem dX3_done_20 : decode cX3_done 20 = .ok (.getfield 79, 3) := by decide +kernel
theorem dX3_done_23 : decode cX3_done 23 = .ok (.if_icmp .ge 24, 3) := by decide +kernel
theorem dX3_done_26 : decode cX3_done 26 = .ok (.aload_n 0, 1) := by decide +kernel
theorem dX3_done_27 : decode cX3_done 27 = .ok (.iload_n 3, 1) := by decide +kernel
theorem dX3_done_28 : decode cX3_done 28 = .ok (.invokevirtual 178, 3) := by decide +kernel
theorem dX3_done_31 : decode cX3_done 31 = .ok (.iload_n 1, 1) := by decide +kernel
theorem dX3_done_32 : decode cX3_done 32 = .ok (.if_icmp .ne 9, 3) := by decide +kernel
theorem dX3_done_35 : decode cX3_done 35 = .ok (.iload_n 2, 1) := by decide +kernel
theorem dX3_done_36 : decode cX3_done 36 = .ok (.iconst 1, 1) := by decide +kernel
theorem dX3_done_37 : decode cX3_done 37 = .ok (.iload_n 3, 1) := by decide +kernel
theorem dX3_done_38 : decode cX3_done 38 = .ok (.ishl, 1) := by decide +kernel
theorem dX3_done_39 : decode cX3_done 39 = .ok (.ior, 1) := by decide +kernel
theorem dX3_done_40 : decode cX3_done 40 = .ok (.istore_n 2, 1) := by decide +kernel
theorem dX3_done_41 : decode cX3_done 41 = .ok (.iinc 3 1, 3) := by decide +kernel
theorem dX3_done_44 : decode cX3_done 44 = .ok (.goto (-29), 3) := by decide +kernel
theorem dX3_done_47 : decode cX3_done 47 = .ok (.iload_n 2, 1) := by decide +kernel
theorem dX3_done_48 : decode cX3_done 48 = .ok (.ireturn, 1) := by decide +kernel
theorem dX3_timelinessOf_0 : decode cX3_timelinessOf 0 = .ok (.aload_n 0, 1) := by decide +kernel
theorem dX3_timelinessOf_1 : decode cX3_timelinessOf 1 = .ok (.getfield 10, 3) := by decide +kernel
theorem dX3_timelinessOf_4 : decode cX3_timelinessOf 4 = .ok (.iload_n 1, 1) := by decide +kernel
theorem dX3_timelinessOf_5 : decode cX3_timelinessOf 5 = .ok (.invokevirtual 126, 3) := by decide +kernel
theorem dX3_timelinessOf_8 : decode cX3_timelinessOf 8 = .ok (.istore_n 2, 1) := by decide +kernel
theorem dX3_timelinessOf_9 : decode cX3_timelinessOf 9 = .ok (.iload_n 2, 1) := by decide +kernel
theorem dX3_timelinessOf_10 : decode cX3_timelinessOf 10 = .ok (.bipush (-4), 2) := by decide +kernel
theorem dX3_timelinessOf_12 : decode cX3_timelinessOf 12 = .ok (.if_icmp .ne 5, 3) := by decide +kernel
theorem dX3_timelinessOf_15 : decode cX3_timelinessOf 15 = .ok (.iconst 3, 1) := by decide +kernel
theorem dX3_timelinessOf_16 : decode cX3_timelinessOf 16 = .ok (.ireturn, 1) := by decide +kernel
theorem dX3_timelinessOf_17 : decode cX3_timelinessOf 17 = .ok (.iload_n 2, 1) := by decide +kernel
theorem dX3_timelinessOf_18 : decode cX3_timelinessOf 18 = .ok (.aload_n 0, 1) := by decide +kernel
theorem dX3_timelinessOf_19 : decode cX3_timelinessOf 19 = .ok (.getfield 10, 3) := by decide +kernel
theorem dX3_timelinessOf_22 : decode cX3_timelinessOf 22 = .ok (.getfield 120, 3) := by decide +kernel
theorem dX3_timelinessOf_25 : decode cX3_timelinessOf 25 = .ok (.iload_n 1, 1) := by decide +kernel
theorem dX3_timelinessOf_26 : decode cX3_timelinessOf 26 = .ok (.iaload, 1) := by decide +kernel
theorem dX3_timelinessOf_27 : decode cX3_timelinessOf 27 = .ok (.if_icmp .ne 5, 3) := by decide +kernel
theorem dX3_timelinessOf_30 : decode cX3_timelinessOf 30 = .ok (.iconst 1, 1) := by decide +kernel
theorem dX3_timelinessOf_31 : decode cX3_timelinessOf 31 = .ok (.ireturn, 1) := by decide +kernel
theorem dX3_timelinessOf_32 : decode cX3_timelinessOf 32 = .ok (.iload_n 2, 1) := by decide +kernel
theorem dX3_timelinessOf_33 : decode cX3_timelinessOf 33 = .ok (.aload_n 0, 1) := by decide +kernel
theorem dX3_timelinessOf_34 : decode cX3_timelinessOf 34 = .ok (.getfield 10, 3) := by decide +kernel
theorem dX3_timelinessOf_37 : decode cX3_timelinessOf 37 = .ok (.getfield 120, 3) := by decide +kernel
theorem dX3_timelinessOf_40 : decode cX3_timelinessOf 40 = .ok (.iload_n 1, 1) := by decide +kernel
theorem dX3_timelinessOf_41 : decode cX3_timelinessOf 41 = .ok (.iaload, 1) := by decide +kernel
theorem dX3_timelinessOf_42 : decode cX3_timelinessOf 42 = .ok (.if_icmp .ge 7, 3) := by decide +kernel
theorem dX3_timelinessOf_45 : decode cX3_timelinessOf 45 = .ok (.iconst 0, 1) := by decide +kernel
theorem dX3_timelinessOf_46 : decode cX3_timelinessOf 46 = .ok (.goto 4, 3) := by decide +kernel
theorem dX3_timelinessOf_49 : decode cX3_timelinessOf 49 = .ok (.iconst 2, 1) := by decide +kernel
theorem dX3_timelinessOf_50 : decode cX3_timelinessOf 50 = .ok (.ireturn, 1) := by decide +kernel
theorem dX3_lean_0 : decode cX3_lean 0 = .ok (.aload_n 0, 1) := by decide +kernel
theorem dX3_lean_1 : decode cX3_lean 1 = .ok (.getfield 10, 3) := by decide +kernel
theorem dX3_lean_4 : decode cX3_lean 4 = .ok (.iload_n 1, 1) := by decide +kernel
theorem dX3_lean_5 : decode cX3_lean 5 = .ok (.invokevirtual 95, 3) := by decide +kernel
theorem dX3_lean_8 : decode cX3_lean 8 = .ok (.ifCond .eq 21, 3) := by decide +kernel
theorem dX3_lean_11 : decode cX3_lean 11 = .ok (.aload_n 0, 1) := by decide +kernel
theorem dX3_lean_12 : decode cX3_lean 12 = .ok (.getfield 10, 3) := by decide +kernel
theorem dX3_lean_15 : decode cX3_lean 15 = .ok (.iload_n 2, 1) := by decide +kernel
theorem dX3_lean_16 : decode cX3_lean 16 = .ok (.invokevirtual 117, 3) := by decide +kernel
theorem dX3_lean_19 : decode cX3_lean 19 = .ok (.ifCond .eq 10, 3) := by decide +kernel
theorem dX3_lean_22 : decode cX3_lean 22 = .ok (.iload_n 3, 1) := by decide +kernel
theorem dX3_lean_23 : decode cX3_lean 23 = .ok (.invokestatic 143, 3) := by decide +kernel
theorem dX3_lean_26 : decode cX3_lean 26 = .ok (.ifCond .ne 5, 3) := by decide +kernel
theorem dX3_lean_29 : decode cX3_lean 29 = .ok (.iconst (-1), 1) := by decide +kernel
theorem dX3_lean_30 : decode cX3_lean 30 = .ok (.ireturn, 1) := by decide +kernel
theorem dX3_lean_31 : decode cX3_lean 31 = .ok (.aload_n 0, 1) := by decide +kernel
theorem dX3_lean_32 : decode cX3_lean 32 = .ok (.getfield 16, 3) := by decide +kernel
theorem dX3_lean_35 : decode cX3_lean 35 = .ok (.aload_n 0, 1) := by decide +kernel
theorem dX3_lean_36 : decode cX3_lean 36 = .ok (.getfield 10, 3) := by decide +kernel
theorem dX3_lean_39 : decode cX3_lean 39 = .ok (.invokevirtual 69, 3) := by decide +kernel
theorem dX3_lean_42 : decode cX3_lean 42 = .ok (.getstatic 181, 3) := by decide +kernel
theorem dX3_lean_45 : decode cX3_lean 45 = .ok (.astore 4, 2) := by decide +kernel
theorem dX3_lean_47 : decode cX3_lean 47 = .ok (.aload 4, 2) := by decide +kernel
theorem dX3_lean_49 : decode cX3_lean 49 = .ok (.arraylength, 1) := by decide +kernel
theorem dX3_lean_50 : decode cX3_lean 50 = .ok (.istore 5, 2) := by decide +kernel
theorem dX3_lean_52 : decode cX3_lean 52 = .ok (.iconst 0, 1) := by decide +kernel
theorem dX3_lean_53 : decode cX3_lean 53 = .ok (.istore 6, 2) := by decide +kernel
theorem dX3_lean_55 : decode cX3_lean 55 = .ok (.iload 6, 2) := by decide +kernel
theorem dX3_lean_57 : decode cX3_lean 57 = .ok (.iload 5, 2) := by decide +kernel
theorem dX3_lean_59 : decode cX3_lean 59 = .ok (.if_icmp .ge 52, 3) := by decide +kernel
theorem dX3_lean_62 : decode cX3_lean 62 = .ok (.aload 4, 2) := by decide +kernel
theorem dX3_lean_64 : decode cX3_lean 64 = .ok (.iload 6, 2) := by decide +kernel
theorem dX3_lean_66 : decode cX3_lean 66 = .ok (.iaload, 1) := by decide +kernel
theorem dX3_lean_67 : decode cX3_lean 67 = .ok (.istore 7, 2) := by decide +kernel
theorem dX3_lean_69 : decode cX3_lean 69 = .ok (.aload_n 0, 1) := by decide +kernel
theorem dX3_lean_70 : decode cX3_lean 70 = .ok (.getfield 16, 3) := by decide +kernel
theorem dX3_lean_73 : decode cX3_lean 73 = .ok (.iload_n 1, 1) := by decide +kernel
theorem dX3_lean_74 : decode cX3_lean 74 = .ok (.iload 7, 2) := by decide +kernel
theorem dX3_lean_76 : decode cX3_lean 76 = .ok (.invokevirtual 140, 3) := by decide +kernel
theorem dX3_lean_79 : decode cX3_lean 79 = .ok (.aload_n 0, 1) := by decide +kernel
theorem dX3_lean_80 : decode cX3_lean 80 = .ok (.getfield 16, 3) := by decide +kernel
theorem dX3_lean_83 : decode cX3_lean 83 = .ok (.iload_n 2, 1) := by decide +kernel
theorem dX3_lean_84 : decode cX3_lean 84 = .ok (.invokevirtual 126, 3) := by decide +kernel
theorem dX3_lean_87 : decode cX3_lean 87 = .ok (.istore 8, 2) := by decide +kernel
theorem dX3_lean_89 : decode cX3_lean 89 = .ok (.iload 8, 2) := by decide +kernel
theorem dX3_lean_91 : decode cX3_lean 91 = .ok (.bipush (-4), 2) := by decide +kernel
theorem dX3_lean_93 : decode cX3_lean 93 = .ok (.if_icmp .eq 12, 3) := by decide +kernel
theorem dX3_lean_96 : decode cX3_lean 96 = .ok (.iload 8, 2) := by decide +kernel
theorem dX3_lean_98 : decode cX3_lean 98 = .ok (.iload_n 3, 1) := by decide +kernel
theorem dX3_lean_99 : decode cX3_lean 99 = .ok (.if_icmp .gt 6, 3) := by decide +kernel
theorem dX3_lean_102 : decode cX3_lean 102 = .ok (.iload 7, 2) := by decide +kernel
theorem dX3_lean_104 : decode cX3_lean 104 = .ok (.ireturn, 1) := by decide +kernel
theorem dX3_lean_105 : decode cX3_lean 105 = .ok (.iinc 6 1, 3) := by decide +kernel
theorem dX3_lean_108 : decode cX3_lean 108 = .ok (.goto (-53), 3) := by decide +kernel
theorem dX3_lean_111 : decode cX3_lean 111 = .ok (.bipush (-4), 2) := by decide +kernel
theorem dX3_lean_113 : decode cX3_lean 113 = .ok (.ireturn, 1) := by decide +kernel
theorem dX3_mark_0 : decode cX3_mark 0 = .ok (.iload_n 1, 1) := by decide +kernel
theorem dX3_mark_1 : decode cX3_mark 1 = .ok (.invokestatic 133, 3) := by decide +kernel
theorem dX3_mark_4 : decode cX3_mark 4 = .ok (.ifCond .ne 5, 3) := by decide +kernel
theorem dX3_mark_7 : decode cX3_mark 7 = .ok (.iconst (-1), 1) := by decide +kernel
theorem dX3_mark_8 : decode cX3_mark 8 = .ok (.ireturn, 1) := by decide +kernel
theorem dX3_mark_9 : decode cX3_mark 9 = .ok (.aload_n 0, 1) := by decide +kernel
theorem dX3_mark_10 : decode cX3_mark 10 = .ok (.getfield 16, 3) := by decide +kernel
theorem dX3_mark_13 : decode cX3_mark 13 = .ok (.aload_n 0, 1) := by decide +kernel
theorem dX3_mark_14 : decode cX3_mark 14 = .ok (.getfield 10, 3) := by decide +kernel
theorem dX3_mark_17 : decode cX3_mark 17 = .ok (.invokevirtual 69, 3) := by decide +kernel
theorem dX3_mark_20 : decode cX3_mark 20 = .ok (.bipush (-4), 2) := by decide +kernel
theorem dX3_mark_22 : decode cX3_mark 22 = .ok (.istore_n 2, 1) := by decide +kernel
theorem dX3_mark_23 : decode cX3_mark 23 = .ok (.ldc 186, 2) := by decide +kernel
theorem dX3_mark_25 : decode cX3_mark 25 = .ok (.istore_n 3, 1) := by decide +kernel
theorem dX3_mark_26 : decode cX3_mark 26 = .ok (.iconst 0, 1) := by decide +kernel
theorem dX3_mark_27 : decode cX3_mark 27 = .ok (.istore 4, 2) := by decide +kernel
theorem dX3_mark_29 : decode cX3_mark 29 = .ok (.iload 4, 2) := by decide +kernel
theorem dX3_mark_31 : decode cX3_mark 31 = .ok (.bipush 7, 2) := by decide +kernel
theorem dX3_mark_33 : decode cX3_mark 33 = .ok (.if_icmp .ge 39, 3) := by decide +kernel
theorem dX3_mark_36 : decode cX3_mark 36 = .ok (.aload_n 0, 1) := by decide +kernel
theorem dX3_mark_37 : decode cX3_mark 37 = .ok (.getfield 16, 3) := by decide +kernel
theorem dX3_mark_40 : decode cX3_mark 40 = .ok (.iload 4, 2) := by decide +kernel
theorem dX3_mark_42 : decode cX3_mark 42 = .ok (.invokevirtual 163, 3) := by decide +kernel
theorem dX3_mark_45 : decode cX3_mark 45 = .ok (.aload_n 0, 1) := by decide +kernel
theorem dX3_mark_46 : decode cX3_mark 46 = .ok (.getfield 16, 3) := by decide +kernel
theorem dX3_mark_49 : decode cX3_mark 49 = .ok (.invokevirtual 92, 3) := by decide +kernel
theorem dX3_mark_52 : decode cX3_mark 52 = .ok (.istore 5, 2) := by decide +kernel
theorem dX3_mark_54 : decode cX3_mark 54 = .ok (.iload 5, 2) := by decide +kernel
theorem dX3_mark_56 : decode cX3_mark 56 = .ok (.iload_n 3, 1) := by decide +kernel
theorem dX3_mark_57 : decode cX3_mark 57 = .ok (.if_icmp .ge 9, 3) := by decide +kernel
theorem dX3_mark_60 : decode cX3_mark 60 = .ok (.iload 5, 2) := by decide +kernel
theorem dX3_mark_62 : decode cX3_mark 62 = .ok (.istore_n 3, 1) := by decide +kernel
theorem dX3_mark_63 : decode cX3_mark 63 = .ok (.iload 4, 2) := by decide +kernel
theorem dX3_mark_65 : decode cX3_mark 65 = .ok (.istore_n 2, 1) := by decide +kernel
theorem dX3_mark_66 : decode cX3_mark 66 = .ok (.iinc 4 1, 3) := by decide +kernel
theorem dX3_mark_69 : decode cX3_mark 69 = .ok (.goto (-40), 3) := by decide +kernel
theorem dX3_mark_72 : decode cX3_mark 72 = .ok (.iload_n 1, 1) := by decide +kernel
theorem dX3_mark_73 : decode cX3_mark 73 = .ok (.ifCond .ne 7, 3) := by decide +kernel
theorem dX3_mark_76 : decode cX3_mark 76 = .ok (.iload_n 2, 1) := by decide +kernel
theorem dX3_mark_77 : decode cX3_mark 77 = .ok (.goto 4, 3) := by decide +kernel
theorem dX3_mark_80 : decode cX3_mark 80 = .ok (.iload_n 3, 1) := by decide +kernel
theorem dX3_mark_81 : decode cX3_mark 81 = .ok (.ireturn, 1) := by decide +kernel
theorem dX3_give_0 : decode cX3_give 0 = .ok (.iload_n 1, 1) := by decide +kernel
theorem dX3_give_1 : decode cX3_give 1 = .ok (.invokestatic 133, 3) := by decide +kernel
theorem dX3_give_4 : decode cX3_give 4 = .ok (.ifCond .ne 5, 3) := by decide +kernel
theorem dX3_give_7 : decode cX3_give 7 = .ok (.iconst (-1), 1) := by decide +kernel
theorem dX3_give_8 : decode cX3_give 8 = .ok (.ireturn, 1) := by decide +kernel
theorem dX3_give_9 : decode cX3_give 9 = .ok (.aload_n 0, 1) := by decide +kernel
theorem dX3_give_10 : decode cX3_give 10 = .ok (.getfield 16, 3) := by decide +kernel
theorem dX3_give_13 : decode cX3_give 13 = .ok (.aload_n 0, 1) := by decide +kernel
theorem dX3_give_14 : decode cX3_give 14 = .ok (.getfield 10, 3) := by decide +kernel
theorem dX3_give_17 : decode cX3_give 17 = .ok (.invokevirtual 69, 3) := by decide +kernel
theorem dX3_give_20 : decode cX3_give 20 = .ok (.bipush (-4), 2) := by decide +kernel
theorem dX3_give_22 : decode cX3_give 22 = .ok (.istore_n 2, 1) := by decide +kernel
theorem dX3_give_23 : decode cX3_give 23 = .ok (.aload_n 0, 1) := by decide +kernel
theorem dX3_give_24 : decode cX3_give 24 = .ok (.getfield 10, 3) := by decide +kernel
theorem dX3_give_27 : decode cX3_give 27 = .ok (.invokevirtual 92, 3) := by decide +kernel
theorem dX3_give_30 : decode cX3_give 30 = .ok (.istore_n 3, 1) := by decide +kernel
theorem dX3_give_31 : decode cX3_give 31 = .ok (.iconst 0, 1) := by decide +kernel
theorem dX3_give_32 : decode cX3_give 32 = .ok (.istore 4, 2) := by decide +kernel
theorem dX3_give_34 : decode cX3_give 34 = .ok (.iload 4, 2) := by decide +kernel
theorem dX3_give_36 : decode cX3_give 36 = .ok (.bipush 12, 2) := by decide +kernel
theorem dX3_give_38 : decode cX3_give 38 = .ok (.if_icmp .ge 87, 3) := by decide +kernel
theorem dX3_give_41 : decode cX3_give 41 = .ok (.iconst 0, 1) := by decide +kernel
theorem dX3_give_42 : decode cX3_give 42 = .ok (.istore 5, 2) := by decide +kernel
theorem dX3_give_44 : decode cX3_give 44 = .ok (.iload 5, 2) := by decide +kernel
theorem dX3_give_46 : decode cX3_give 46 = .ok (.aload_n 0, 1) := by decide +kernel
theorem dX3_give_47 : decode cX3_give 47 = .ok (.getfield 10, 3) := by decide +kernel
theorem dX3_give_50 : decode cX3_give 50 = .ok (.getfield 76, 3) := by decide +kernel
theorem dX3_give_53 : decode cX3_give 53 = .ok (.if_icmp .ge 47, 3) := by decide +kernel
theorem dX3_give_56 : decode cX3_give 56 = .ok (.aload_n 0, 1) := by decide +kernel
theorem dX3_give_57 : decode cX3_give 57 = .ok (.getfield 16, 3) := by decide +kernel
theorem dX3_give_60 : decode cX3_give 60 = .ok (.iload 4, 2) := by decide +kernel
theorem dX3_give_62 : decode cX3_give 62 = .ok (.iload 5, 2) := by decide +kernel
theorem dX3_give_64 : decode cX3_give 64 = .ok (.invokevirtual 153, 3) := by decide +kernel
theorem dX3_give_67 : decode cX3_give 67 = .ok (.aload_n 0, 1) := by decide +kernel
theorem dX3_give_68 : decode cX3_give 68 = .ok (.getfield 16, 3) := by decide +kernel
theorem dX3_give_71 : decode cX3_give 71 = .ok (.invokevirtual 92, 3) := by decide +kernel
theorem dX3_give_74 : decode cX3_give 74 = .ok (.istore 6, 2) := by decide +kernel
theorem dX3_give_76 : decode cX3_give 76 = .ok (.iload 6, 2) := by decide +kernel
theorem dX3_give_78 : decode cX3_give 78 = .ok (.iload_n 3, 1) := by decide +kernel
theorem dX3_give_79 : decode cX3_give 79 = .ok (.if_icmp .ge 15, 3) := by decide +kernel
theorem dX3_give_82 : decode cX3_give 82 = .ok (.iload 6, 2) := by decide +kernel
theorem dX3_give_84 : decode cX3_give 84 = .ok (.istore_n 3, 1) := by decide +kernel
theorem dX3_give_85 : decode cX3_give 85 = .ok (.bipush 10, 2) := by decide +kernel
theorem dX3_give_87 : decode cX3_give 87 = .ok (.iload 4, 2) := by decide +kernel
theorem dX3_give_89 : decode cX3_give 89 = .ok (.imul, 1) := by decide +kernel
theorem dX3_give_90 : decode cX3_give 90 = .ok (.iload 5, 2) := by decide +kernel
theorem dX3_give_92 : decode cX3_give 92 = .ok (.iadd, 1) := by decide +kernel
theorem dX3_give_93 : decode cX3_give 93 = .ok (.istore_n 2, 1) := by decide +kernel
theorem dX3_give_94 : decode cX3_give 94 = .ok (.iinc 5 1, 3) := by decide +kernel
theorem dX3_give_97 : decode cX3_give 97 = .ok (.goto (-53), 3) := by decide +kernel
theorem dX3_give_100 : decode cX3_give 100 = .ok (.aload_n 0, 1) := by decide +kernel
theorem dX3_give_101 : decode cX3_give 101 = .ok (.getfield 16, 3) := by decide +kernel
theorem dX3_give_104 : decode cX3_give 104 = .ok (.iload 4, 2) := by decide +kernel
theorem dX3_give_106 : decode cX3_give 106 = .ok (.aload_n 0, 1) := by decide +kernel
theorem dX3_give_107 : decode cX3_give 107 = .ok (.getfield 10, 3) := by decide +kernel
theorem dX3_give_110 : decode cX3_give 110 = .ok (.getfield 114, 3) := by decide +kernel
theorem dX3_give_113 : decode cX3_give 113 = .ok (.iload 4, 2) := by decide +kernel
theorem dX3_give_115 : decode cX3_give 115 = .ok (.iaload, 1) := by decide +kernel
theorem dX3_give_116 : decode cX3_give 116 = .ok (.invokevirtual 153, 3) := by decide +kernel
theorem dX3_give_119 : decode cX3_give 119 = .ok (.iinc 4 1, 3) := by decide +kernel
theorem dX3_give_122 : decode cX3_give 122 = .ok (.goto (-88), 3) := by decide +kernel
theorem dX3_give_125 : decode cX3_give 125 = .ok (.iload_n 1, 1) := by decide +kernel
theorem dX3_give_126 : decode cX3_give 126 = .ok (.ifCond .eq 9, 3) := by decide +kernel
theorem dX3_give_129 : decode cX3_give 129 = .ok (.iload_n 2, 1) := by decide +kernel
theorem dX3_give_130 : decode cX3_give 130 = .ok (.bipush (-4), 2) := by decide +kernel
theorem dX3_give_132 : decode cX3_give 132 = .ok (.if_icmp .ne 7, 3) := by decide +kernel
theorem dX3_give_135 : decode cX3_give 135 = .ok (.iload_n 2, 1) := by decide +kernel
theorem dX3_give_136 : decode cX3_give 136 = .ok (.goto 4, 3) := by decide +kernel
theorem dX3_give_139 : decode cX3_give 139 = .ok (.iload_n 3, 1) := by decide +kernel
theorem dX3_give_140 : decode cX3_give 140 = .ok (.ireturn, 1) := by decide +kernel
theorem dX3_swap_0 : decode cX3_swap 0 = .ok (.iload_n 1, 1) := by decide +kernel
theorem dX3_swap_1 : decode cX3_swap 1 = .ok (.invokestatic 133, 3) := by decide +kernel
theorem dX3_swap_4 : decode cX3_swap 4 = .ok (.ifCond .ne 5, 3) := by decide +kernel
theorem dX3_swap_7 : decode cX3_swap 7 = .ok (.iconst (-1), 1) := by decide +kernel
theorem dX3_swap_8 : decode cX3_swap 8 = .ok (.ireturn, 1) := by decide +kernel
theorem dX3_swap_9 : decode cX3_swap 9 = .ok (.aload_n 0, 1) := by decide +kernel
theorem dX3_swap_10 : decode cX3_swap 10 = .ok (.getfield 16, 3) := by decide +kernel
theorem dX3_swap_13 : decode cX3_swap 13 = .ok (.aload_n 0, 1) := by decide +kernel
theorem dX3_swap_14 : decode cX3_swap 14 = .ok (.getfield 10, 3) := by decide +kernel
theorem dX3_swap_17 : decode cX3_swap 17 = .ok (.invokevirtual 69, 3) := by decide +kernel
theorem dX3_swap_20 : decode cX3_swap 20 = .ok (.bipush (-4), 2) := by decide +kernel
theorem dX3_swap_22 : decode cX3_swap 22 = .ok (.istore_n 2, 1) := by decide +kernel
theorem dX3_swap_23 : decode cX3_swap 23 = .ok (.aload_n 0, 1) := by decide +kernel
theorem dX3_swap_24 : decode cX3_swap 24 = .ok (.getfield 10, 3) := by decide +kernel
theorem dX3_swap_27 : decode cX3_swap 27 = .ok (.invokevirtual 92, 3) := by decide +kernel
theorem dX3_swap_30 : decode cX3_swap 30 = .ok (.istore_n 3, 1) := by decide +kernel
theorem dX3_swap_31 : decode cX3_swap 31 = .ok (.iconst 0, 1) := by decide +kernel
theorem dX3_swap_32 : decode cX3_swap 32 = .ok (.istore 4, 2) := by decide +kernel
theorem dX3_swap_34 : decode cX3_swap 34 = .ok (.iload 4, 2) := by decide +kernel
theorem dX3_swap_36 : decode cX3_swap 36 = .ok (.bipush 12, 2) := by decide +kernel
theorem dX3_swap_38 : decode cX3_swap 38 = .ok (.if_icmp .ge 56, 3) := by decide +kernel
theorem dX3_swap_41 : decode cX3_swap 41 = .ok (.iload 4, 2) := by decide +kernel
theorem dX3_swap_43 : decode cX3_swap 43 = .ok (.iconst 1, 1) := by decide +kernel
theorem dX3_swap_44 : decode cX3_swap 44 = .ok (.iadd, 1) := by decide +kernel
theorem dX3_swap_45 : decode cX3_swap 45 = .ok (.istore 5, 2) := by decide +kernel
theorem dX3_swap_47 : decode cX3_swap 47 = .ok (.iload 5, 2) := by decide +kernel
theorem dX3_swap_49 : decode cX3_swap 49 = .ok (.bipush 12, 2) := by decide +kernel
theorem dX3_swap_51 : decode cX3_swap 51 = .ok (.if_icmp .ge 37, 3) := by decide +kernel
theorem dX3_swap_54 : decode cX3_swap 54 = .ok (.aload_n 0, 1) := by decide +kernel
theorem dX3_swap_55 : decode cX3_swap 55 = .ok (.iload 4, 2) := by decide +kernel
theorem dX3_swap_57 : decode cX3_swap 57 = .ok (.iload 5, 2) := by decide +kernel
theorem dX3_swap_59 : decode cX3_swap 59 = .ok (.invokevirtual 187, 3) := by decide +kernel
theorem dX3_swap_62 : decode cX3_swap 62 = .ok (.istore 6, 2) := by decide +kernel
theorem dX3_swap_64 : decode cX3_swap 64 = .ok (.iload 6, 2) := by decide +kernel
theorem dX3_swap_66 : decode cX3_swap 66 = .ok (.iload_n 3, 1) := by decide +kernel
theorem dX3_swap_67 : decode cX3_swap 67 = .ok (.if_icmp .ge 15, 3) := by decide +kernel
theorem dX3_swap_70 : decode cX3_swap 70 = .ok (.iload 6, 2) := by decide +kernel
theorem dX3_swap_72 : decode cX3_swap 72 = .ok (.istore_n 3, 1) := by decide +kernel
theorem dX3_swap_73 : decode cX3_swap 73 = .ok (.bipush 100, 2) := by decide +kernel
theorem dX3_swap_75 : decode cX3_swap 75 = .ok (.iload 4, 2) := by decide +kernel
theorem dX3_swap_77 : decode cX3_swap 77 = .ok (.imul, 1) := by decide +kernel
theorem dX3_swap_78 : decode cX3_swap 78 = .ok (.iload 5, 2) := by decide +kernel
theorem dX3_swap_80 : decode cX3_swap 80 = .ok (.iadd, 1) := by decide +kernel
theorem dX3_swap_81 : decode cX3_swap 81 = .ok (.istore_n 2, 1) := by decide +kernel
theorem dX3_swap_82 : decode cX3_swap 82 = .ok (.iinc 5 1, 3) := by decide +kernel
theorem dX3_swap_85 : decode cX3_swap 85 = .ok (.goto (-38), 3) := by decide +kernel
theorem dX3_swap_88 : decode cX3_swap 88 = .ok (.iinc 4 1, 3) := by decide +kernel
theorem dX3_swap_91 : decode cX3_swap 91 = .ok (.goto (-57), 3) := by decide +kernel
theorem dX3_swap_94 : decode cX3_swap 94 = .ok (.iload_n 1, 1) := by decide +kernel
theorem dX3_swap_95 : decode cX3_swap 95 = .ok (.ifCond .eq 9, 3) := by decide +kernel
theorem dX3_swap_98 : decode cX3_swap 98 = .ok (.iload_n 2, 1) := by decide +kernel
theorem dX3_swap_99 : decode cX3_swap 99 = .ok (.bipush (-4), 2) := by decide +kernel
theorem dX3_swap_101 : decode cX3_swap 101 = .ok (.if_icmp .ne 7, 3) := by decide +kernel
theorem dX3_swap_104 : decode cX3_swap 104 = .ok (.iload_n 2, 1) := by decide +kernel
theorem dX3_swap_105 : decode cX3_swap 105 = .ok (.goto 4, 3) := by decide +kernel
theorem dX3_swap_108 : decode cX3_swap 108 = .ok (.iload_n 3, 1) := by decide +kernel
theorem dX3_swap_109 : decode cX3_swap 109 = .ok (.ireturn, 1) := by decide +kernel
theorem dX3_harmOfSwapped_0 : decode cX3_harmOfSwapped 0 = .ok (.aload_n 0, 1) := by decide +kernel
theorem dX3_harmOfSwapped_1 : decode cX3_harmOfSwapped 1 = .ok (.getfield 16, 3) := by decide +kernel
theorem dX3_harmOfSwapped_4 : decode cX3_harmOfSwapped 4 = .ok (.iload_n 1, 1) := by decide +kernel
theorem dX3_harmOfSwapped_5 : decode cX3_harmOfSwapped 5 = .ok (.iload_n 2, 1) := by decide +kernel
theorem dX3_harmOfSwapped_6 : decode cX3_harmOfSwapped 6 = .ok (.invokevirtual 190, 3) := by decide +kernel
theorem dX3_harmOfSwapped_9 : decode cX3_harmOfSwapped 9 = .ok (.aload_n 0, 1) := by decide +kernel
theorem dX3_harmOfSwapped_10 : decode cX3_harmOfSwapped 10 = .ok (.getfield 16, 3) := by decide +kernel
theorem dX3_harmOfSwapped_13 : decode cX3_harmOfSwapped 13 = .ok (.invokevirtual 92, 3) := by decide +kernel
theorem dX3_harmOfSwapped_16 : decode cX3_harmOfSwapped 16 = .ok (.istore_n 3, 1) := by decide +kernel
theorem dX3_harmOfSwapped_17 : decode cX3_harmOfSwapped 17 = .ok (.aload_n 0, 1) := by decide +kernel
theorem dX3_harmOfSwapped_18 : decode cX3_harmOfSwapped 18 = .ok (.getfield 16, 3) := by decide +kernel
theorem dX3_harmOfSwapped_21 : decode cX3_harmOfSwapped 21 = .ok (.iload_n 1, 1) := by decide +kernel
theorem dX3_harmOfSwapped_22 : decode cX3_harmOfSwapped 22 = .ok (.iload_n 2, 1) := by decide +kernel
theorem dX3_harmOfSwapped_23 : decode cX3_harmOfSwapped 23 = .ok (.invokevirtual 190, 3) := by decide +kernel
theorem dX3_harmOfSwapped_26 : decode cX3_harmOfSwapped 26 = .ok (.iload_n 3, 1) := by decide +kernel
theorem dX3_harmOfSwapped_27 : decode cX3_harmOfSwapped 27 = .ok (.ireturn, 1) := by decide +kernel
theorem dX3_sole_0 : decode cX3_sole 0 = .ok (.iload_n 1, 1) := by decide +kernel
theorem dX3_sole_1 : decode cX3_sole 1 = .ok (.invokestatic 133, 3) := by decide +kernel
theorem dX3_sole_4 : decode cX3_sole 4 = .ok (.ifCond .ne 5, 3) := by decide +kernel
theorem dX3_sole_7 : decode cX3_sole 7 = .ok (.iconst (-1), 1) := by decide +kernel
theorem dX3_sole_8 : decode cX3_sole 8 = .ok (.ireturn, 1) := by decide +kernel
theorem dX3_sole_9 : decode cX3_sole 9 = .ok (.aload_n 0, 1) := by decide +kernel
theorem dX3_sole_10 : decode cX3_sole 10 = .ok (.getfield 16, 3) := by decide +kernel
theorem dX3_sole_13 : decode cX3_sole 13 = .ok (.aload_n 0, 1) := by decide +kernel
theorem dX3_sole_14 : decode cX3_sole 14 = .ok (.getfield 10, 3) := by decide +kernel
theorem dX3_sole_17 : decode cX3_sole 17 = .ok (.invokevirtual 69, 3) := by decide +kernel
theorem dX3_sole_20 : decode cX3_sole 20 = .ok (.bipush (-4), 2) := by decide +kernel
theorem dX3_sole_22 : decode cX3_sole 22 = .ok (.istore_n 2, 1) := by decide +kernel
theorem dX3_sole_23 : decode cX3_sole 23 = .ok (.ldc 186, 2) := by decide +kernel
theorem dX3_sole_25 : decode cX3_sole 25 = .ok (.istore_n 3, 1) := by decide +kernel
theorem dX3_sole_26 : decode cX3_sole 26 = .ok (.iconst 0, 1) := by decide +kernel
theorem dX3_sole_27 : decode cX3_sole 27 = .ok (.istore 4, 2) := by decide +kernel
theorem dX3_sole_29 : decode cX3_sole 29 = .ok (.iload 4, 2) := by decide +kernel
theorem dX3_sole_31 : decode cX3_sole 31 = .ok (.aload_n 0, 1) := by decide +kernel
theorem dX3_sole_32 : decode cX3_sole 32 = .ok (.getfield 10, 3) := by decide +kernel
theorem dX3_sole_35 : decode cX3_sole 35 = .ok (.getfield 76, 3) := by decide +kernel
theorem dX3_sole_38 : decode cX3_sole 38 = .ok (.if_icmp .ge 39, 3) := by decide +kernel
theorem dX3_sole_41 : decode cX3_sole 41 = .ok (.aload_n 0, 1) := by decide +kernel
theorem dX3_sole_42 : decode cX3_sole 42 = .ok (.getfield 16, 3) := by decide +kernel
theorem dX3_sole_45 : decode cX3_sole 45 = .ok (.iload 4, 2) := by decide +kernel
theorem dX3_sole_47 : decode cX3_sole 47 = .ok (.invokevirtual 193, 3) := by decide +kernel
theorem dX3_sole_50 : decode cX3_sole 50 = .ok (.aload_n 0, 1) := by decide +kernel
theorem dX3_sole_51 : decode cX3_sole 51 = .ok (.getfield 16, 3) := by decide +kernel
theorem dX3_sole_54 : decode cX3_sole 54 = .ok (.invokevirtual 92, 3) := by decide +kernel
theorem dX3_sole_57 : decode cX3_sole 57 = .ok (.istore 5, 2) := by decide +kernel
theorem dX3_sole_59 : decode cX3_sole 59 = .ok (.iload 5, 2) := by decide +kernel
theorem dX3_sole_61 : decode cX3_sole 61 = .ok (.iload_n 3, 1) := by decide +kernel
theorem dX3_sole_62 : decode cX3_sole 62 = .ok (.if_icmp .ge 9, 3) := by decide +kernel
theorem dX3_sole_65 : decode cX3_sole 65 = .ok (.iload 5, 2) := by decide +kernel
theorem dX3_sole_67 : decode cX3_sole 67 = .ok (.istore_n 3, 1) := by decide +kernel
theorem dX3_sole_68 : decode cX3_sole 68 = .ok (.iload 4, 2) := by decide +kernel
theorem dX3_sole_70 : decode cX3_sole 70 = .ok (.istore_n 2, 1) := by decide +kernel
theorem dX3_sole_71 : decode cX3_sole 71 = .ok (.iinc 4 1, 3) := by decide +kernel
theorem dX3_sole_74 : decode cX3_sole 74 = .ok (.goto (-45), 3) := by decide +kernel
theorem dX3_sole_77 : decode cX3_sole 77 = .ok (.iload_n 1, 1) := by decide +kernel
theorem dX3_sole_78 : decode cX3_sole 78 = .ok (.ifCond .eq 9, 3) := by decide +kernel
theorem dX3_sole_81 : decode cX3_sole 81 = .ok (.iload_n 2, 1) := by decide +kernel
theorem dX3_sole_82 : decode cX3_sole 82 = .ok (.bipush (-4), 2) := by decide +kernel
theorem dX3_sole_84 : decode cX3_sole 84 = .ok (.if_icmp .ne 7, 3) := by decide +kernel
theorem dX3_sole_87 : decode cX3_sole 87 = .ok (.iload_n 2, 1) := by decide +kernel
theorem dX3_sole_88 : decode cX3_sole 88 = .ok (.goto 4, 3) := by decide +kernel
theorem dX3_sole_91 : decode cX3_sole 91 = .ok (.iload_n 3, 1) := by decide +kernel
theorem dX3_sole_92 : decode cX3_sole 92 = .ok (.ireturn, 1) := by decide +kernel
theorem dX3_mean_0 : decode cX3_mean 0 = .ok (.iload_n 1, 1) := by decide +kernel
theorem dX3_mean_1 : decode cX3_mean 1 = .ok (.ifCond .lt 16, 3) := by decide +kernel
theorem dX3_mean_4 : decode cX3_mean 4 = .ok (.iload_n 1, 1) := by decide +kernel
theorem dX3_mean_5 : decode cX3_mean 5 = .ok (.bipush 10, 2) := by decide +kernel
theorem dX3_mean_7 : decode cX3_mean 7 = .ok (.if_icmp .gt 10, 3) := by decide +kernel
theorem dX3_mean_10 : decode cX3_mean 10 = .ok (.iload_n 2, 1) := by decide +kernel
theorem dX3_mean_11 : decode cX3_mean 11 = .ok (.invokestatic 133, 3) := by decide +kernel
theorem dX3_mean_14 : decode cX3_mean 14 = .ok (.ifCond .ne 7, 3) := by decide +kernel
theorem dX3_mean_17 : decode cX3_mean 17 = .ok (.ldc2_w 196, 3) := by decide +kernel
theorem dX3_mean_20 : decode cX3_mean 20 = .ok (.lreturn, 1) := by decide +kernel
theorem dX3_mean_21 : decode cX3_mean 21 = .ok (.lconst 0, 1) := by decide +kernel
theorem dX3_mean_22 : decode cX3_mean 22 = .ok (.lstore_n 3, 1) := by decide +kernel
theorem dX3_mean_23 : decode cX3_mean 23 = .ok (.iconst 0, 1) := by decide +kernel
theorem dX3_mean_24 : decode cX3_mean 24 = .ok (.istore 5, 2) := by decide +kernel
theorem dX3_mean_26 : decode cX3_mean 26 = .ok (.iload 5, 2) := by decide +kernel
theorem dX3_mean_28 : decode cX3_mean 28 = .ok (.aload_n 0, 1) := by decide +kernel
theorem dX3_mean_29 : decode cX3_mean 29 = .ok (.getfield 10, 3) := by decide +kernel
theorem dX3_mean_32 : decode cX3_mean 32 = .ok (.getfield 79, 3) := by decide +kernel
theorem dX3_mean_35 : decode cX3_mean 35 = .ok (.if_icmp .ge 19, 3) := by decide +kernel
theorem dX3_mean_38 : decode cX3_mean 38 = .ok (.lload_n 3, 1) := by decide +kernel
theorem dX3_mean_39 : decode cX3_mean 39 = .ok (.aload_n 0, 1) := by decide +kernel
theorem dX3_mean_40 : decode cX3_mean 40 = .ok (.iload 5, 2) := by decide +kernel
theorem dX3_mean_42 : decode cX3_mean 42 = .ok (.iload_n 1, 1) := by decide +kernel
theorem dX3_mean_43 : decode cX3_mean 43 = .ok (.invokevirtual 198, 3) := by decide +kernel
theorem dX3_mean_46 : decode cX3_mean 46 = .ok (.ladd, 1) := by decide +kernel
theorem dX3_mean_47 : decode cX3_mean 47 = .ok (.lstore_n 3, 1) := by decide +kernel
theorem dX3_mean_48 : decode cX3_mean 48 = .ok (.iinc 5 1, 3) := by decide +kernel
theorem dX3_mean_51 : decode cX3_mean 51 = .ok (.goto (-25), 3) := by decide +kernel
theorem dX3_mean_54 : decode cX3_mean 54 = .ok (.lload_n 3, 1) := by decide +kernel
theorem dX3_mean_55 : decode cX3_mean 55 = .ok (.iload_n 2, 1) := by decide +kernel
theorem dX3_mean_56 : decode cX3_mean 56 = .ok (.invokestatic 202, 3) := by decide +kernel
theorem dX3_mean_59 : decode cX3_mean 59 = .ok (.lreturn, 1) := by decide +kernel
theorem dX3_luck_0 : decode cX3_luck 0 = .ok (.iload_n 1, 1) := by decide +kernel
theorem dX3_luck_1 : decode cX3_luck 1 = .ok (.ifCond .lt 27, 3) := by decide +kernel
theorem dX3_luck_4 : decode cX3_luck 4 = .ok (.iload_n 1, 1) := by decide +kernel
theorem dX3_luck_5 : decode cX3_luck 5 = .ok (.bipush 10, 2) := by decide +kernel
theorem dX3_luck_7 : decode cX3_luck 7 = .ok (.if_icmp .gt 21, 3) := by decide +kernel
theorem dX3_luck_10 : decode cX3_luck 10 = .ok (.aload_n 0, 1) := by decide +kernel
theorem dX3_luck_11 : decode cX3_luck 11 = .ok (.getfield 10, 3) := by decide +kernel
theorem dX3_luck_14 : decode cX3_luck 14 = .ok (.iload_n 2, 1) := by decide +kernel
theorem dX3_luck_15 : decode cX3_luck 15 = .ok (.invokevirtual 117, 3) := by decide +kernel
theorem dX3_luck_18 : decode cX3_luck 18 = .ok (.ifCond .eq 10, 3) := by decide +kernel
theorem dX3_luck_21 : decode cX3_luck 21 = .ok (.iload_n 3, 1) := by decide +kernel
theorem dX3_luck_22 : decode cX3_luck 22 = .ok (.invokestatic 133, 3) := by decide +kernel
theorem dX3_luck_25 : decode cX3_luck 25 = .ok (.ifCond .ne 7, 3) := by decide +kernel
theorem dX3_luck_28 : decode cX3_luck 28 = .ok (.ldc2_w 196, 3) := by decide +kernel
theorem dX3_luck_31 : decode cX3_luck 31 = .ok (.lreturn, 1) := by decide +kernel
theorem dX3_luck_32 : decode cX3_luck 32 = .ok (.ldc2_w 206, 3) := by decide +kernel
theorem dX3_luck_35 : decode cX3_luck 35 = .ok (.aload_n 0, 1) := by decide +kernel
theorem dX3_luck_36 : decode cX3_luck 36 = .ok (.iload_n 2, 1) := by decide +kernel
theorem dX3_luck_37 : decode cX3_luck 37 = .ok (.iload_n 1, 1) := by decide +kernel
theorem dX3_luck_38 : decode cX3_luck 38 = .ok (.invokevirtual 208, 3) := by decide +kernel
theorem dX3_luck_41 : decode cX3_luck 41 = .ok (.lsub, 1) := by decide +kernel
theorem dX3_luck_42 : decode cX3_luck 42 = .ok (.iload_n 3, 1) := by decide +kernel
theorem dX3_luck_43 : decode cX3_luck 43 = .ok (.invokestatic 202, 3) := by decide +kernel
theorem dX3_luck_46 : decode cX3_luck 46 = .ok (.lreturn, 1) := by decide +kernel
theorem dX3_weighedHarm_0 : decode cX3_weighedHarm 0 = .ok (.lconst 0, 1) := by decide +kernel
theorem dX3_weighedHarm_1 : decode cX3_weighedHarm 1 = .ok (.lstore_n 3, 1) := by decide +kernel
theorem dX3_weighedHarm_2 : decode cX3_weighedHarm 2 = .ok (.ldc2_w 206, 3) := by decide +kernel
theorem dX3_weighedHarm_5 : decode cX3_weighedHarm 5 = .ok (.lstore 5, 2) := by decide +kernel
theorem dX3_weighedHarm_7 : decode cX3_weighedHarm 7 = .ok (.iconst 0, 1) := by decide +kernel
theorem dX3_weighedHarm_8 : decode cX3_weighedHarm 8 = .ok (.istore 7, 2) := by decide +kernel
theorem dX3_weighedHarm_10 : decode cX3_weighedHarm 10 = .ok (.iload 7, 2) := by decide +kernel
theorem dX3_weighedHarm_12 : decode cX3_weighedHarm 12 = .ok (.bipush 12, 2) := by decide +kernel
theorem dX3_weighedHarm_14 : decode cX3_weighedHarm 14 = .ok (.if_icmp .ge 74, 3) := by decide +kernel
theorem dX3_weighedHarm_17 : decode cX3_weighedHarm 17 = .ok (.aload_n 0, 1) := by decide +kernel
theorem dX3_weighedHarm_18 : decode cX3_weighedHarm 18 = .ok (.getfield 10, 3) := by decide +kernel
theorem dX3_weighedHarm_21 : decode cX3_weighedHarm 21 = .ok (.iload 7, 2) := by decide +kernel
theorem dX3_weighedHarm_23 : decode cX3_weighedHarm 23 = .ok (.aload_n 0, 1) := by decide +kernel
theorem dX3_weighedHarm_24 : decode cX3_weighedHarm 24 = .ok (.getfield 10, 3) := by decide +kernel
theorem dX3_weighedHarm_27 : decode cX3_weighedHarm 27 = .ok (.getfield 120, 3) := by decide +kernel
theorem dX3_weighedHarm_30 : decode cX3_weighedHarm 30 = .ok (.iload_n 1, 1) := by decide +kernel
theorem dX3_weighedHarm_31 : decode cX3_weighedHarm 31 = .ok (.iaload, 1) := by decide +kernel
theorem dX3_weighedHarm_32 : decode cX3_weighedHarm 32 = .ok (.invokevirtual 211, 3) := by decide +kernel
theorem dX3_weighedHarm_35 : decode cX3_weighedHarm 35 = .ok (.istore 8, 2) := by decide +kernel
theorem dX3_weighedHarm_37 : decode cX3_weighedHarm 37 = .ok (.iload 8, 2) := by decide +kernel
theorem dX3_weighedHarm_39 : decode cX3_weighedHarm 39 = .ok (.bipush (-4), 2) := by decide +kernel
theorem dX3_weighedHarm_41 : decode cX3_weighedHarm 41 = .ok (.if_icmp .eq 41, 3) := by decide +kernel
theorem dX3_weighedHarm_44 : decode cX3_weighedHarm 44 = .ok (.lload_n 3, 1) := by decide +kernel
theorem dX3_weighedHarm_45 : decode cX3_weighedHarm 45 = .ok (.lload 5, 2) := by decide +kernel
theorem dX3_weighedHarm_47 : decode cX3_weighedHarm 47 = .ok (.ldc2_w 214, 3) := by decide +kernel
theorem dX3_weighedHarm_50 : decode cX3_weighedHarm 50 = .ok (.ldiv, 1) := by decide +kernel
theorem dX3_weighedHarm_51 : decode cX3_weighedHarm 51 = .ok (.bipush 10, 2) := by decide +kernel
theorem dX3_weighedHarm_53 : decode cX3_weighedHarm 53 = .ok (.iload_n 2, 1) := by decide +kernel
theorem dX3_weighedHarm_54 : decode cX3_weighedHarm 54 = .ok (.isub, 1) := by decide +kernel
theorem dX3_weighedHarm_55 : decode cX3_weighedHarm 55 = .ok (.i2l, 1) := by decide +kernel
theorem dX3_weighedHarm_56 : decode cX3_weighedHarm 56 = .ok (.lmul, 1) := by decide +kernel
theorem dX3_weighedHarm_57 : decode cX3_weighedHarm 57 = .ok (.aload_n 0, 1) := by decide +kernel
theorem dX3_weighedHarm_58 : decode cX3_weighedHarm 58 = .ok (.getfield 10, 3) := by decide +kernel
theorem dX3_weighedHarm_61 : decode cX3_weighedHarm 61 = .ok (.iload_n 1, 1) := by decide +kernel
theorem dX3_weighedHarm_62 : decode cX3_weighedHarm 62 = .ok (.iload 8, 2) := by decide +kernel
theorem dX3_weighedHarm_64 : decode cX3_weighedHarm 64 = .ok (.invokevirtual 129, 3) := by decide +kernel
theorem dX3_weighedHarm_67 : decode cX3_weighedHarm 67 = .ok (.i2l, 1) := by decide +kernel
theorem dX3_weighedHarm_68 : decode cX3_weighedHarm 68 = .ok (.lmul, 1) := by decide +kernel
theorem dX3_weighedHarm_69 : decode cX3_weighedHarm 69 = .ok (.ladd, 1) := by decide +kernel
theorem dX3_weighedHarm_70 : decode cX3_weighedHarm 70 = .ok (.lstore_n 3, 1) := by decide +kernel
theorem dX3_weighedHarm_71 : decode cX3_weighedHarm 71 = .ok (.lload 5, 2) := by decide +kernel
theorem dX3_weighedHarm_73 : decode cX3_weighedHarm 73 = .ok (.ldc2_w 214, 3) := by decide +kernel
theorem dX3_weighedHarm_76 : decode cX3_weighedHarm 76 = .ok (.ldiv, 1) := by decide +kernel
theorem dX3_weighedHarm_77 : decode cX3_weighedHarm 77 = .ok (.iload_n 2, 1) := by decide +kernel
theorem dX3_weighedHarm_78 : decode cX3_weighedHarm 78 = .ok (.i2l, 1) := by decide +kernel
theorem dX3_weighedHarm_79 : decode cX3_weighedHarm 79 = .ok (.lmul, 1) := by decide +kernel
theorem dX3_weighedHarm_80 : decode cX3_weighedHarm 80 = .ok (.lstore 5, 2) := by decide +kernel
theorem dX3_weighedHarm_82 : decode cX3_weighedHarm 82 = .ok (.iinc 7 1, 3) := by decide +kernel
theorem dX3_weighedHarm_85 : decode cX3_weighedHarm 85 = .ok (.goto (-75), 3) := by decide +kernel
theorem dX3_weighedHarm_88 : decode cX3_weighedHarm 88 = .ok (.lload_n 3, 1) := by decide +kernel
theorem dX3_weighedHarm_89 : decode cX3_weighedHarm 89 = .ok (.lload 5, 2) := by decide +kernel
theorem dX3_weighedHarm_91 : decode cX3_weighedHarm 91 = .ok (.aload_n 0, 1) := by decide +kernel
theorem dX3_weighedHarm_92 : decode cX3_weighedHarm 92 = .ok (.getfield 10, 3) := by decide +kernel
theorem dX3_weighedHarm_95 : decode cX3_weighedHarm 95 = .ok (.iload_n 1, 1) := by decide +kernel
theorem dX3_weighedHarm_96 : decode cX3_weighedHarm 96 = .ok (.bipush (-4), 2) := by decide +kernel
theorem dX3_weighedHarm_98 : decode cX3_weighedHarm 98 = .ok (.invokevirtual 129, 3) := by decide +kernel
theorem dX3_weighedHarm_101 : decode cX3_weighedHarm 101 = .ok (.i2l, 1) := by decide +kernel
theorem dX3_weighedHarm_102 : decode cX3_weighedHarm 102 = .ok (.lmul, 1) := by decide +kernel
theorem dX3_weighedHarm_103 : decode cX3_weighedHarm 103 = .ok (.ladd, 1) := by decide +kernel
theorem dX3_weighedHarm_104 : decode cX3_weighedHarm 104 = .ok (.lreturn, 1) := by decide +kernel
theorem dX3_oddsOfNever_0 : decode cX3_oddsOfNever 0 = .ok (.ldc2_w 206, 3) := by decide +kernel
theorem dX3_oddsOfNever_3 : decode cX3_oddsOfNever 3 = .ok (.lstore_n 3, 1) := by decide +kernel
theorem dX3_oddsOfNever_4 : decode cX3_oddsOfNever 4 = .ok (.iconst 0, 1) := by decide +kernel
theorem dX3_oddsOfNever_5 : decode cX3_oddsOfNever 5 = .ok (.istore 5, 2) := by decide +kernel
theorem dX3_oddsOfNever_7 : decode cX3_oddsOfNever 7 = .ok (.iload 5, 2) := by decide +kernel
theorem dX3_oddsOfNever_9 : decode cX3_oddsOfNever 9 = .ok (.bipush 12, 2) := by decide +kernel
theorem dX3_oddsOfNever_11 : decode cX3_oddsOfNever 11 = .ok (.if_icmp .ge 41, 3) := by decide +kernel
theorem dX3_oddsOfNever_14 : decode cX3_oddsOfNever 14 = .ok (.aload_n 0, 1) := by decide +kernel
theorem dX3_oddsOfNever_15 : decode cX3_oddsOfNever 15 = .ok (.getfield 10, 3) := by decide +kernel
theorem dX3_oddsOfNever_18 : decode cX3_oddsOfNever 18 = .ok (.iload 5, 2) := by decide +kernel
theorem dX3_oddsOfNever_20 : decode cX3_oddsOfNever 20 = .ok (.aload_n 0, 1) := by decide +kernel
theorem dX3_oddsOfNever_21 : decode cX3_oddsOfNever 21 = .ok (.getfield 10, 3) := by decide +kernel
theorem dX3_oddsOfNever_24 : decode cX3_oddsOfNever 24 = .ok (.getfield 120, 3) := by decide +kernel
theorem dX3_oddsOfNever_27 : decode cX3_oddsOfNever 27 = .ok (.iload_n 1, 1) := by decide +kernel
theorem dX3_oddsOfNever_28 : decode cX3_oddsOfNever 28 = .ok (.iaload, 1) := by decide +kernel
theorem dX3_oddsOfNever_29 : decode cX3_oddsOfNever 29 = .ok (.invokevirtual 211, 3) := by decide +kernel
theorem dX3_oddsOfNever_32 : decode cX3_oddsOfNever 32 = .ok (.bipush (-4), 2) := by decide +kernel
theorem dX3_oddsOfNever_34 : decode cX3_oddsOfNever 34 = .ok (.if_icmp .eq 12, 3) := by decide +kernel
theorem dX3_oddsOfNever_37 : decode cX3_oddsOfNever 37 = .ok (.lload_n 3, 1) := by decide +kernel
theorem dX3_oddsOfNever_38 : decode cX3_oddsOfNever 38 = .ok (.ldc2_w 214, 3) := by decide +kernel
theorem dX3_oddsOfNever_41 : decode cX3_oddsOfNever 41 = .ok (.ldiv, 1) := by decide +kernel
theorem dX3_oddsOfNever_42 : decode cX3_oddsOfNever 42 = .ok (.iload_n 2, 1) := by decide +kernel
theorem dX3_oddsOfNever_43 : decode cX3_oddsOfNever 43 = .ok (.i2l, 1) := by decide +kernel
theorem dX3_oddsOfNever_44 : decode cX3_oddsOfNever 44 = .ok (.lmul, 1) := by decide +kernel
theorem dX3_oddsOfNever_45 : decode cX3_oddsOfNever 45 = .ok (.lstore_n 3, 1) := by decide +kernel
theorem dX3_oddsOfNever_46 : decode cX3_oddsOfNever 46 = .ok (.iinc 5 1, 3) := by decide +kernel
theorem dX3_oddsOfNever_49 : decode cX3_oddsOfNever 49 = .ok (.goto (-42), 3) := by decide +kernel
theorem dX3_oddsOfNever_52 : decode cX3_oddsOfNever 52 = .ok (.lload_n 3, 1) := by decide +kernel
theorem dX3_oddsOfNever_53 : decode cX3_oddsOfNever 53 = .ok (.lreturn, 1) := by decide +kernel
theorem dX3_partOfFraction_0 : decode cX3_partOfFraction 0 = .ok (.ldc2_w 206, 3) := by decide +kernel
theorem dX3_partOfFraction_3 : decode cX3_partOfFraction 3 = .ok (.lstore_n 3, 1) := by decide +kernel
theorem dX3_partOfFraction_4 : decode cX3_partOfFraction 4 = .ok (.lload_n 0, 1) := by decide +kernel
theorem dX3_partOfFraction_5 : decode cX3_partOfFraction 5 = .ok (.lstore 5, 2) := by decide +kernel
theorem dX3_partOfFraction_7 : decode cX3_partOfFraction 7 = .ok (.iconst 0, 1) := by decide +kernel
theorem dX3_partOfFraction_8 : decode cX3_partOfFraction 8 = .ok (.istore 7, 2) := by decide +kernel
theorem dX3_partOfFraction_10 : decode cX3_partOfFraction 10 = .ok (.iload 7, 2) := by decide +kernel
theorem dX3_partOfFraction_12 : decode cX3_partOfFraction 12 = .ok (.bipush 100, 2) := by decide +kernel
theorem dX3_partOfFraction_14 : decode cX3_partOfFraction 14 = .ok (.if_icmp .ge 29, 3) := by decide +kernel
theorem dX3_partOfFraction_17 : decode cX3_partOfFraction 17 = .ok (.lload 5, 2) := by decide +kernel
theorem dX3_partOfFraction_19 : decode cX3_partOfFraction 19 = .ok (.lconst 0, 1) := by decide +kernel
theorem dX3_partOfFraction_20 : decode cX3_partOfFraction 20 = .ok (.lcmp, 1) := by decide +kernel
theorem dX3_partOfFraction_21 : decode cX3_partOfFraction 21 = .ok (.ifCond .le 22, 3) := by decide +kernel
theorem dX3_partOfFraction_24 : decode cX3_partOfFraction 24 = .ok (.lload_n 3, 1) := by decide +kernel
theorem dX3_partOfFraction_25 : decode cX3_partOfFraction 25 = .ok (.lload 5, 2) := by decide +kernel
theorem dX3_partOfFraction_27 : decode cX3_partOfFraction 27 = .ok (.lrem, 1) := by decide +kernel
theorem dX3_partOfFraction_28 : decode cX3_partOfFraction 28 = .ok (.lstore 8, 2) := by decide +kernel
theorem dX3_partOfFraction_30 : decode cX3_partOfFraction 30 = .ok (.lload 5, 2) := by decide +kernel
theorem dX3_partOfFraction_32 : decode cX3_partOfFraction 32 = .ok (.lstore_n 3, 1) := by decide +kernel
theorem dX3_partOfFraction_33 : decode cX3_partOfFraction 33 = .ok (.lload 8, 2) := by decide +kernel
theorem dX3_partOfFraction_35 : decode cX3_partOfFraction 35 = .ok (.lstore 5, 2) := by decide +kernel
theorem dX3_partOfFraction_37 : decode cX3_partOfFraction 37 = .ok (.iinc 7 1, 3) := by decide +kernel
theorem dX3_partOfFraction_40 : decode cX3_partOfFraction 40 = .ok (.goto (-30), 3) := by decide +kernel
theorem dX3_partOfFraction_43 : decode cX3_partOfFraction 43 = .ok (.lload_n 3, 1) := by decide +kernel
theorem dX3_partOfFraction_44 : decode cX3_partOfFraction 44 = .ok (.lconst 0, 1) := by decide +kernel
theorem dX3_partOfFraction_45 : decode cX3_partOfFraction 45 = .ok (.lcmp, 1) := by decide +kernel
theorem dX3_partOfFraction_46 : decode cX3_partOfFraction 46 = .ok (.ifCond .gt 7, 3) := by decide +kernel
theorem dX3_partOfFraction_49 : decode cX3_partOfFraction 49 = .ok (.ldc2_w 196, 3) := by decide +kernel
theorem dX3_partOfFraction_52 : decode cX3_partOfFraction 52 = .ok (.lreturn, 1) := by decide +kernel
theorem dX3_partOfFraction_53 : decode cX3_partOfFraction 53 = .ok (.iload_n 2, 1) := by decide +kernel
theorem dX3_partOfFraction_54 : decode cX3_partOfFraction 54 = .ok (.ifCond .ne 7, 3) := by decide +kernel
theorem dX3_partOfFraction_57 : decode cX3_partOfFraction 57 = .ok (.lload_n 0, 1) := by decide +kernel
theorem dX3_partOfFraction_58 : decode cX3_partOfFraction 58 = .ok (.goto 6, 3) := by decide +kernel
theorem dX3_partOfFraction_61 : decode cX3_partOfFraction 61 = .ok (.ldc2_w 206, 3) := by decide +kernel
theorem dX3_partOfFraction_64 : decode cX3_partOfFraction 64 = .ok (.lload_n 3, 1) := by decide +kernel
theorem dX3_partOfFraction_65 : decode cX3_partOfFraction 65 = .ok (.ldiv, 1) := by decide +kernel
theorem dX3_partOfFraction_66 : decode cX3_partOfFraction 66 = .ok (.lreturn, 1) := by decide +kernel
theorem dX3_see_0 : decode cX3_see 0 = .ok (.aload_n 0, 1) := by decide +kernel
theorem dX3_see_1 : decode cX3_see 1 = .ok (.getfield 10, 3) := by decide +kernel
theorem dX3_see_4 : decode cX3_see 4 = .ok (.iload_n 1, 1) := by decide +kernel
theorem dX3_see_5 : decode cX3_see 5 = .ok (.invokevirtual 117, 3) := by decide +kernel
theorem dX3_see_8 : decode cX3_see 8 = .ok (.ifCond .eq 16, 3) := by decide +kernel
theorem dX3_see_11 : decode cX3_see 11 = .ok (.iload_n 2, 1) := by decide +kernel
theorem dX3_see_12 : decode cX3_see 12 = .ok (.invokestatic 143, 3) := by decide +kernel
theorem dX3_see_15 : decode cX3_see 15 = .ok (.ifCond .ne 11, 3) := by decide +kernel
theorem dX3_see_18 : decode cX3_see 18 = .ok (.iload_n 2, 1) := by decide +kernel
theorem dX3_see_19 : decode cX3_see 19 = .ok (.bipush (-4), 2) := by decide +kernel
theorem dX3_see_21 : decode cX3_see 21 = .ok (.if_icmp .eq 5, 3) := by decide +kernel
theorem dX3_see_24 : decode cX3_see 24 = .ok (.iconst (-1), 1) := by decide +kernel
theorem dX3_see_25 : decode cX3_see 25 = .ok (.ireturn, 1) := by decide +kernel
theorem dX3_see_26 : decode cX3_see 26 = .ok (.aload_n 0, 1) := by decide +kernel
theorem dX3_see_27 : decode cX3_see 27 = .ok (.getfield 73, 3) := by decide +kernel
theorem dX3_see_30 : decode cX3_see 30 = .ok (.bipush 6, 2) := by decide +kernel
theorem dX3_see_32 : decode cX3_see 32 = .ok (.if_icmp .lt 6, 3) := by decide +kernel
theorem dX3_see_35 : decode cX3_see 35 = .ok (.bipush (-3), 2) := by decide +kernel
theorem dX3_see_37 : decode cX3_see 37 = .ok (.ireturn, 1) := by decide +kernel
theorem dX3_see_38 : decode cX3_see 38 = .ok (.aload_n 0, 1) := by decide +kernel
theorem dX3_see_39 : decode cX3_see 39 = .ok (.getfield 40, 3) := by decide +kernel
theorem dX3_see_42 : decode cX3_see 42 = .ok (.aload_n 0, 1) := by decide +kernel
theorem dX3_see_43 : decode cX3_see 43 = .ok (.getfield 73, 3) := by decide +kernel
theorem dX3_see_46 : decode cX3_see 46 = .ok (.iload_n 1, 1) := by decide +kernel
theorem dX3_see_47 : decode cX3_see 47 = .ok (.iastore, 1) := by decide +kernel
theorem dX3_see_48 : decode cX3_see 48 = .ok (.aload_n 0, 1) := by decide +kernel
theorem dX3_see_49 : decode cX3_see 49 = .ok (.getfield 44, 3) := by decide +kernel
theorem dX3_see_52 : decode cX3_see 52 = .ok (.aload_n 0, 1) := by decide +kernel
theorem dX3_see_53 : decode cX3_see 53 = .ok (.getfield 73, 3) := by decide +kernel
theorem dX3_see_56 : decode cX3_see 56 = .ok (.iload_n 2, 1) := by decide +kernel
theorem dX3_see_57 : decode cX3_see 57 = .ok (.iastore, 1) := by decide +kernel
theorem dX3_see_58 : decode cX3_see 58 = .ok (.aload_n 0, 1) := by decide +kernel
theorem dX3_see_59 : decode cX3_see 59 = .ok (.dup, 1) := by decide +kernel
theorem dX3_see_60 : decode cX3_see 60 = .ok (.getfield 73, 3) := by decide +kernel
theorem dX3_see_63 : decode cX3_see 63 = .ok (.iconst 1, 1) := by decide +kernel
theorem dX3_see_64 : decode cX3_see 64 = .ok (.iadd, 1) := by decide +kernel
theorem dX3_see_65 : decode cX3_see 65 = .ok (.putfield 73, 3) := by decide +kernel
theorem dX3_see_68 : decode cX3_see 68 = .ok (.aload_n 0, 1) := by decide +kernel
theorem dX3_see_69 : decode cX3_see 69 = .ok (.getfield 73, 3) := by decide +kernel
theorem dX3_see_72 : decode cX3_see 72 = .ok (.ireturn, 1) := by decide +kernel
theorem dX3_forget_0 : decode cX3_forget 0 = .ok (.iload_n 1, 1) := by decide +kernel
theorem dX3_forget_1 : decode cX3_forget 1 = .ok (.ifCond .lt 11, 3) := by decide +kernel
theorem dX3_forget_4 : decode cX3_forget 4 = .ok (.iload_n 1, 1) := by decide +kernel
theorem dX3_forget_5 : decode cX3_forget 5 = .ok (.aload_n 0, 1) := by decide +kernel
theorem dX3_forget_6 : decode cX3_forget 6 = .ok (.getfield 73, 3) := by decide +kernel
theorem dX3_forget_9 : decode cX3_forget 9 = .ok (.if_icmp .le 5, 3) := by decide +kernel
theorem dX3_forget_12 : decode cX3_forget 12 = .ok (.iconst (-1), 1) := by decide +kernel
theorem dX3_forget_13 : decode cX3_forget 13 = .ok (.ireturn, 1) := by decide +kernel
theorem dX3_forget_14 : decode cX3_forget 14 = .ok (.aload_n 0, 1) := by decide +kernel
theorem dX3_forget_15 : decode cX3_forget 15 = .ok (.getfield 73, 3) := by decide +kernel
theorem dX3_forget_18 : decode cX3_forget 18 = .ok (.istore_n 2, 1) := by decide +kernel
theorem dX3_forget_19 : decode cX3_forget 19 = .ok (.aload_n 0, 1) := by decide +kernel
theorem dX3_forget_20 : decode cX3_forget 20 = .ok (.iload_n 1, 1) := by decide +kernel
theorem dX3_forget_21 : decode cX3_forget 21 = .ok (.putfield 73, 3) := by decide +kernel
theorem dX3_forget_24 : decode cX3_forget 24 = .ok (.iload_n 2, 1) := by decide +kernel
theorem dX3_forget_25 : decode cX3_forget 25 = .ok (.ireturn, 1) := by decide +kernel
theorem dX3_leans_0 : decode cX3_leans 0 = .ok (.aload_n 0, 1) := by decide +kernel
theorem dX3_leans_1 : decode cX3_leans 1 = .ok (.getfield 10, 3) := by decide +kernel
theorem dX3_leans_4 : decode cX3_leans 4 = .ok (.iload_n 1, 1) := by decide +kernel
theorem dX3_leans_5 : decode cX3_leans 5 = .ok (.invokevirtual 95, 3) := by decide +kernel
theorem dX3_leans_8 : decode cX3_leans 8 = .ok (.ifCond .eq 11, 3) := by decide +kernel
theorem dX3_leans_11 : decode cX3_leans 11 = .ok (.aload_n 0, 1) := by decide +kernel
theorem dX3_leans_12 : decode cX3_leans 12 = .ok (.iload_n 1, 1) := by decide +kernel
theorem dX3_leans_13 : decode cX3_leans 13 = .ok (.invokevirtual 216, 3) := by decide +kernel
theorem dX3_leans_16 : decode cX3_leans 16 = .ok (.goto 4, 3) := by decide +kernel
theorem dX3_leans_19 : decode cX3_leans 19 = .ok (.iconst (-1), 1) := by decide +kernel
theorem dX3_leans_20 : decode cX3_leans 20 = .ok (.ireturn, 1) := by decide +kernel
theorem dX3_kinds_0 : decode cX3_kinds 0 = .ok (.aload_n 0, 1) := by decide +kernel
theorem dX3_kinds_1 : decode cX3_kinds 1 = .ok (.getfield 10, 3) := by decide +kernel
theorem dX3_kinds_4 : decode cX3_kinds 4 = .ok (.iload_n 1, 1) := by decide +kernel
theorem dX3_kinds_5 : decode cX3_kinds 5 = .ok (.invokevirtual 95, 3) := by decide +kernel
theorem dX3_kinds_8 : decode cX3_kinds 8 = .ok (.ifCond .ne 5, 3) := by decide +kernel
theorem dX3_kinds_11 : decode cX3_kinds 11 = .ok (.iconst (-1), 1) := by decide +kernel
theorem dX3_kinds_12 : decode cX3_kinds 12 = .ok (.ireturn, 1) := by decide +kernel
theorem dX3_kinds_13 : decode cX3_kinds 13 = .ok (.aload_n 0, 1) := by decide +kernel
theorem dX3_kinds_14 : decode cX3_kinds 14 = .ok (.getfield 16, 3) := by decide +kernel
theorem dX3_kinds_17 : decode cX3_kinds 17 = .ok (.aload_n 0, 1) := by decide +kernel
theorem dX3_kinds_18 : decode cX3_kinds 18 = .ok (.getfield 10, 3) := by decide +kernel
theorem dX3_kinds_21 : decode cX3_kinds 21 = .ok (.invokevirtual 69, 3) := by decide +kernel
theorem dX3_kinds_24 : decode cX3_kinds 24 = .ok (.iconst 0, 1) := by decide +kernel
theorem dX3_kinds_25 : decode cX3_kinds 25 = .ok (.istore_n 2, 1) := by decide +kernel
theorem dX3_kinds_26 : decode cX3_kinds 26 = .ok (.iconst 0, 1) := by decide +kernel
theorem dX3_kinds_27 : decode cX3_kinds 27 = .ok (.istore_n 3, 1) := by decide +kernel
theorem dX3_kinds_28 : decode cX3_kinds 28 = .ok (.iload_n 3, 1) := by decide +kernel
theorem dX3_kinds_29 : decode cX3_kinds 29 = .ok (.iconst 4, 1) := by decide +kernel
theorem dX3_kinds_30 : decode cX3_kinds 30 = .ok (.if_icmp .ge 31, 3) := by decide +kernel
theorem dX3_kinds_33 : decode cX3_kinds 33 = .ok (.aload_n 0, 1) := by decide +kernel
theorem dX3_kinds_34 : decode cX3_kinds 34 = .ok (.getfield 16, 3) := by decide +kernel
theorem dX3_kinds_37 : decode cX3_kinds 37 = .ok (.iload_n 1, 1) := by decide +kernel
theorem dX3_kinds_38 : decode cX3_kinds 38 = .ok (.iload_n 3, 1) := by decide +kernel
theorem dX3_kinds_39 : decode cX3_kinds 39 = .ok (.invokevirtual 136, 3) := by decide +kernel
theorem dX3_kinds_42 : decode cX3_kinds 42 = .ok (.aload_n 0, 1) := by decide +kernel
theorem dX3_kinds_43 : decode cX3_kinds 43 = .ok (.invokevirtual 219, 3) := by decide +kernel
theorem dX3_kinds_46 : decode cX3_kinds 46 = .ok (.ifCond .eq 9, 3) := by decide +kernel
theorem dX3_kinds_49 : decode cX3_kinds 49 = .ok (.iload_n 2, 1) := by decide +kernel
theorem dX3_kinds_50 : decode cX3_kinds 50 = .ok (.iconst 1, 1) := by decide +kernel
theorem dX3_kinds_51 : decode cX3_kinds 51 = .ok (.iload_n 3, 1) := by decide +kernel
theorem dX3_kinds_52 : decode cX3_kinds 52 = .ok (.ishl, 1) := by decide +kernel
theorem dX3_kinds_53 : decode cX3_kinds 53 = .ok (.ior, 1) := by decide +kernel
theorem dX3_kinds_54 : decode cX3_kinds 54 = .ok (.istore_n 2, 1) := by decide +kernel
theorem dX3_kinds_55 : decode cX3_kinds 55 = .ok (.iinc 3 1, 3) := by decide +kernel
theorem dX3_kinds_58 : decode cX3_kinds 58 = .ok (.goto (-30), 3) := by decide +kernel
theorem dX3_kinds_61 : decode cX3_kinds 61 = .ok (.iload_n 2, 1) := by decide +kernel
theorem dX3_kinds_62 : decode cX3_kinds 62 = .ok (.ireturn, 1) := by decide +kernel
theorem dX3_ask_0 : decode cX3_ask 0 = .ok (.aload_n 0, 1) := by decide +kernel
theorem dX3_ask_1 : decode cX3_ask 1 = .ok (.getfield 10, 3) := by decide +kernel
theorem dX3_ask_4 : decode cX3_ask 4 = .ok (.iload_n 1, 1) := by decide +kernel
theorem dX3_ask_5 : decode cX3_ask 5 = .ok (.invokevirtual 95, 3) := by decide +kernel
theorem dX3_ask_8 : decode cX3_ask 8 = .ok (.ifCond .eq 10, 3) := by decide +kernel
theorem dX3_ask_11 : decode cX3_ask 11 = .ok (.iload_n 2, 1) := by decide +kernel
theorem dX3_ask_12 : decode cX3_ask 12 = .ok (.invokestatic 133, 3) := by decide +kernel
theorem dX3_ask_15 : decode cX3_ask 15 = .ok (.ifCond .ne 5, 3) := by decide +kernel
theorem dX3_ask_18 : decode cX3_ask 18 = .ok (.iconst (-1), 1) := by decide +kernel
theorem dX3_ask_19 : decode cX3_ask 19 = .ok (.ireturn, 1) := by decide +kernel
theorem dX3_ask_20 : decode cX3_ask 20 = .ok (.aload_n 0, 1) := by decide +kernel
theorem dX3_ask_21 : decode cX3_ask 21 = .ok (.iload_n 1, 1) := by decide +kernel
theorem dX3_ask_22 : decode cX3_ask 22 = .ok (.invokevirtual 216, 3) := by decide +kernel
theorem dX3_ask_25 : decode cX3_ask 25 = .ok (.istore_n 3, 1) := by decide +kernel
theorem dX3_ask_26 : decode cX3_ask 26 = .ok (.bipush (-4), 2) := by decide +kernel
theorem dX3_ask_28 : decode cX3_ask 28 = .ok (.istore 4, 2) := by decide +kernel
theorem dX3_ask_30 : decode cX3_ask 30 = .ok (.iload_n 3, 1) := by decide +kernel
theorem dX3_ask_31 : decode cX3_ask 31 = .ok (.invokestatic 223, 3) := by decide +kernel
theorem dX3_ask_34 : decode cX3_ask 34 = .ok (.istore 5, 2) := by decide +kernel
theorem dX3_ask_36 : decode cX3_ask 36 = .ok (.iconst 0, 1) := by decide +kernel
theorem dX3_ask_37 : decode cX3_ask 37 = .ok (.istore 6, 2) := by decide +kernel
theorem dX3_ask_39 : decode cX3_ask 39 = .ok (.iload 6, 2) := by decide +kernel
theorem dX3_ask_41 : decode cX3_ask 41 = .ok (.aload_n 0, 1) := by decide +kernel
theorem dX3_ask_42 : decode cX3_ask 42 = .ok (.getfield 10, 3) := by decide +kernel
theorem dX3_ask_45 : decode cX3_ask 45 = .ok (.getfield 79, 3) := by decide +kernel
theorem dX3_ask_48 : decode cX3_ask 48 = .ok (.if_icmp .ge 34, 3) := by decide +kernel
theorem dX3_ask_51 : decode cX3_ask 51 = .ok (.aload_n 0, 1) := by decide +kernel
theorem dX3_ask_52 : decode cX3_ask 52 = .ok (.iload_n 1, 1) := by decide +kernel
theorem dX3_ask_53 : decode cX3_ask 53 = .ok (.iload 6, 2) := by decide +kernel
theorem dX3_ask_55 : decode cX3_ask 55 = .ok (.iload_n 3, 1) := by decide +kernel
theorem dX3_ask_56 : decode cX3_ask 56 = .ok (.invokevirtual 226, 3) := by decide +kernel
theorem dX3_ask_59 : decode cX3_ask 59 = .ok (.istore 7, 2) := by decide +kernel
theorem dX3_ask_61 : decode cX3_ask 61 = .ok (.iload 7, 2) := by decide +kernel
theorem dX3_ask_63 : decode cX3_ask 63 = .ok (.iload 5, 2) := by decide +kernel
theorem dX3_ask_65 : decode cX3_ask 65 = .ok (.if_icmp .ge 11, 3) := by decide +kernel
theorem dX3_ask_68 : decode cX3_ask 68 = .ok (.iload 7, 2) := by decide +kernel
theorem dX3_ask_70 : decode cX3_ask 70 = .ok (.istore 5, 2) := by decide +kernel
theorem dX3_ask_72 : decode cX3_ask 72 = .ok (.iload 6, 2) := by decide +kernel
theorem dX3_ask_74 : decode cX3_ask 74 = .ok (.istore 4, 2) := by decide +kernel
theorem dX3_ask_76 : decode cX3_ask 76 = .ok (.iinc 6 1, 3) := by decide +kernel
theorem dX3_ask_79 : decode cX3_ask 79 = .ok (.goto (-40), 3) := by decide +kernel
theorem dX3_ask_82 : decode cX3_ask 82 = .ok (.iload_n 2, 1) := by decide +kernel
theorem dX3_ask_83 : decode cX3_ask 83 = .ok (.ifCond .eq 10, 3) := by decide +kernel
theorem dX3_ask_86 : decode cX3_ask 86 = .ok (.iload 4, 2) := by decide +kernel
theorem dX3_ask_88 : decode cX3_ask 88 = .ok (.bipush (-4), 2) := by decide +kernel
theorem dX3_ask_90 : decode cX3_ask 90 = .ok (.if_icmp .ne 8, 3) := by decide +kernel
theorem dX3_ask_93 : decode cX3_ask 93 = .ok (.iload 4, 2) := by decide +kernel
theorem dX3_ask_95 : decode cX3_ask 95 = .ok (.goto 5, 3) := by decide +kernel
theorem dX3_ask_98 : decode cX3_ask 98 = .ok (.iload 5, 2) := by decide +kernel
theorem dX3_ask_100 : decode cX3_ask 100 = .ok (.ireturn, 1) := by decide +kernel
theorem dX3_leansAsSeen_0 : decode cX3_leansAsSeen 0 = .ok (.aload_n 0, 1) := by decide +kernel
theorem dX3_leansAsSeen_1 : decode cX3_leansAsSeen 1 = .ok (.getfield 16, 3) := by decide +kernel
theorem dX3_leansAsSeen_4 : decode cX3_leansAsSeen 4 = .ok (.aload_n 0, 1) := by decide +kernel
theorem dX3_leansAsSeen_5 : decode cX3_leansAsSeen 5 = .ok (.getfield 10, 3) := by decide +kernel
theorem dX3_leansAsSeen_8 : decode cX3_leansAsSeen 8 = .ok (.invokevirtual 69, 3) := by decide +kernel
theorem dX3_leansAsSeen_11 : decode cX3_leansAsSeen 11 = .ok (.iconst 0, 1) := by decide +kernel
theorem dX3_leansAsSeen_12 : decode cX3_leansAsSeen 12 = .ok (.istore_n 2, 1) := by decide +kernel
theorem dX3_leansAsSeen_13 : decode cX3_leansAsSeen 13 = .ok (.iconst 0, 1) := by decide +kernel
theorem dX3_leansAsSeen_14 : decode cX3_leansAsSeen 14 = .ok (.istore_n 3, 1) := by decide +kernel
theorem dX3_leansAsSeen_15 : decode cX3_leansAsSeen 15 = .ok (.iload_n 3, 1) := by decide +kernel
theorem dX3_leansAsSeen_16 : decode cX3_leansAsSeen 16 = .ok (.bipush 7, 2) := by decide +kernel
theorem dX3_leansAsSeen_18 : decode cX3_leansAsSeen 18 = .ok (.if_icmp .ge 31, 3) := by decide +kernel
theorem dX3_leansAsSeen_21 : decode cX3_leansAsSeen 21 = .ok (.aload_n 0, 1) := by decide +kernel
theorem dX3_leansAsSeen_22 : decode cX3_leansAsSeen 22 = .ok (.getfield 16, 3) := by decide +kernel
theorem dX3_leansAsSeen_25 : decode cX3_leansAsSeen 25 = .ok (.iload_n 1, 1) := by decide +kernel
theorem dX3_leansAsSeen_26 : decode cX3_leansAsSeen 26 = .ok (.iload_n 3, 1) := by decide +kernel
theorem dX3_leansAsSeen_27 : decode cX3_leansAsSeen 27 = .ok (.invokevirtual 140, 3) := by decide +kernel
theorem dX3_leansAsSeen_30 : decode cX3_leansAsSeen 30 = .ok (.aload_n 0, 1) := by decide +kernel
theorem dX3_leansAsSeen_31 : decode cX3_leansAsSeen 31 = .ok (.invokevirtual 219, 3) := by decide +kernel
theorem dX3_leansAsSeen_34 : decode cX3_leansAsSeen 34 = .ok (.ifCond .eq 9, 3) := by decide +kernel
theorem dX3_leansAsSeen_37 : decode cX3_leansAsSeen 37 = .ok (.iload_n 2, 1) := by decide +kernel
theorem dX3_leansAsSeen_38 : decode cX3_leansAsSeen 38 = .ok (.iconst 1, 1) := by decide +kernel
theorem dX3_leansAsSeen_39 : decode cX3_leansAsSeen 39 = .ok (.iload_n 3, 1) := by decide +kernel
theorem dX3_leansAsSeen_40 : decode cX3_leansAsSeen 40 = .ok (.ishl, 1) := by decide +kernel
theorem dX3_leansAsSeen_41 : decode cX3_leansAsSeen 41 = .ok (.ior, 1) := by decide +kernel
theorem dX3_leansAsSeen_42 : decode cX3_leansAsSeen 42 = .ok (.istore_n 2, 1) := by decide +kernel
theorem dX3_leansAsSeen_43 : decode cX3_leansAsSeen 43 = .ok (.iinc 3 1, 3) := by decide +kernel
theorem dX3_leansAsSeen_46 : decode cX3_leansAsSeen 46 = .ok (.goto (-31), 3) := by decide +kernel
theorem dX3_leansAsSeen_49 : decode cX3_leansAsSeen 49 = .ok (.iload_n 2, 1) := by decide +kernel
theorem dX3_leansAsSeen_50 : decode cX3_leansAsSeen 50 = .ok (.ireturn, 1) := by decide +kernel
theorem dX3_trialIsAsSeen_0 : decode cX3_trialIsAsSeen 0 = .ok (.iconst 0, 1) := by decide +kernel
theorem dX3_trialIsAsSeen_1 : decode cX3_trialIsAsSeen 1 = .ok (.istore_n 1, 1) := by decide +kernel
theorem dX3_trialIsAsSeen_2 : decode cX3_trialIsAsSeen 2 = .ok (.iload_n 1, 1) := by decide +kernel
theorem dX3_trialIsAsSeen_3 : decode cX3_trialIsAsSeen 3 = .ok (.aload_n 0, 1) := by decide +kernel
theorem dX3_trialIsAsSeen_4 : decode cX3_trialIsAsSeen 4 = .ok (.getfield 73, 3) := by decide +kernel
theorem dX3_trialIsAsSeen_7 : decode cX3_trialIsAsSeen 7 = .ok (.if_icmp .ge 46, 3) := by decide +kernel
theorem dX3_trialIsAsSeen_10 : decode cX3_trialIsAsSeen 10 = .ok (.aload_n 0, 1) := by decide +kernel
theorem dX3_trialIsAsSeen_11 : decode cX3_trialIsAsSeen 11 = .ok (.getfield 40, 3) := by decide +kernel
theorem dX3_trialIsAsSeen_14 : decode cX3_trialIsAsSeen 14 = .ok (.iload_n 1, 1) := by decide +kernel
theorem dX3_trialIsAsSeen_15 : decode cX3_trialIsAsSeen 15 = .ok (.iaload, 1) := by decide +kernel
theorem dX3_trialIsAsSeen_16 : decode cX3_trialIsAsSeen 16 = .ok (.istore_n 2, 1) := by decide +kernel
theorem dX3_trialIsAsSeen_17 : decode cX3_trialIsAsSeen 17 = .ok (.aload_n 0, 1) := by decide +kernel
theorem dX3_trialIsAsSeen_18 : decode cX3_trialIsAsSeen 18 = .ok (.getfield 16, 3) := by decide +kernel
theorem dX3_trialIsAsSeen_21 : decode cX3_trialIsAsSeen 21 = .ok (.iload_n 2, 1) := by decide +kernel
theorem dX3_trialIsAsSeen_22 : decode cX3_trialIsAsSeen 22 = .ok (.invokevirtual 117, 3) := by decide +kernel
theorem dX3_trialIsAsSeen_25 : decode cX3_trialIsAsSeen 25 = .ok (.ifCond .eq 20, 3) := by decide +kernel
theorem dX3_trialIsAsSeen_28 : decode cX3_trialIsAsSeen 28 = .ok (.aload_n 0, 1) := by decide +kernel
theorem dX3_trialIsAsSeen_29 : decode cX3_trialIsAsSeen 29 = .ok (.getfield 16, 3) := by decide +kernel
theorem dX3_trialIsAsSeen_32 : decode cX3_trialIsAsSeen 32 = .ok (.iload_n 2, 1) := by decide +kernel
theorem dX3_trialIsAsSeen_33 : decode cX3_trialIsAsSeen 33 = .ok (.invokevirtual 126, 3) := by decide +kernel
theorem dX3_trialIsAsSeen_36 : decode cX3_trialIsAsSeen 36 = .ok (.aload_n 0, 1) := by decide +kernel
theorem dX3_trialIsAsSeen_37 : decode cX3_trialIsAsSeen 37 = .ok (.getfield 44, 3) := by decide +kernel
theorem dX3_trialIsAsSeen_40 : decode cX3_trialIsAsSeen 40 = .ok (.iload_n 1, 1) := by decide +kernel
theorem dX3_trialIsAsSeen_41 : decode cX3_trialIsAsSeen 41 = .ok (.iaload, 1) := by decide +kernel
theorem dX3_trialIsAsSeen_42 : decode cX3_trialIsAsSeen 42 = .ok (.if_icmp .eq 5, 3) := by decide +kernel
theorem dX3_trialIsAsSeen_45 : decode cX3_trialIsAsSeen 45 = .ok (.iconst 0, 1) := by decide +kernel
theorem dX3_trialIsAsSeen_46 : decode cX3_trialIsAsSeen 46 = .ok (.ireturn, 1) := by decide +kernel
theorem dX3_trialIsAsSeen_47 : decode cX3_trialIsAsSeen 47 = .ok (.iinc 1 1, 3) := by decide +kernel
theorem dX3_trialIsAsSeen_50 : decode cX3_trialIsAsSeen 50 = .ok (.goto (-48), 3) := by decide +kernel
theorem dX3_trialIsAsSeen_53 : decode cX3_trialIsAsSeen 53 = .ok (.iconst 1, 1) := by decide +kernel
theorem dX3_trialIsAsSeen_54 : decode cX3_trialIsAsSeen 54 = .ok (.ireturn, 1) := by decide +kernel
theorem dX3_mostLeft_0 : decode cX3_mostLeft 0 = .ok (.aload_n 0, 1) := by decide +kernel
theorem dX3_mostLeft_1 : decode cX3_mostLeft 1 = .ok (.getfield 16, 3) := by decide +kernel
theorem dX3_mostLeft_4 : decode cX3_mostLeft 4 = .ok (.aload_n 0, 1) := by decide +kernel
theorem dX3_mostLeft_5 : decode cX3_mostLeft 5 = .ok (.getfield 10, 3) := by decide +kernel
theorem dX3_mostLeft_8 : decode cX3_mostLeft 8 = .ok (.invokevirtual 69, 3) := by decide +kernel
theorem dX3_mostLeft_11 : decode cX3_mostLeft 11 = .ok (.iconst 0, 1) := by decide +kernel
theorem dX3_mostLeft_12 : decode cX3_mostLeft 12 = .ok (.istore 4, 2) := by decide +kernel
theorem dX3_mostLeft_14 : decode cX3_mostLeft 14 = .ok (.iconst 0, 1) := by decide +kernel
theorem dX3_mostLeft_15 : decode cX3_mostLeft 15 = .ok (.istore 5, 2) := by decide +kernel
theorem dX3_mostLeft_17 : decode cX3_mostLeft 17 = .ok (.iload 5, 2) := by decide +kernel
theorem dX3_mostLeft_19 : decode cX3_mostLeft 19 = .ok (.bipush 7, 2) := by decide +kernel
theorem dX3_mostLeft_21 : decode cX3_mostLeft 21 = .ok (.if_icmp .ge 104, 3) := by decide +kernel
theorem dX3_mostLeft_24 : decode cX3_mostLeft 24 = .ok (.iload_n 3, 1) := by decide +kernel
theorem dX3_mostLeft_25 : decode cX3_mostLeft 25 = .ok (.iload 5, 2) := by decide +kernel
theorem dX3_mostLeft_27 : decode cX3_mostLeft 27 = .ok (.ishr, 1) := by decide +kernel
theorem dX3_mostLeft_28 : decode cX3_mostLeft 28 = .ok (.iconst 1, 1) := by decide +kernel
theorem dX3_mostLeft_29 : decode cX3_mostLeft 29 = .ok (.iand, 1) := by decide +kernel
theorem dX3_mostLeft_30 : decode cX3_mostLeft 30 = .ok (.ifCond .ne 6, 3) := by decide +kernel
theorem dX3_mostLeft_33 : decode cX3_mostLeft 33 = .ok (.goto 86, 3) := by decide +kernel
theorem dX3_mostLeft_36 : decode cX3_mostLeft 36 = .ok (.aload_n 0, 1) := by decide +kernel
theorem dX3_mostLeft_37 : decode cX3_mostLeft 37 = .ok (.getfield 16, 3) := by decide +kernel
theorem dX3_mostLeft_40 : decode cX3_mostLeft 40 = .ok (.iload_n 1, 1) := by decide +kernel
theorem dX3_mostLeft_41 : decode cX3_mostLeft 41 = .ok (.iload 5, 2) := by decide +kernel
theorem dX3_mostLeft_43 : decode cX3_mostLeft 43 = .ok (.invokevirtual 140, 3) := by decide +kernel
theorem dX3_mostLeft_46 : decode cX3_mostLeft 46 = .ok (.aload_n 0, 1) := by decide +kernel
theorem dX3_mostLeft_47 : decode cX3_mostLeft 47 = .ok (.getfield 47, 3) := by decide +kernel
theorem dX3_mostLeft_50 : decode cX3_mostLeft 50 = .ok (.iload 5, 2) := by decide +kernel
theorem dX3_mostLeft_52 : decode cX3_mostLeft 52 = .ok (.aload_n 0, 1) := by decide +kernel
theorem dX3_mostLeft_53 : decode cX3_mostLeft 53 = .ok (.getfield 16, 3) := by decide +kernel
theorem dX3_mostLeft_56 : decode cX3_mostLeft 56 = .ok (.iload_n 2, 1) := by decide +kernel
theorem dX3_mostLeft_57 : decode cX3_mostLeft 57 = .ok (.invokevirtual 126, 3) := by decide +kernel
theorem dX3_mostLeft_60 : decode cX3_mostLeft 60 = .ok (.iastore, 1) := by decide +kernel
theorem dX3_mostLeft_61 : decode cX3_mostLeft 61 = .ok (.iconst 1, 1) := by decide +kernel
theorem dX3_mostLeft_62 : decode cX3_mostLeft 62 = .ok (.istore 6, 2) := by decide +kernel
theorem dX3_mostLeft_64 : decode cX3_mostLeft 64 = .ok (.iconst 0, 1) := by decide +kernel
theorem dX3_mostLeft_65 : decode cX3_mostLeft 65 = .ok (.istore 7, 2) := by decide +kernel
theorem dX3_mostLeft_67 : decode cX3_mostLeft 67 = .ok (.iload 7, 2) := by decide +kernel
theorem dX3_mostLeft_69 : decode cX3_mostLeft 69 = .ok (.iload 5, 2) := by decide +kernel
theorem dX3_mostLeft_71 : decode cX3_mostLeft 71 = .ok (.if_icmp .ge 39, 3) := by decide +kernel
theorem dX3_mostLeft_74 : decode cX3_mostLeft 74 = .ok (.iload_n 3, 1) := by decide +kernel
theorem dX3_mostLeft_75 : decode cX3_mostLeft 75 = .ok (.iload 7, 2) := by decide +kernel
theorem dX3_mostLeft_77 : decode cX3_mostLeft 77 = .ok (.ishr, 1) := by decide +kernel
theorem dX3_mostLeft_78 : decode cX3_mostLeft 78 = .ok (.iconst 1, 1) := by decide +kernel
theorem dX3_mostLeft_79 : decode cX3_mostLeft 79 = .ok (.iand, 1) := by decide +kernel
theorem dX3_mostLeft_80 : decode cX3_mostLeft 80 = .ok (.iconst 1, 1) := by decide +kernel
theorem dX3_mostLeft_81 : decode cX3_mostLeft 81 = .ok (.if_icmp .ne 23, 3) := by decide +kernel
theorem dX3_mostLeft_84 : decode cX3_mostLeft 84 = .ok (.aload_n 0, 1) := by decide +kernel
theorem dX3_mostLeft_85 : decode cX3_mostLeft 85 = .ok (.getfield 47, 3) := by decide +kernel
theorem dX3_mostLeft_88 : decode cX3_mostLeft 88 = .ok (.iload 7, 2) := by decide +kernel
theorem dX3_mostLeft_90 : decode cX3_mostLeft 90 = .ok (.iaload, 1) := by decide +kernel
theorem dX3_mostLeft_91 : decode cX3_mostLeft 91 = .ok (.aload_n 0, 1) := by decide +kernel
theorem dX3_mostLeft_92 : decode cX3_mostLeft 92 = .ok (.getfield 47, 3) := by decide +kernel
theorem dX3_mostLeft_95 : decode cX3_mostLeft 95 = .ok (.iload 5, 2) := by decide +kernel
theorem dX3_mostLeft_97 : decode cX3_mostLeft 97 = .ok (.iaload, 1) := by decide +kernel
theorem dX3_mostLeft_98 : decode cX3_mostLeft 98 = .ok (.if_icmp .ne 6, 3) := by decide +kernel
theorem dX3_mostLeft_101 : decode cX3_mostLeft 101 = .ok (.iinc 6 1, 3) := by decide +kernel
theorem dX3_mostLeft_104 : decode cX3_mostLeft 104 = .ok (.iinc 7 1, 3) := by decide +kernel
theorem dX3_mostLeft_107 : decode cX3_mostLeft 107 = .ok (.goto (-40), 3) := by decide +kernel
theorem dX3_mostLeft_110 : decode cX3_mostLeft 110 = .ok (.iload 4, 2) := by decide +kernel
theorem dX3_mostLeft_112 : decode cX3_mostLeft 112 = .ok (.iload 6, 2) := by decide +kernel
theorem dX3_mostLeft_114 : decode cX3_mostLeft 114 = .ok (.invokestatic 230, 3) := by decide +kernel
theorem dX3_mostLeft_117 : decode cX3_mostLeft 117 = .ok (.istore 4, 2) := by decide +kernel
theorem dX3_mostLeft_119 : decode cX3_mostLeft 119 = .ok (.iinc 5 1, 3) := by decide +kernel
theorem dX3_mostLeft_122 : decode cX3_mostLeft 122 = .ok (.goto (-105), 3) := by decide +kernel
theorem dX3_mostLeft_125 : decode cX3_mostLeft 125 = .ok (.iload 4, 2) := by decide +kernel
theorem dX3_mostLeft_127 : decode cX3_mostLeft 127 = .ok (.ireturn, 1) := by decide +kernel
theorem dX3_drift_0 : decode cX3_drift 0 = .ok (.iload_n 2, 1) := by decide +kernel
theorem dX3_drift_1 : decode cX3_drift 1 = .ok (.iconst 1, 1) := by decide +kernel
theorem dX3_drift_2 : decode cX3_drift 2 = .ok (.if_icmp .lt 16, 3) := by decide +kernel
theorem dX3_drift_5 : decode cX3_drift 5 = .ok (.iload_n 2, 1) := by decide +kernel
theorem dX3_drift_6 : decode cX3_drift 6 = .ok (.bipush 40, 2) := by decide +kernel
theorem dX3_drift_8 : decode cX3_drift 8 = .ok (.if_icmp .gt 10, 3) := by decide +kernel
theorem dX3_drift_11 : decode cX3_drift 11 = .ok (.iload_n 3, 1) := by decide +kernel
theorem dX3_drift_12 : decode cX3_drift 12 = .ok (.invokestatic 133, 3) := by decide +kernel
theorem dX3_drift_15 : decode cX3_drift 15 = .ok (.ifCond .ne 5, 3) := by decide +kernel
theorem dX3_drift_18 : decode cX3_drift 18 = .ok (.iconst (-1), 1) := by decide +kernel
theorem dX3_drift_19 : decode cX3_drift 19 = .ok (.ireturn, 1) := by decide +kernel
theorem dX3_drift_20 : decode cX3_drift 20 = .ok (.aload_n 0, 1) := by decide +kernel
theorem dX3_drift_21 : decode cX3_drift 21 = .ok (.getfield 10, 3) := by decide +kernel
theorem dX3_drift_24 : decode cX3_drift 24 = .ok (.getfield 76, 3) := by decide +kernel
theorem dX3_drift_27 : decode cX3_drift 27 = .ok (.ifCond .ne 6, 3) := by decide +kernel
theorem dX3_drift_30 : decode cX3_drift 30 = .ok (.bipush (-2), 2) := by decide +kernel
theorem dX3_drift_32 : decode cX3_drift 32 = .ok (.ireturn, 1) := by decide +kernel
theorem dX3_drift_33 : decode cX3_drift 33 = .ok (.aload_n 0, 1) := by decide +kernel
theorem dX3_drift_34 : decode cX3_drift 34 = .ok (.getfield 16, 3) := by decide +kernel
theorem dX3_drift_37 : decode cX3_drift 37 = .ok (.aload_n 0, 1) := by decide +kernel
theorem dX3_drift_38 : decode cX3_drift 38 = .ok (.getfield 10, 3) := by decide +kernel
theorem dX3_drift_41 : decode cX3_drift 41 = .ok (.invokevirtual 69, 3) := by decide +kernel
theorem dX3_drift_44 : decode cX3_drift 44 = .ok (.iload_n 1, 1) := by decide +kernel
theorem dX3_drift_45 : decode cX3_drift 45 = .ok (.istore 4, 2) := by decide +kernel
theorem dX3_drift_47 : decode cX3_drift 47 = .ok (.iconst 0, 1) := by decide +kernel
theorem dX3_drift_48 : decode cX3_drift 48 = .ok (.istore 5, 2) := by decide +kernel
theorem dX3_drift_50 : decode cX3_drift 50 = .ok (.iconst 0, 1) := by decide +kernel
theorem dX3_drift_51 : decode cX3_drift 51 = .ok (.istore 6, 2) := by decide +kernel
theorem dX3_drift_53 : decode cX3_drift 53 = .ok (.iload 6, 2) := by decide +kernel
theorem dX3_drift_55 : decode cX3_drift 55 = .ok (.iload_n 2, 1) := by decide +kernel
theorem dX3_drift_56 : decode cX3_drift 56 = .ok (.if_icmp .ge 88, 3) := by decide +kernel
theorem dX3_drift_59 : decode cX3_drift 59 = .ok (.iload 4, 2) := by decide +kernel
theorem dX3_drift_61 : decode cX3_drift 61 = .ok (.invokestatic 233, 3) := by decide +kernel
theorem dX3_drift_64 : decode cX3_drift 64 = .ok (.istore 4, 2) := by decide +kernel
theorem dX3_drift_66 : decode cX3_drift 66 = .ok (.iload 4, 2) := by decide +kernel
theorem dX3_drift_68 : decode cX3_drift 68 = .ok (.bipush 12, 2) := by decide +kernel
theorem dX3_drift_70 : decode cX3_drift 70 = .ok (.invokestatic 236, 3) := by decide +kernel
theorem dX3_drift_73 : decode cX3_drift 73 = .ok (.istore 7, 2) := by decide +kernel
theorem dX3_drift_75 : decode cX3_drift 75 = .ok (.iload 4, 2) := by decide +kernel
theorem dX3_drift_77 : decode cX3_drift 77 = .ok (.invokestatic 233, 3) := by decide +kernel
theorem dX3_drift_80 : decode cX3_drift 80 = .ok (.istore 4, 2) := by decide +kernel
theorem dX3_drift_82 : decode cX3_drift 82 = .ok (.iload 4, 2) := by decide +kernel
theorem dX3_drift_84 : decode cX3_drift 84 = .ok (.aload_n 0, 1) := by decide +kernel
theorem dX3_drift_85 : decode cX3_drift 85 = .ok (.getfield 10, 3) := by decide +kernel
theorem dX3_drift_88 : decode cX3_drift 88 = .ok (.getfield 76, 3) := by decide +kernel
theorem dX3_drift_91 : decode cX3_drift 91 = .ok (.iconst 1, 1) := by decide +kernel
theorem dX3_drift_92 : decode cX3_drift 92 = .ok (.iadd, 1) := by decide +kernel
theorem dX3_drift_93 : decode cX3_drift 93 = .ok (.invokestatic 236, 3) := by decide +kernel
theorem dX3_drift_96 : decode cX3_drift 96 = .ok (.istore 8, 2) := by decide +kernel
theorem dX3_drift_98 : decode cX3_drift 98 = .ok (.aload_n 0, 1) := by decide +kernel
theorem dX3_drift_99 : decode cX3_drift 99 = .ok (.getfield 16, 3) := by decide +kernel
theorem dX3_drift_102 : decode cX3_drift 102 = .ok (.iload 7, 2) := by decide +kernel
theorem dX3_drift_104 : decode cX3_drift 104 = .ok (.iload 8, 2) := by decide +kernel
theorem dX3_drift_106 : decode cX3_drift 106 = .ok (.aload_n 0, 1) := by decide +kernel
theorem dX3_drift_107 : decode cX3_drift 107 = .ok (.getfield 10, 3) := by decide +kernel
theorem dX3_drift_110 : decode cX3_drift 110 = .ok (.getfield 76, 3) := by decide +kernel
theorem dX3_drift_113 : decode cX3_drift 113 = .ok (.if_icmp .ne 8, 3) := by decide +kernel
theorem dX3_drift_116 : decode cX3_drift 116 = .ok (.bipush (-4), 2) := by decide +kernel
theorem dX3_drift_118 : decode cX3_drift 118 = .ok (.goto 5, 3) := by decide +kernel
theorem dX3_drift_121 : decode cX3_drift 121 = .ok (.iload 8, 2) := by decide +kernel
theorem dX3_drift_123 : decode cX3_drift 123 = .ok (.invokevirtual 153, 3) := by decide +kernel
theorem dX3_drift_126 : decode cX3_drift 126 = .ok (.iload 5, 2) := by decide +kernel
theorem dX3_drift_128 : decode cX3_drift 128 = .ok (.aload_n 0, 1) := by decide +kernel
theorem dX3_drift_129 : decode cX3_drift 129 = .ok (.getfield 16, 3) := by decide +kernel
theorem dX3_drift_132 : decode cX3_drift 132 = .ok (.invokevirtual 92, 3) := by decide +kernel
theorem dX3_drift_135 : decode cX3_drift 135 = .ok (.iadd, 1) := by decide +kernel
theorem dX3_drift_136 : decode cX3_drift 136 = .ok (.istore 5, 2) := by decide +kernel
theorem dX3_drift_138 : decode cX3_drift 138 = .ok (.iinc 6 1, 3) := by decide +kernel
theorem dX3_drift_141 : decode cX3_drift 141 = .ok (.goto (-88), 3) := by decide +kernel
theorem dX3_drift_144 : decode cX3_drift 144 = .ok (.iload_n 3, 1) := by decide +kernel
theorem dX3_drift_145 : decode cX3_drift 145 = .ok (.ifCond .ne 8, 3) := by decide +kernel
theorem dX3_drift_148 : decode cX3_drift 148 = .ok (.iload 5, 2) := by decide +kernel
theorem dX3_drift_150 : decode cX3_drift 150 = .ok (.goto 10, 3) := by decide +kernel
theorem dX3_drift_153 : decode cX3_drift 153 = .ok (.aload_n 0, 1) := by decide +kernel
theorem dX3_drift_154 : decode cX3_drift 154 = .ok (.getfield 16, 3) := by decide +kernel
theorem dX3_drift_157 : decode cX3_drift 157 = .ok (.invokevirtual 88, 3) := by decide +kernel
theorem dX3_drift_160 : decode cX3_drift 160 = .ok (.ireturn, 1) := by decide +kernel
theorem dX3_nextSeed_0 : decode cX3_nextSeed 0 = .ok (.iload_n 0, 1) := by decide +kernel
theorem dX3_nextSeed_1 : decode cX3_nextSeed 1 = .ok (.ldc 239, 2) := by decide +kernel
theorem dX3_nextSeed_3 : decode cX3_nextSeed 3 = .ok (.imul, 1) := by decide +kernel
theorem dX3_nextSeed_4 : decode cX3_nextSeed 4 = .ok (.sipush 12345, 3) := by decide +kernel
theorem dX3_nextSeed_7 : decode cX3_nextSeed 7 = .ok (.iadd, 1) := by decide +kernel
theorem dX3_nextSeed_8 : decode cX3_nextSeed 8 = .ok (.ireturn, 1) := by decide +kernel
theorem dX3_drawn_0 : decode cX3_drawn 0 = .ok (.iload_n 1, 1) := by decide +kernel
theorem dX3_drawn_1 : decode cX3_drawn 1 = .ok (.iconst 1, 1) := by decide +kernel
theorem dX3_drawn_2 : decode cX3_drawn 2 = .ok (.if_icmp .ge 7, 3) := by decide +kernel
theorem dX3_drawn_5 : decode cX3_drawn 5 = .ok (.iconst 0, 1) := by decide +kernel
theorem dX3_drawn_6 : decode cX3_drawn 6 = .ok (.goto 13, 3) := by decide +kernel
theorem dX3_drawn_9 : decode cX3_drawn 9 = .ok (.iload_n 0, 1) := by decide +kernel
theorem dX3_drawn_10 : decode cX3_drawn 10 = .ok (.bipush 16, 2) := by decide +kernel
theorem dX3_drawn_12 : decode cX3_drawn 12 = .ok (.ishr, 1) := by decide +kernel
theorem dX3_drawn_13 : decode cX3_drawn 13 = .ok (.sipush 32767, 3) := by decide +kernel
theorem dX3_drawn_16 : decode cX3_drawn 16 = .ok (.iand, 1) := by decide +kernel
theorem dX3_drawn_17 : decode cX3_drawn 17 = .ok (.iload_n 1, 1) := by decide +kernel
theorem dX3_drawn_18 : decode cX3_drawn 18 = .ok (.irem, 1) := by decide +kernel
theorem dX3_drawn_19 : decode cX3_drawn 19 = .ok (.ireturn, 1) := by decide +kernel
theorem dX3_keep_0 : decode cX3_keep 0 = .ok (.iload_n 1, 1) := by decide +kernel
theorem dX3_keep_1 : decode cX3_keep 1 = .ok (.ifCond .lt 8, 3) := by decide +kernel
theorem dX3_keep_4 : decode cX3_keep 4 = .ok (.iload_n 1, 1) := by decide +kernel
theorem dX3_keep_5 : decode cX3_keep 5 = .ok (.iconst 2, 1) := by decide +kernel
theorem dX3_keep_6 : decode cX3_keep 6 = .ok (.if_icmp .lt 5, 3) := by decide +kernel
theorem dX3_keep_9 : decode cX3_keep 9 = .ok (.iconst (-1), 1) := by decide +kernel
theorem dX3_keep_10 : decode cX3_keep 10 = .ok (.ireturn, 1) := by decide +kernel
theorem dX3_keep_11 : decode cX3_keep 11 = .ok (.aload_n 0, 1) := by decide +kernel
theorem dX3_keep_12 : decode cX3_keep 12 = .ok (.getfield 23, 3) := by decide +kernel
theorem dX3_keep_15 : decode cX3_keep 15 = .ok (.iload_n 1, 1) := by decide +kernel
theorem dX3_keep_16 : decode cX3_keep 16 = .ok (.baload, 1) := by decide +kernel
theorem dX3_keep_17 : decode cX3_keep 17 = .ok (.ifCond .eq 7, 3) := by decide +kernel
theorem dX3_keep_20 : decode cX3_keep 20 = .ok (.iconst 1, 1) := by decide +kernel
theorem dX3_keep_21 : decode cX3_keep 21 = .ok (.goto 4, 3) := by decide +kernel
theorem dX3_keep_24 : decode cX3_keep 24 = .ok (.iconst 0, 1) := by decide +kernel
theorem dX3_keep_25 : decode cX3_keep 25 = .ok (.istore_n 2, 1) := by decide +kernel
theorem dX3_keep_26 : decode cX3_keep 26 = .ok (.aload_n 0, 1) := by decide +kernel
theorem dX3_keep_27 : decode cX3_keep 27 = .ok (.getfield 19, 3) := by decide +kernel
theorem dX3_keep_30 : decode cX3_keep 30 = .ok (.iload_n 1, 1) := by decide +kernel
theorem dX3_keep_31 : decode cX3_keep 31 = .ok (.aaload, 1) := by decide +kernel
theorem dX3_keep_32 : decode cX3_keep 32 = .ok (.aload_n 0, 1) := by decide +kernel
theorem dX3_keep_33 : decode cX3_keep 33 = .ok (.getfield 10, 3) := by decide +kernel
theorem dX3_keep_36 : decode cX3_keep 36 = .ok (.invokevirtual 69, 3) := by decide +kernel
theorem dX3_keep_39 : decode cX3_keep 39 = .ok (.aload_n 0, 1) := by decide +kernel
theorem dX3_keep_40 : decode cX3_keep 40 = .ok (.getfield 23, 3) := by decide +kernel
theorem dX3_keep_43 : decode cX3_keep 43 = .ok (.iload_n 1, 1) := by decide +kernel
theorem dX3_keep_44 : decode cX3_keep 44 = .ok (.iconst 1, 1) := by decide +kernel
theorem dX3_keep_45 : decode cX3_keep 45 = .ok (.bastore, 1) := by decide +kernel
theorem dX3_keep_46 : decode cX3_keep 46 = .ok (.iload_n 2, 1) := by decide +kernel
theorem dX3_keep_47 : decode cX3_keep 47 = .ok (.ireturn, 1) := by decide +kernel
theorem dX3_back_0 : decode cX3_back 0 = .ok (.iload_n 1, 1) := by decide +kernel
theorem dX3_back_1 : decode cX3_back 1 = .ok (.ifCond .lt 8, 3) := by decide +kernel
theorem dX3_back_4 : decode cX3_back 4 = .ok (.iload_n 1, 1) := by decide +kernel
theorem dX3_back_5 : decode cX3_back 5 = .ok (.iconst 2, 1) := by decide +kernel
theorem dX3_back_6 : decode cX3_back 6 = .ok (.if_icmp .lt 5, 3) := by decide +kernel
theorem dX3_back_9 : decode cX3_back 9 = .ok (.iconst (-1), 1) := by decide +kernel
theorem dX3_back_10 : decode cX3_back 10 = .ok (.ireturn, 1) := by decide +kernel
theorem dX3_back_11 : decode cX3_back 11 = .ok (.aload_n 0, 1) := by decide +kernel
theorem dX3_back_12 : decode cX3_back 12 = .ok (.getfield 23, 3) := by decide +kernel
theorem dX3_back_15 : decode cX3_back 15 = .ok (.iload_n 1, 1) := by decide +kernel
theorem dX3_back_16 : decode cX3_back 16 = .ok (.baload, 1) := by decide +kernel
theorem dX3_back_17 : decode cX3_back 17 = .ok (.ifCond .ne 6, 3) := by decide +kernel
theorem dX3_back_20 : decode cX3_back 20 = .ok (.bipush (-2), 2) := by decide +kernel
theorem dX3_back_22 : decode cX3_back 22 = .ok (.ireturn, 1) := by decide +kernel
theorem dX3_back_23 : decode cX3_back 23 = .ok (.aload_n 0, 1) := by decide +kernel
theorem dX3_back_24 : decode cX3_back 24 = .ok (.getfield 10, 3) := by decide +kernel
theorem dX3_back_27 : decode cX3_back 27 = .ok (.aload_n 0, 1) := by decide +kernel
theorem dX3_back_28 : decode cX3_back 28 = .ok (.getfield 19, 3) := by decide +kernel
theorem dX3_back_31 : decode cX3_back 31 = .ok (.iload_n 1, 1) := by decide +kernel
theorem dX3_back_32 : decode cX3_back 32 = .ok (.aaload, 1) := by decide +kernel
theorem dX3_back_33 : decode cX3_back 33 = .ok (.invokevirtual 69, 3) := by decide +kernel
theorem dX3_back_36 : decode cX3_back 36 = .ok (.aload_n 0, 1) := by decide +kernel
theorem dX3_back_37 : decode cX3_back 37 = .ok (.getfield 10, 3) := by decide +kernel
theorem dX3_back_40 : decode cX3_back 40 = .ok (.invokevirtual 92, 3) := by decide +kernel
theorem dX3_back_43 : decode cX3_back 43 = .ok (.ireturn, 1) := by decide +kernel
theorem dX3_sheet_0 : decode cX3_sheet 0 = .ok (.iload_n 1, 1) := by decide +kernel
theorem dX3_sheet_1 : decode cX3_sheet 1 = .ok (.invokestatic 240, 3) := by decide +kernel
theorem dX3_sheet_4 : decode cX3_sheet 4 = .ok (.ifCond .eq 16, 3) := by decide +kernel
theorem dX3_sheet_7 : decode cX3_sheet 7 = .ok (.iload_n 2, 1) := by decide +kernel
theorem dX3_sheet_8 : decode cX3_sheet 8 = .ok (.invokestatic 243, 3) := by decide +kernel
theorem dX3_sheet_11 : decode cX3_sheet 11 = .ok (.ifCond .eq 9, 3) := by decide +kernel
theorem dX3_sheet_14 : decode cX3_sheet 14 = .ok (.iload_n 3, 1) := by decide +kernel
theorem dX3_sheet_15 : decode cX3_sheet 15 = .ok (.bipush 40, 2) := by decide +kernel
theorem dX3_sheet_17 : decode cX3_sheet 17 = .ok (.if_icmp .le 5, 3) := by decide +kernel
theorem dX3_sheet_20 : decode cX3_sheet 20 = .ok (.iconst (-1), 1) := by decide +kernel
theorem dX3_sheet_21 : decode cX3_sheet 21 = .ok (.ireturn, 1) := by decide +kernel
theorem dX3_sheet_22 : decode cX3_sheet 22 = .ok (.iload_n 3, 1) := by decide +kernel
theorem dX3_sheet_23 : decode cX3_sheet 23 = .ok (.ifCond .ge 6, 3) := by decide +kernel
theorem dX3_sheet_26 : decode cX3_sheet 26 = .ok (.bipush (-14), 2) := by decide +kernel
theorem dX3_sheet_28 : decode cX3_sheet 28 = .ok (.ireturn, 1) := by decide +kernel
theorem dX3_sheet_29 : decode cX3_sheet 29 = .ok (.aload_n 0, 1) := by decide +kernel
theorem dX3_sheet_30 : decode cX3_sheet 30 = .ok (.getfield 36, 3) := by decide +kernel
theorem dX3_sheet_33 : decode cX3_sheet 33 = .ok (.iload_n 1, 1) := by decide +kernel
theorem dX3_sheet_34 : decode cX3_sheet 34 = .ok (.aaload, 1) := by decide +kernel
theorem dX3_sheet_35 : decode cX3_sheet 35 = .ok (.iload_n 2, 1) := by decide +kernel
theorem dX3_sheet_36 : decode cX3_sheet 36 = .ok (.iload_n 3, 1) := by decide +kernel
theorem dX3_sheet_37 : decode cX3_sheet 37 = .ok (.invokevirtual 246, 3) := by decide +kernel
theorem dX3_sheet_40 : decode cX3_sheet 40 = .ok (.iconst 1, 1) := by decide +kernel
theorem dX3_sheet_41 : decode cX3_sheet 41 = .ok (.ireturn, 1) := by decide +kernel
theorem dX3_lay_0 : decode cX3_lay 0 = .ok (.iload_n 1, 1) := by decide +kernel
theorem dX3_lay_1 : decode cX3_lay 1 = .ok (.invokestatic 240, 3) := by decide +kernel
theorem dX3_lay_4 : decode cX3_lay 4 = .ok (.ifCond .ne 5, 3) := by decide +kernel
theorem dX3_lay_7 : decode cX3_lay 7 = .ok (.iconst (-1), 1) := by decide +kernel
theorem dX3_lay_8 : decode cX3_lay 8 = .ok (.ireturn, 1) := by decide +kernel
theorem dX3_lay_9 : decode cX3_lay 9 = .ok (.aload_n 0, 1) := by decide +kernel
theorem dX3_lay_10 : decode cX3_lay 10 = .ok (.getfield 36, 3) := by decide +kernel
theorem dX3_lay_13 : decode cX3_lay 13 = .ok (.iload_n 1, 1) := by decide +kernel
theorem dX3_lay_14 : decode cX3_lay 14 = .ok (.aaload, 1) := by decide +kernel
theorem dX3_lay_15 : decode cX3_lay 15 = .ok (.astore 4, 2) := by decide +kernel
theorem dX3_lay_17 : decode cX3_lay 17 = .ok (.aload 4, 2) := by decide +kernel
theorem dX3_lay_19 : decode cX3_lay 19 = .ok (.aload 4, 2) := by decide +kernel
theorem dX3_lay_21 : decode cX3_lay 21 = .ok (.getfield 249, 3) := by decide +kernel
theorem dX3_lay_24 : decode cX3_lay 24 = .ok (.iload_n 2, 1) := by decide +kernel
theorem dX3_lay_25 : decode cX3_lay 25 = .ok (.invokevirtual 252, 3) := by decide +kernel
theorem dX3_lay_28 : decode cX3_lay 28 = .ok (.istore 5, 2) := by decide +kernel
theorem dX3_lay_30 : decode cX3_lay 30 = .ok (.iload 5, 2) := by decide +kernel
theorem dX3_lay_32 : decode cX3_lay 32 = .ok (.ifCond .eq 9, 3) := by decide +kernel
theorem dX3_lay_35 : decode cX3_lay 35 = .ok (.bipush (-10), 2) := by decide +kernel
theorem dX3_lay_37 : decode cX3_lay 37 = .ok (.iload 5, 2) := by decide +kernel
theorem dX3_lay_39 : decode cX3_lay 39 = .ok (.isub, 1) := by decide +kernel
theorem dX3_lay_40 : decode cX3_lay 40 = .ok (.ireturn, 1) := by decide +kernel
theorem dX3_lay_41 : decode cX3_lay 41 = .ok (.aload 4, 2) := by decide +kernel
theorem dX3_lay_43 : decode cX3_lay 43 = .ok (.iload_n 2, 1) := by decide +kernel
theorem dX3_lay_44 : decode cX3_lay 44 = .ok (.iload_n 3, 1) := by decide +kernel
theorem dX3_lay_45 : decode cX3_lay 45 = .ok (.invokevirtual 255, 3) := by decide +kernel
theorem dX3_lay_48 : decode cX3_lay 48 = .ok (.iconst 1, 1) := by decide +kernel
theorem dX3_lay_49 : decode cX3_lay 49 = .ok (.ireturn, 1) := by decide +kernel
theorem dX3_read_0 : decode cX3_read 0 = .ok (.iload_n 1, 1) := by decide +kernel
theorem dX3_read_1 : decode cX3_read 1 = .ok (.invokestatic 240, 3) := by decide +kernel
theorem dX3_read_4 : decode cX3_read 4 = .ok (.ifCond .eq 22, 3) := by decide +kernel
theorem dX3_read_7 : decode cX3_read 7 = .ok (.iload_n 2, 1) := by decide +kernel
theorem dX3_read_8 : decode cX3_read 8 = .ok (.invokestatic 243, 3) := by decide +kernel
theorem dX3_read_11 : decode cX3_read 11 = .ok (.ifCond .eq 15, 3) := by decide +kernel
theorem dX3_read_14 : decode cX3_read 14 = .ok (.iload 4, 2) := by decide +kernel
theorem dX3_read_16 : decode cX3_read 16 = .ok (.ifCond .lt 10, 3) := by decide +kernel
theorem dX3_read_19 : decode cX3_read 19 = .ok (.iload 4, 2) := by decide +kernel
theorem dX3_read_21 : decode cX3_read 21 = .ok (.bipush 20, 2) := by decide +kernel
theorem dX3_read_23 : decode cX3_read 23 = .ok (.if_icmp .le 5, 3) := by decide +kernel
theorem dX3_read_26 : decode cX3_read 26 = .ok (.iconst (-1), 1) := by decide +kernel
theorem dX3_read_27 : decode cX3_read 27 = .ok (.ireturn, 1) := by decide +kernel
theorem dX3_read_28 : decode cX3_read 28 = .ok (.aload_n 0, 1) := by decide +kernel
theorem dX3_read_29 : decode cX3_read 29 = .ok (.getfield 36, 3) := by decide +kernel
theorem dX3_read_32 : decode cX3_read 32 = .ok (.iload_n 1, 1) := by decide +kernel
theorem dX3_read_33 : decode cX3_read 33 = .ok (.aaload, 1) := by decide +kernel
theorem dX3_read_34 : decode cX3_read 34 = .ok (.astore 5, 2) := by decide +kernel
theorem dX3_read_36 : decode cX3_read 36 = .ok (.iconst 0, 1) := by decide +kernel
theorem dX3_read_37 : decode cX3_read 37 = .ok (.istore 6, 2) := by decide +kernel
theorem dX3_read_39 : decode cX3_read 39 = .ok (.iconst 0, 1) := by decide +kernel
theorem dX3_read_40 : decode cX3_read 40 = .ok (.istore 7, 2) := by decide +kernel
theorem dX3_read_42 : decode cX3_read 42 = .ok (.iconst 0, 1) := by decide +kernel
theorem dX3_read_43 : decode cX3_read 43 = .ok (.istore 8, 2) := by decide +kernel
theorem dX3_read_45 : decode cX3_read 45 = .ok (.iload 8, 2) := by decide +kernel
theorem dX3_read_47 : decode cX3_read 47 = .ok (.iload 4, 2) := by decide +kernel
theorem dX3_read_49 : decode cX3_read 49 = .ok (.if_icmp .ge 71, 3) := by decide +kernel
theorem dX3_read_52 : decode cX3_read 52 = .ok (.iload 6, 2) := by decide +kernel
theorem dX3_read_54 : decode cX3_read 54 = .ok (.ifCond .ne 66, 3) := by decide +kernel
theorem dX3_read_57 : decode cX3_read 57 = .ok (.iload_n 3, 1) := by decide +kernel
theorem dX3_read_58 : decode cX3_read 58 = .ok (.iconst 2, 1) := by decide +kernel
theorem dX3_read_59 : decode cX3_read 59 = .ok (.iload 8, 2) := by decide +kernel
theorem dX3_read_61 : decode cX3_read 61 = .ok (.imul, 1) := by decide +kernel
theorem dX3_read_62 : decode cX3_read 62 = .ok (.iadd, 1) := by decide +kernel
theorem dX3_read_63 : decode cX3_read 63 = .ok (.istore 9, 2) := by decide +kernel
theorem dX3_read_65 : decode cX3_read 65 = .ok (.aload 5, 2) := by decide +kernel
theorem dX3_read_67 : decode cX3_read 67 = .ok (.iload_n 2, 1) := by decide +kernel
theorem dX3_read_68 : decode cX3_read 68 = .ok (.iload 9, 2) := by decide +kernel
theorem dX3_read_70 : decode cX3_read 70 = .ok (.invokevirtual 258, 3) := by decide +kernel
theorem dX3_read_73 : decode cX3_read 73 = .ok (.istore 6, 2) := by decide +kernel
theorem dX3_read_75 : decode cX3_read 75 = .ok (.iload 6, 2) := by decide +kernel
theorem dX3_read_77 : decode cX3_read 77 = .ok (.ifCond .ne 37, 3) := by decide +kernel
theorem dX3_read_80 : decode cX3_read 80 = .ok (.aload_n 0, 1) := by decide +kernel
theorem dX3_read_81 : decode cX3_read 81 = .ok (.aload 5, 2) := by decide +kernel
theorem dX3_read_83 : decode cX3_read 83 = .ok (.getfield 261, 3) := by decide +kernel
theorem dX3_read_86 : decode cX3_read 86 = .ok (.iload 9, 2) := by decide +kernel
theorem dX3_read_88 : decode cX3_read 88 = .ok (.iaload, 1) := by decide +kernel
theorem dX3_read_89 : decode cX3_read 89 = .ok (.aload 5, 2) := by decide +kernel
theorem dX3_read_91 : decode cX3_read 91 = .ok (.getfield 261, 3) := by decide +kernel
theorem dX3_read_94 : decode cX3_read 94 = .ok (.iload 9, 2) := by decide +kernel
theorem dX3_read_96 : decode cX3_read 96 = .ok (.iconst 1, 1) := by decide +kernel
theorem dX3_read_97 : decode cX3_read 97 = .ok (.iadd, 1) := by decide +kernel
theorem dX3_read_98 : decode cX3_read 98 = .ok (.iaload, 1) := by decide +kernel
theorem dX3_read_99 : decode cX3_read 99 = .ok (.invokevirtual 149, 3) := by decide +kernel
theorem dX3_read_102 : decode cX3_read 102 = .ok (.ifCond .ne 9, 3) := by decide +kernel
theorem dX3_read_105 : decode cX3_read 105 = .ok (.bipush (-20), 2) := by decide +kernel
theorem dX3_read_107 : decode cX3_read 107 = .ok (.iload 8, 2) := by decide +kernel
theorem dX3_read_109 : decode cX3_read 109 = .ok (.isub, 1) := by decide +kernel
theorem dX3_read_110 : decode cX3_read 110 = .ok (.ireturn, 1) := by decide +kernel
theorem dX3_read_111 : decode cX3_read 111 = .ok (.iinc 7 1, 3) := by decide +kernel
theorem dX3_read_114 : decode cX3_read 114 = .ok (.iinc 8 1, 3) := by decide +kernel
theorem dX3_read_117 : decode cX3_read 117 = .ok (.goto (-72), 3) := by decide +kernel
theorem dX3_read_120 : decode cX3_read 120 = .ok (.iconst 0, 1) := by decide +kernel
theorem dX3_read_121 : decode cX3_read 121 = .ok (.istore 8, 2) := by decide +kernel
theorem dX3_read_123 : decode cX3_read 123 = .ok (.iload 8, 2) := by decide +kernel
theorem dX3_read_125 : decode cX3_read 125 = .ok (.iload 7, 2) := by decide +kernel
theorem dX3_read_127 : decode cX3_read 127 = .ok (.if_icmp .ge 42, 3) := by decide +kernel
theorem dX3_read_130 : decode cX3_read 130 = .ok (.aload_n 0, 1) := by decide +kernel
theorem dX3_read_131 : decode cX3_read 131 = .ok (.getfield 10, 3) := by decide +kernel
theorem dX3_read_134 : decode cX3_read 134 = .ok (.aload 5, 2) := by decide +kernel
theorem dX3_read_136 : decode cX3_read 136 = .ok (.getfield 261, 3) := by decide +kernel
theorem dX3_read_139 : decode cX3_read 139 = .ok (.iload_n 3, 1) := by decide +kernel
theorem dX3_read_140 : decode cX3_read 140 = .ok (.iconst 2, 1) := by decide +kernel
theorem dX3_read_141 : decode cX3_read 141 = .ok (.iload 8, 2) := by decide +kernel
theorem dX3_read_143 : decode cX3_read 143 = .ok (.imul, 1) := by decide +kernel
theorem dX3_read_144 : decode cX3_read 144 = .ok (.iadd, 1) := by decide +kernel
theorem dX3_read_145 : decode cX3_read 145 = .ok (.iaload, 1) := by decide +kernel
theorem dX3_read_146 : decode cX3_read 146 = .ok (.aload 5, 2) := by decide +kernel
theorem dX3_read_148 : decode cX3_read 148 = .ok (.getfield 261, 3) := by decide +kernel
theorem dX3_read_151 : decode cX3_read 151 = .ok (.iload_n 3, 1) := by decide +kernel
theorem dX3_read_152 : decode cX3_read 152 = .ok (.iconst 2, 1) := by decide +kernel
theorem dX3_read_153 : decode cX3_read 153 = .ok (.iload 8, 2) := by decide +kernel
theorem dX3_read_155 : decode cX3_read 155 = .ok (.imul, 1) := by decide +kernel
theorem dX3_read_156 : decode cX3_read 156 = .ok (.iadd, 1) := by decide +kernel
theorem dX3_read_157 : decode cX3_read 157 = .ok (.iconst 1, 1) := by decide +kernel
theorem dX3_read_158 : decode cX3_read 158 = .ok (.iadd, 1) := by decide +kernel
theorem dX3_read_159 : decode cX3_read 159 = .ok (.iaload, 1) := by decide +kernel
theorem dX3_read_160 : decode cX3_read 160 = .ok (.invokevirtual 153, 3) := by decide +kernel
theorem dX3_read_163 : decode cX3_read 163 = .ok (.iinc 8 1, 3) := by decide +kernel
theorem dX3_read_166 : decode cX3_read 166 = .ok (.goto (-43), 3) := by decide +kernel
theorem dX3_read_169 : decode cX3_read 169 = .ok (.aload_n 0, 1) := by decide +kernel
theorem dX3_read_170 : decode cX3_read 170 = .ok (.iload 6, 2) := by decide +kernel
theorem dX3_read_172 : decode cX3_read 172 = .ok (.putfield 264, 3) := by decide +kernel
theorem dX3_read_175 : decode cX3_read 175 = .ok (.iload 7, 2) := by decide +kernel
theorem dX3_read_177 : decode cX3_read 177 = .ok (.ireturn, 1) := by decide +kernel
theorem dX3_torn_0 : decode cX3_torn 0 = .ok (.aload_n 0, 1) := by decide +kernel
theorem dX3_torn_1 : decode cX3_torn 1 = .ok (.getfield 264, 3) := by decide +kernel
theorem dX3_torn_4 : decode cX3_torn 4 = .ok (.ireturn, 1) := by decide +kernel
theorem dX3_count_0 : decode cX3_count 0 = .ok (.iload_n 1, 1) := by decide +kernel
theorem dX3_count_1 : decode cX3_count 1 = .ok (.tableswitch 101 0 5 #[39, 44, 49, 57, 85, 93], 39) := by decide +kernel
theorem dX3_count_40 : decode cX3_count 40 = .ok (.aload_n 0, 1) := by decide +kernel
theorem dX3_count_41 : decode cX3_count 41 = .ok (.getfield 73, 3) := by decide +kernel
theorem dX3_count_44 : decode cX3_count 44 = .ok (.ireturn, 1) := by decide +kernel
theorem dX3_count_45 : decode cX3_count 45 = .ok (.aload_n 0, 1) := by decide +kernel
theorem dX3_count_46 : decode cX3_count 46 = .ok (.invokevirtual 267, 3) := by decide +kernel
theorem dX3_count_49 : decode cX3_count 49 = .ok (.ireturn, 1) := by decide +kernel
theorem dX3_count_50 : decode cX3_count 50 = .ok (.aload_n 0, 1) := by decide +kernel
theorem dX3_count_51 : decode cX3_count 51 = .ok (.getfield 30, 3) := by decide +kernel
theorem dX3_count_54 : decode cX3_count 54 = .ok (.getfield 55, 3) := by decide +kernel
theorem dX3_count_57 : decode cX3_count 57 = .ok (.ireturn, 1) := by decide +kernel
theorem dX3_count_58 : decode cX3_count 58 = .ok (.aload_n 0, 1) := by decide +kernel
theorem dX3_count_59 : decode cX3_count 59 = .ok (.getfield 36, 3) := by decide +kernel
theorem dX3_count_62 : decode cX3_count 62 = .ok (.iconst 0, 1) := by decide +kernel
theorem dX3_count_63 : decode cX3_count 63 = .ok (.aaload, 1) := by decide +kernel
theorem dX3_count_64 : decode cX3_count 64 = .ok (.getfield 249, 3) := by decide +kernel
theorem dX3_count_67 : decode cX3_count 67 = .ok (.iconst (-1), 1) := by decide +kernel
theorem dX3_count_68 : decode cX3_count 68 = .ok (.if_icmp .ne 8, 3) := by decide +kernel
theorem dX3_count_71 : decode cX3_count 71 = .ok (.bipush (-4), 2) := by decide +kernel
theorem dX3_count_73 : decode cX3_count 73 = .ok (.goto 12, 3) := by decide +kernel
theorem dX3_count_76 : decode cX3_count 76 = .ok (.aload_n 0, 1) := by decide +kernel
theorem dX3_count_77 : decode cX3_count 77 = .ok (.getfield 36, 3) := by decide +kernel
theorem dX3_count_80 : decode cX3_count 80 = .ok (.iconst 0, 1) := by decide +kernel
theorem dX3_count_81 : decode cX3_count 81 = .ok (.aaload, 1) := by decide +kernel
theorem dX3_count_82 : decode cX3_count 82 = .ok (.getfield 270, 3) := by decide +kernel
theorem dX3_count_85 : decode cX3_count 85 = .ok (.ireturn, 1) := by decide +kernel
theorem dX3_count_86 : decode cX3_count 86 = .ok (.aload_n 0, 1) := by decide +kernel
theorem dX3_count_87 : decode cX3_count 87 = .ok (.getfield 10, 3) := by decide +kernel
theorem dX3_count_90 : decode cX3_count 90 = .ok (.invokevirtual 273, 3) := by decide +kernel
theorem dX3_count_93 : decode cX3_count 93 = .ok (.ireturn, 1) := by decide +kernel
theorem dX3_count_94 : decode cX3_count 94 = .ok (.aload_n 0, 1) := by decide +kernel
theorem dX3_count_95 : decode cX3_count 95 = .ok (.getfield 10, 3) := by decide +kernel
theorem dX3_count_98 : decode cX3_count 98 = .ok (.invokevirtual 276, 3) := by decide +kernel
theorem dX3_count_101 : decode cX3_count 101 = .ok (.ireturn, 1) := by decide +kernel
theorem dX3_count_102 : decode cX3_count 102 = .ok (.iconst (-1), 1) := by decide +kernel
theorem dX3_count_103 : decode cX3_count 103 = .ok (.ireturn, 1) := by decide +kernel
theorem dX3_imagesKept_0 : decode cX3_imagesKept 0 = .ok (.iconst 0, 1) := by decide +kernel
theorem dX3_imagesKept_1 : decode cX3_imagesKept 1 = .ok (.istore_n 1, 1) := by decide +kernel
theorem dX3_imagesKept_2 : decode cX3_imagesKept 2 = .ok (.iconst 0, 1) := by decide +kernel
theorem dX3_imagesKept_3 : decode cX3_imagesKept 3 = .ok (.istore_n 2, 1) := by decide +kernel
theorem dX3_imagesKept_4 : decode cX3_imagesKept 4 = .ok (.iload_n 2, 1) := by decide +kernel
theorem dX3_imagesKept_5 : decode cX3_imagesKept 5 = .ok (.iconst 2, 1) := by decide +kernel
theorem dX3_imagesKept_6 : decode cX3_imagesKept 6 = .ok (.if_icmp .ge 26, 3) := by decide +kernel
theorem dX3_imagesKept_9 : decode cX3_imagesKept 9 = .ok (.iload_n 1, 1) := by decide +kernel
theorem dX3_imagesKept_10 : decode cX3_imagesKept 10 = .ok (.aload_n 0, 1) := by decide +kernel
theorem dX3_imagesKept_11 : decode cX3_imagesKept 11 = .ok (.getfield 23, 3) := by decide +kernel
theorem dX3_imagesKept_14 : decode cX3_imagesKept 14 = .ok (.iload_n 2, 1) := by decide +kernel
theorem dX3_imagesKept_15 : decode cX3_imagesKept 15 = .ok (.baload, 1) := by decide +kernel
theorem dX3_imagesKept_16 : decode cX3_imagesKept 16 = .ok (.ifCond .eq 7, 3) := by decide +kernel
theorem dX3_imagesKept_19 : decode cX3_imagesKept 19 = .ok (.iconst 1, 1) := by decide +kernel
theorem dX3_imagesKept_20 : decode cX3_imagesKept 20 = .ok (.goto 4, 3) := by decide +kernel
theorem dX3_imagesKept_23 : decode cX3_imagesKept 23 = .ok (.iconst 0, 1) := by decide +kernel
theorem dX3_imagesKept_24 : decode cX3_imagesKept 24 = .ok (.iadd, 1) := by decide +kernel
theorem dX3_imagesKept_25 : decode cX3_imagesKept 25 = .ok (.istore_n 1, 1) := by decide +kernel
theorem dX3_imagesKept_26 : decode cX3_imagesKept 26 = .ok (.iinc 2 1, 3) := by decide +kernel
theorem dX3_imagesKept_29 : decode cX3_imagesKept 29 = .ok (.goto (-25), 3) := by decide +kernel
theorem dX3_imagesKept_32 : decode cX3_imagesKept 32 = .ok (.iload_n 1, 1) := by decide +kernel
theorem dX3_imagesKept_33 : decode cX3_imagesKept 33 = .ok (.ireturn, 1) := by decide +kernel
theorem dX3_mayStand_0 : decode cX3_mayStand 0 = .ok (.iload_n 1, 1) := by decide +kernel
theorem dX3_mayStand_1 : decode cX3_mayStand 1 = .ok (.invokestatic 111, 3) := by decide +kernel
theorem dX3_mayStand_4 : decode cX3_mayStand 4 = .ok (.ifCond .eq 24, 3) := by decide +kernel
theorem dX3_mayStand_7 : decode cX3_mayStand 7 = .ok (.iload_n 2, 1) := by decide +kernel
theorem dX3_mayStand_8 : decode cX3_mayStand 8 = .ok (.bipush (-4), 2) := by decide +kernel
theorem dX3_mayStand_10 : decode cX3_mayStand 10 = .ok (.if_icmp .eq 14, 3) := by decide +kernel
theorem dX3_mayStand_13 : decode cX3_mayStand 13 = .ok (.aload_n 0, 1) := by decide +kernel
theorem dX3_mayStand_14 : decode cX3_mayStand 14 = .ok (.getfield 10, 3) := by decide +kernel
theorem dX3_mayStand_17 : decode cX3_mayStand 17 = .ok (.iload_n 2, 1) := by decide +kernel
theorem dX3_mayStand_18 : decode cX3_mayStand 18 = .ok (.invokevirtual 95, 3) := by decide +kernel
theorem dX3_mayStand_21 : decode cX3_mayStand 21 = .ok (.ifCond .eq 7, 3) := by decide +kernel
theorem dX3_mayStand_24 : decode cX3_mayStand 24 = .ok (.iconst 1, 1) := by decide +kernel
theorem dX3_mayStand_25 : decode cX3_mayStand 25 = .ok (.goto 4, 3) := by decide +kernel
theorem dX3_mayStand_28 : decode cX3_mayStand 28 = .ok (.iconst 0, 1) := by decide +kernel
theorem dX3_mayStand_29 : decode cX3_mayStand 29 = .ok (.ireturn, 1) := by decide +kernel
theorem dX3_isFirstOrSecond_0 : decode cX3_isFirstOrSecond 0 = .ok (.iload_n 0, 1) := by decide +kernel
theorem dX3_isFirstOrSecond_1 : decode cX3_isFirstOrSecond 1 = .ok (.ifCond .eq 8, 3) := by decide +kernel
theorem dX3_isFirstOrSecond_4 : decode cX3_isFirstOrSecond 4 = .ok (.iload_n 0, 1) := by decide +kernel
theorem dX3_isFirstOrSecond_5 : decode cX3_isFirstOrSecond 5 = .ok (.iconst 1, 1) := by decide +kernel
theorem dX3_isFirstOrSecond_6 : decode cX3_isFirstOrSecond 6 = .ok (.if_icmp .ne 7, 3) := by decide +kernel
theorem dX3_isFirstOrSecond_9 : decode cX3_isFirstOrSecond 9 = .ok (.iconst 1, 1) := by decide +kernel
theorem dX3_isFirstOrSecond_10 : decode cX3_isFirstOrSecond 10 = .ok (.goto 4, 3) := by decide +kernel
theorem dX3_isFirstOrSecond_13 : decode cX3_isFirstOrSecond 13 = .ok (.iconst 0, 1) := by decide +kernel
theorem dX3_isFirstOrSecond_14 : decode cX3_isFirstOrSecond 14 = .ok (.ireturn, 1) := by decide +kernel
theorem dX3_isHour_0 : decode cX3_isHour 0 = .ok (.iload_n 0, 1) := by decide +kernel
theorem dX3_isHour_1 : decode cX3_isHour 1 = .ok (.ifCond .lt 13, 3) := by decide +kernel
theorem dX3_isHour_4 : decode cX3_isHour 4 = .ok (.iload_n 0, 1) := by decide +kernel
theorem dX3_isHour_5 : decode cX3_isHour 5 = .ok (.bipush 12, 2) := by decide +kernel
theorem dX3_isHour_7 : decode cX3_isHour 7 = .ok (.if_icmp .ge 7, 3) := by decide +kernel
theorem dX3_isHour_10 : decode cX3_isHour 10 = .ok (.iconst 1, 1) := by decide +kernel
theorem dX3_isHour_11 : decode cX3_isHour 11 = .ok (.goto 4, 3) := by decide +kernel
theorem dX3_isHour_14 : decode cX3_isHour 14 = .ok (.iconst 0, 1) := by decide +kernel
theorem dX3_isHour_15 : decode cX3_isHour 15 = .ok (.ireturn, 1) := by decide +kernel
theorem dX3_isQuarter_0 : decode cX3_isQuarter 0 = .ok (.iload_n 0, 1) := by decide +kernel
theorem dX3_isQuarter_1 : decode cX3_isQuarter 1 = .ok (.ifCond .lt 13, 3) := by decide +kernel
theorem dX3_isQuarter_4 : decode cX3_isQuarter 4 = .ok (.iload_n 0, 1) := by decide +kernel
theorem dX3_isQuarter_5 : decode cX3_isQuarter 5 = .ok (.bipush 48, 2) := by decide +kernel
theorem dX3_isQuarter_7 : decode cX3_isQuarter 7 = .ok (.if_icmp .ge 7, 3) := by decide +kernel
theorem dX3_isQuarter_10 : decode cX3_isQuarter 10 = .ok (.iconst 1, 1) := by decide +kernel
theorem dX3_isQuarter_11 : decode cX3_isQuarter 11 = .ok (.goto 4, 3) := by decide +kernel
theorem dX3_isQuarter_14 : decode cX3_isQuarter 14 = .ok (.iconst 0, 1) := by decide +kernel
theorem dX3_isQuarter_15 : decode cX3_isQuarter 15 = .ok (.ireturn, 1) := by decide +kernel
theorem dX3_isWorth_0 : decode cX3_isWorth 0 = .ok (.iload_n 0, 1) := by decide +kernel
theorem dX3_isWorth_1 : decode cX3_isWorth 1 = .ok (.iconst 1, 1) := by decide +kernel
theorem dX3_isWorth_2 : decode cX3_isWorth 2 = .ok (.if_icmp .lt 13, 3) := by decide +kernel
theorem dX3_isWorth_5 : decode cX3_isWorth 5 = .ok (.iload_n 0, 1) := by decide +kernel
theorem dX3_isWorth_6 : decode cX3_isWorth 6 = .ok (.bipush 9, 2) := by decide +kernel
theorem dX3_isWorth_8 : decode cX3_isWorth 8 = .ok (.if_icmp .gt 7, 3) := by decide +kernel
theorem dX3_isWorth_11 : decode cX3_isWorth 11 = .ok (.iconst 1, 1) := by decide +kernel
theorem dX3_isWorth_12 : decode cX3_isWorth 12 = .ok (.goto 4, 3) := by decide +kernel
theorem dX3_isWorth_15 : decode cX3_isWorth 15 = .ok (.iconst 0, 1) := by decide +kernel
theorem dX3_isWorth_16 : decode cX3_isWorth 16 = .ok (.ireturn, 1) := by decide +kernel
theorem dX3_isSheet_0 : decode cX3_isSheet 0 = .ok (.iload_n 0, 1) := by decide +kernel
theorem dX3_isSheet_1 : decode cX3_isSheet 1 = .ok (.ifCond .lt 12, 3) := by decide +kernel
theorem dX3_isSheet_4 : decode cX3_isSheet 4 = .ok (.iload_n 0, 1) := by decide +kernel
theorem dX3_isSheet_5 : decode cX3_isSheet 5 = .ok (.iconst 4, 1) := by decide +kernel
theorem dX3_isSheet_6 : decode cX3_isSheet 6 = .ok (.if_icmp .ge 7, 3) := by decide +kernel
theorem dX3_isSheet_9 : decode cX3_isSheet 9 = .ok (.iconst 1, 1) := by decide +kernel
theorem dX3_isSheet_10 : decode cX3_isSheet 10 = .ok (.goto 4, 3) := by decide +kernel
theorem dX3_isSheet_13 : decode cX3_isSheet 13 = .ok (.iconst 0, 1) := by decide +kernel
theorem dX3_isSheet_14 : decode cX3_isSheet 14 = .ok (.ireturn, 1) := by decide +kernel
theorem dX3_isLane_0 : decode cX3_isLane 0 = .ok (.iload_n 0, 1) := by decide +kernel
theorem dX3_isLane_1 : decode cX3_isLane 1 = .ok (.ifCond .lt 12, 3) := by decide +kernel
theorem dX3_isLane_4 : decode cX3_isLane 4 = .ok (.iload_n 0, 1) := by decide +kernel
theorem dX3_isLane_5 : decode cX3_isLane 5 = .ok (.iconst 3, 1) := by decide +kernel
theorem dX3_isLane_6 : decode cX3_isLane 6 = .ok (.if_icmp .ge 7, 3) := by decide +kernel
theorem dX3_isLane_9 : decode cX3_isLane 9 = .ok (.iconst 1, 1) := by decide +kernel
theorem dX3_isLane_10 : decode cX3_isLane 10 = .ok (.goto 4, 3) := by decide +kernel
theorem dX3_isLane_13 : decode cX3_isLane 13 = .ok (.iconst 0, 1) := by decide +kernel
theorem dX3_isLane_14 : decode cX3_isLane 14 = .ok (.ireturn, 1) := by decide +kernel
