theorem dX7_judge_56 : decode cX7_judge 56 = .ok (.istore 4, 2) := by decide +kernel
theorem dX7_judge_58 : decode cX7_judge 58 = .ok (.iinc 3 1, 3) := by decide +kernel
theorem dX7_judge_61 : decode cX7_judge 61 = .ok (.goto (-39), 3) := by decide +kernel
theorem dX7_judge_64 : decode cX7_judge 64 = .ok (.aload_n 0, 1) := by decide +kernel
theorem dX7_judge_65 : decode cX7_judge 65 = .ok (.invokevirtual 201, 3) := by decide +kernel
theorem dX7_judge_68 : decode cX7_judge 68 = .ok (.iload_n 3, 1) := by decide +kernel
theorem dX7_judge_69 : decode cX7_judge 69 = .ok (.ireturn, 1) := by decide +kernel
theorem gX7_image_X7_carry : GoodIn wsX7_image (va_wsS RX7 64 yX7_carry wsX7_carry) := nw_gS nwl_X7_image nwe_542 nwe_543 nwe_534 nwl_X7_carry (by decide +kernel)
theorem dX7_image_0 : decode cX7_image 0 = .ok (.aload_n 0, 1) := by decide +kernel
theorem dX7_image_1 : decode cX7_image 1 = .ok (.getfield 7, 3) := by decide +kernel
theorem dX7_image_4 : decode cX7_image 4 = .ok (.aload_n 0, 1) := by decide +kernel
theorem dX7_image_5 : decode cX7_image 5 = .ok (.getfield 13, 3) := by decide +kernel
theorem dX7_image_8 : decode cX7_image 8 = .ok (.sipush 455, 3) := by decide +kernel
theorem dX7_image_11 : decode cX7_image 11 = .ok (.invokestatic 64, 3) := by decide +kernel
theorem dX7_image_14 : decode cX7_image 14 = .ok (.aload_n 0, 1) := by decide +kernel
theorem dX7_image_15 : decode cX7_image 15 = .ok (.dup, 1) := by decide +kernel
theorem dX7_image_16 : decode cX7_image 16 = .ok (.getfield 265, 3) := by decide +kernel
theorem dX7_image_19 : decode cX7_image 19 = .ok (.iconst 1, 1) := by decide +kernel
theorem dX7_image_20 : decode cX7_image 20 = .ok (.iadd, 1) := by decide +kernel
theorem dX7_image_21 : decode cX7_image 21 = .ok (.putfield 265, 3) := by decide +kernel
theorem dX7_image_24 : decode cX7_image 24 = .ok (.aload_n 0, 1) := by decide +kernel
theorem dX7_image_25 : decode cX7_image 25 = .ok (.getfield 265, 3) := by decide +kernel
theorem dX7_image_28 : decode cX7_image 28 = .ok (.ireturn, 1) := by decide +kernel
theorem gX7_restore_X7_error : GoodIn wsX7_restore (wsV RX7 76 RX7 yX7_error wsX7_error) := nw_gV nwl_X7_restore nwe_558 nwe_559 nwe_560 nwe_534 nwl_X7_error (by decide +kernel)
theorem gX7_restore_X7_carry : GoodIn wsX7_restore (va_wsS RX7 64 yX7_carry wsX7_carry) := nw_gS nwl_X7_restore nwe_542 nwe_543 nwe_534 nwl_X7_carry (by decide +kernel)
theorem dX7_restore_0 : decode cX7_restore 0 = .ok (.aload_n 0, 1) := by decide +kernel
theorem dX7_restore_1 : decode cX7_restore 1 = .ok (.getfield 265, 3) := by decide +kernel
theorem dX7_restore_4 : decode cX7_restore 4 = .ok (.ifCond .ne 9, 3) := by decide +kernel
theorem dX7_restore_7 : decode cX7_restore 7 = .ok (.aload_n 0, 1) := by decide +kernel
theorem dX7_restore_8 : decode cX7_restore 8 = .ok (.iconst 2, 1) := by decide +kernel
theorem dX7_restore_9 : decode cX7_restore 9 = .ok (.invokevirtual 76, 3) := by decide +kernel
theorem dX7_restore_12 : decode cX7_restore 12 = .ok (.ireturn, 1) := by decide +kernel
theorem dX7_restore_13 : decode cX7_restore 13 = .ok (.aload_n 0, 1) := by decide +kernel
theorem dX7_restore_14 : decode cX7_restore 14 = .ok (.getfield 13, 3) := by decide +kernel
theorem dX7_restore_17 : decode cX7_restore 17 = .ok (.aload_n 0, 1) := by decide +kernel
theorem dX7_restore_18 : decode cX7_restore 18 = .ok (.getfield 7, 3) := by decide +kernel
theorem dX7_restore_21 : decode cX7_restore 21 = .ok (.sipush 455, 3) := by decide +kernel
theorem dX7_restore_24 : decode cX7_restore 24 = .ok (.invokestatic 64, 3) := by decide +kernel
theorem dX7_restore_27 : decode cX7_restore 27 = .ok (.aload_n 0, 1) := by decide +kernel
theorem dX7_restore_28 : decode cX7_restore 28 = .ok (.getfield 7, 3) := by decide +kernel
theorem dX7_restore_31 : decode cX7_restore 31 = .ok (.iconst 0, 1) := by decide +kernel
theorem dX7_restore_32 : decode cX7_restore 32 = .ok (.iaload, 1) := by decide +kernel
theorem dX7_restore_33 : decode cX7_restore 33 = .ok (.ireturn, 1) := by decide +kernel
theorem gX7_tell_X7_error : GoodIn wsX7_tell (wsV RX7 76 RX7 yX7_error wsX7_error) := nw_gV nwl_X7_tell nwe_558 nwe_559 nwe_560 nwe_534 nwl_X7_error (by decide +kernel)
theorem dX7_tell_0 : decode cX7_tell 0 = .ok (.aload_n 0, 1) := by decide +kernel
theorem dX7_tell_1 : decode cX7_tell 1 = .ok (.getfield 7, 3) := by decide +kernel
theorem dX7_tell_4 : decode cX7_tell 4 = .ok (.iconst 5, 1) := by decide +kernel
theorem dX7_tell_5 : decode cX7_tell 5 = .ok (.iaload, 1) := by decide +kernel
theorem dX7_tell_6 : decode cX7_tell 6 = .ok (.bipush 24, 2) := by decide +kernel
theorem dX7_tell_8 : decode cX7_tell 8 = .ok (.if_icmp .ne 9, 3) := by decide +kernel
theorem dX7_tell_11 : decode cX7_tell 11 = .ok (.aload_n 0, 1) := by decide +kernel
theorem dX7_tell_12 : decode cX7_tell 12 = .ok (.iconst 4, 1) := by decide +kernel
theorem dX7_tell_13 : decode cX7_tell 13 = .ok (.invokevirtual 76, 3) := by decide +kernel
theorem dX7_tell_16 : decode cX7_tell 16 = .ok (.ireturn, 1) := by decide +kernel
theorem dX7_tell_17 : decode cX7_tell 17 = .ok (.aload_n 0, 1) := by decide +kernel
theorem dX7_tell_18 : decode cX7_tell 18 = .ok (.getfield 7, 3) := by decide +kernel
theorem dX7_tell_21 : decode cX7_tell 21 = .ok (.sipush 431, 3) := by decide +kernel
theorem dX7_tell_24 : decode cX7_tell 24 = .ok (.aload_n 0, 1) := by decide +kernel
theorem dX7_tell_25 : decode cX7_tell 25 = .ok (.getfield 7, 3) := by decide +kernel
theorem dX7_tell_28 : decode cX7_tell 28 = .ok (.iconst 5, 1) := by decide +kernel
theorem dX7_tell_29 : decode cX7_tell 29 = .ok (.iaload, 1) := by decide +kernel
theorem dX7_tell_30 : decode cX7_tell 30 = .ok (.iadd, 1) := by decide +kernel
theorem dX7_tell_31 : decode cX7_tell 31 = .ok (.iload_n 1, 1) := by decide +kernel
theorem dX7_tell_32 : decode cX7_tell 32 = .ok (.iastore, 1) := by decide +kernel
theorem dX7_tell_33 : decode cX7_tell 33 = .ok (.aload_n 0, 1) := by decide +kernel
theorem dX7_tell_34 : decode cX7_tell 34 = .ok (.getfield 7, 3) := by decide +kernel
theorem dX7_tell_37 : decode cX7_tell 37 = .ok (.iconst 5, 1) := by decide +kernel
theorem dX7_tell_38 : decode cX7_tell 38 = .ok (.dup2, 1) := by decide +kernel
theorem dX7_tell_39 : decode cX7_tell 39 = .ok (.iaload, 1) := by decide +kernel
theorem dX7_tell_40 : decode cX7_tell 40 = .ok (.iconst 1, 1) := by decide +kernel
theorem dX7_tell_41 : decode cX7_tell 41 = .ok (.iadd, 1) := by decide +kernel
theorem dX7_tell_42 : decode cX7_tell 42 = .ok (.iastore, 1) := by decide +kernel
theorem dX7_tell_43 : decode cX7_tell 43 = .ok (.aload_n 0, 1) := by decide +kernel
theorem dX7_tell_44 : decode cX7_tell 44 = .ok (.getfield 7, 3) := by decide +kernel
theorem dX7_tell_47 : decode cX7_tell 47 = .ok (.iconst 5, 1) := by decide +kernel
theorem dX7_tell_48 : decode cX7_tell 48 = .ok (.iaload, 1) := by decide +kernel
theorem dX7_tell_49 : decode cX7_tell 49 = .ok (.ireturn, 1) := by decide +kernel
theorem gX7_check_X7_layDown : GoodIn wsX7_check (wsV RX7 198 RX7 yX7_layDown wsX7_layDown) := nw_gV nwl_X7_check nwe_699 nwe_700 nwe_701 nwe_534 nwl_X7_layDown (by decide +kernel)
theorem gX7_check_X7_day : GoodIn wsX7_check (wsV RX7 169 RX7 yX7_day wsX7_day) := nw_gV nwl_X7_check nwe_657 nwe_658 nwe_659 nwe_534 nwl_X7_day (by decide +kernel)
theorem gX7_check_X7_layBack : GoodIn wsX7_check (wsV RX7 201 RX7 yX7_layBack wsX7_layBack) := nw_gV nwl_X7_check nwe_702 nwe_703 nwe_704 nwe_534 nwl_X7_layBack (by decide +kernel)
theorem dX7_check_0 : decode cX7_check 0 = .ok (.aload_n 0, 1) := by decide +kernel
theorem dX7_check_1 : decode cX7_check 1 = .ok (.getfield 7, 3) := by decide +kernel
theorem dX7_check_4 : decode cX7_check 4 = .ok (.iconst 5, 1) := by decide +kernel
theorem dX7_check_5 : decode cX7_check 5 = .ok (.iaload, 1) := by decide +kernel
theorem dX7_check_6 : decode cX7_check 6 = .ok (.istore_n 1, 1) := by decide +kernel
theorem dX7_check_7 : decode cX7_check 7 = .ok (.aload_n 0, 1) := by decide +kernel
theorem dX7_check_8 : decode cX7_check 8 = .ok (.getfield 7, 3) := by decide +kernel
theorem dX7_check_11 : decode cX7_check 11 = .ok (.iconst 5, 1) := by decide +kernel
theorem dX7_check_12 : decode cX7_check 12 = .ok (.iconst 0, 1) := by decide +kernel
theorem dX7_check_13 : decode cX7_check 13 = .ok (.iastore, 1) := by decide +kernel
theorem dX7_check_14 : decode cX7_check 14 = .ok (.aload_n 0, 1) := by decide +kernel
theorem dX7_check_15 : decode cX7_check 15 = .ok (.invokevirtual 198, 3) := by decide +kernel
theorem dX7_check_18 : decode cX7_check 18 = .ok (.iconst 0, 1) := by decide +kernel
theorem dX7_check_19 : decode cX7_check 19 = .ok (.istore_n 2, 1) := by decide +kernel
theorem dX7_check_20 : decode cX7_check 20 = .ok (.iconst 1, 1) := by decide +kernel
theorem dX7_check_21 : decode cX7_check 21 = .ok (.istore_n 3, 1) := by decide +kernel
theorem dX7_check_22 : decode cX7_check 22 = .ok (.iload_n 2, 1) := by decide +kernel
theorem dX7_check_23 : decode cX7_check 23 = .ok (.iload_n 1, 1) := by decide +kernel
theorem dX7_check_24 : decode cX7_check 24 = .ok (.if_icmp .ge 45, 3) := by decide +kernel
theorem dX7_check_27 : decode cX7_check 27 = .ok (.iload_n 3, 1) := by decide +kernel
theorem dX7_check_28 : decode cX7_check 28 = .ok (.ifCond .eq 41, 3) := by decide +kernel
theorem dX7_check_31 : decode cX7_check 31 = .ok (.aload_n 0, 1) := by decide +kernel
theorem dX7_check_32 : decode cX7_check 32 = .ok (.getfield 7, 3) := by decide +kernel
theorem dX7_check_35 : decode cX7_check 35 = .ok (.sipush 431, 3) := by decide +kernel
theorem dX7_check_38 : decode cX7_check 38 = .ok (.iload_n 2, 1) := by decide +kernel
theorem dX7_check_39 : decode cX7_check 39 = .ok (.iadd, 1) := by decide +kernel
theorem dX7_check_40 : decode cX7_check 40 = .ok (.iaload, 1) := by decide +kernel
theorem dX7_check_41 : decode cX7_check 41 = .ok (.aload_n 0, 1) := by decide +kernel
theorem dX7_check_42 : decode cX7_check 42 = .ok (.invokevirtual 169, 3) := by decide +kernel
theorem dX7_check_45 : decode cX7_check 45 = .ok (.if_icmp .ne 7, 3) := by decide +kernel
theorem dX7_check_48 : decode cX7_check 48 = .ok (.iconst 1, 1) := by decide +kernel
theorem dX7_check_49 : decode cX7_check 49 = .ok (.goto 4, 3) := by decide +kernel
theorem dX7_check_52 : decode cX7_check 52 = .ok (.iconst 0, 1) := by decide +kernel
theorem dX7_check_53 : decode cX7_check 53 = .ok (.istore_n 3, 1) := by decide +kernel
theorem dX7_check_54 : decode cX7_check 54 = .ok (.iload_n 2, 1) := by decide +kernel
theorem dX7_check_55 : decode cX7_check 55 = .ok (.iload_n 3, 1) := by decide +kernel
theorem dX7_check_56 : decode cX7_check 56 = .ok (.ifCond .eq 7, 3) := by decide +kernel
theorem dX7_check_59 : decode cX7_check 59 = .ok (.iconst 1, 1) := by decide +kernel
theorem dX7_check_60 : decode cX7_check 60 = .ok (.goto 4, 3) := by decide +kernel
theorem dX7_check_63 : decode cX7_check 63 = .ok (.iconst 0, 1) := by decide +kernel
theorem dX7_check_64 : decode cX7_check 64 = .ok (.iadd, 1) := by decide +kernel
theorem dX7_check_65 : decode cX7_check 65 = .ok (.istore_n 2, 1) := by decide +kernel
theorem dX7_check_66 : decode cX7_check 66 = .ok (.goto (-44), 3) := by decide +kernel
theorem dX7_check_69 : decode cX7_check 69 = .ok (.aload_n 0, 1) := by decide +kernel
theorem dX7_check_70 : decode cX7_check 70 = .ok (.invokevirtual 201, 3) := by decide +kernel
theorem dX7_check_73 : decode cX7_check 73 = .ok (.iload_n 3, 1) := by decide +kernel
theorem dX7_check_74 : decode cX7_check 74 = .ok (.ifCond .eq 7, 3) := by decide +kernel
theorem dX7_check_77 : decode cX7_check 77 = .ok (.iconst 0, 1) := by decide +kernel
theorem dX7_check_78 : decode cX7_check 78 = .ok (.goto 6, 3) := by decide +kernel
theorem dX7_check_81 : decode cX7_check 81 = .ok (.iconst 1, 1) := by decide +kernel
theorem dX7_check_82 : decode cX7_check 82 = .ok (.iload_n 2, 1) := by decide +kernel
theorem dX7_check_83 : decode cX7_check 83 = .ok (.iadd, 1) := by decide +kernel
theorem dX7_check_84 : decode cX7_check 84 = .ok (.ireturn, 1) := by decide +kernel
theorem gX7_count_X7_whoHas : GoodIn wsX7_count (wsV RX7 154 RX7 yX7_whoHas wsX7_whoHas) := nw_gV nwl_X7_count nwe_641 nwe_642 nwe_643 nwe_534 nwl_X7_whoHas (by decide +kernel)
theorem gX7_count_X7_allUnder : GoodIn wsX7_count (wsV RX7 204 RX7 yX7_allUnder wsX7_allUnder) := nw_gV nwl_X7_count nwe_707 nwe_708 nwe_709 nwe_534 nwl_X7_allUnder (by decide +kernel)
theorem gX7_count_X7_allOf : GoodIn wsX7_count (wsV RX7 210 RX7 yX7_allOf wsX7_allOf) := nw_gV nwl_X7_count nwe_715 nwe_716 nwe_717 nwe_534 nwl_X7_allOf (by decide +kernel)
theorem gX7_count_X7_error : GoodIn wsX7_count (wsV RX7 76 RX7 yX7_error wsX7_error) := nw_gV nwl_X7_count nwe_558 nwe_559 nwe_560 nwe_534 nwl_X7_error (by decide +kernel)
theorem dX7_count_0 : decode cX7_count 0 = .ok (.iload_n 1, 1) := by decide +kernel
theorem dX7_count_1 : decode cX7_count 1 = .ok (.tableswitch 140 0 11 #[63, 70, 75, 82, 89, 96, 101, 107, 113, 120, 127, 132], 63) := by decide +kernel
theorem dX7_count_64 : decode cX7_count 64 = .ok (.aload_n 0, 1) := by decide +kernel
theorem dX7_count_65 : decode cX7_count 65 = .ok (.getfield 7, 3) := by decide +kernel
theorem dX7_count_68 : decode cX7_count 68 = .ok (.iconst 0, 1) := by decide +kernel
theorem dX7_count_69 : decode cX7_count 69 = .ok (.iaload, 1) := by decide +kernel
theorem dX7_count_70 : decode cX7_count 70 = .ok (.ireturn, 1) := by decide +kernel
theorem dX7_count_71 : decode cX7_count 71 = .ok (.aload_n 0, 1) := by decide +kernel
theorem dX7_count_72 : decode cX7_count 72 = .ok (.invokevirtual 154, 3) := by decide +kernel
theorem dX7_count_75 : decode cX7_count 75 = .ok (.ireturn, 1) := by decide +kernel
theorem dX7_count_76 : decode cX7_count 76 = .ok (.aload_n 0, 1) := by decide +kernel
theorem dX7_count_77 : decode cX7_count 77 = .ok (.getfield 7, 3) := by decide +kernel
theorem dX7_count_80 : decode cX7_count 80 = .ok (.iconst 2, 1) := by decide +kernel
theorem dX7_count_81 : decode cX7_count 81 = .ok (.iaload, 1) := by decide +kernel
theorem dX7_count_82 : decode cX7_count 82 = .ok (.ireturn, 1) := by decide +kernel
theorem dX7_count_83 : decode cX7_count 83 = .ok (.aload_n 0, 1) := by decide +kernel
theorem dX7_count_84 : decode cX7_count 84 = .ok (.getfield 7, 3) := by decide +kernel
theorem dX7_count_87 : decode cX7_count 87 = .ok (.iconst 3, 1) := by decide +kernel
theorem dX7_count_88 : decode cX7_count 88 = .ok (.iaload, 1) := by decide +kernel
theorem dX7_count_89 : decode cX7_count 89 = .ok (.ireturn, 1) := by decide +kernel
theorem dX7_count_90 : decode cX7_count 90 = .ok (.aload_n 0, 1) := by decide +kernel
theorem dX7_count_91 : decode cX7_count 91 = .ok (.getfield 7, 3) := by decide +kernel
theorem dX7_count_94 : decode cX7_count 94 = .ok (.iconst 1, 1) := by decide +kernel
theorem dX7_count_95 : decode cX7_count 95 = .ok (.iaload, 1) := by decide +kernel
theorem dX7_count_96 : decode cX7_count 96 = .ok (.ireturn, 1) := by decide +kernel
theorem dX7_count_97 : decode cX7_count 97 = .ok (.aload_n 0, 1) := by decide +kernel
theorem dX7_count_98 : decode cX7_count 98 = .ok (.invokevirtual 204, 3) := by decide +kernel
theorem dX7_count_101 : decode cX7_count 101 = .ok (.ireturn, 1) := by decide +kernel
theorem dX7_count_102 : decode cX7_count 102 = .ok (.aload_n 0, 1) := by decide +kernel
theorem dX7_count_103 : decode cX7_count 103 = .ok (.iconst 2, 1) := by decide +kernel
theorem dX7_count_104 : decode cX7_count 104 = .ok (.invokevirtual 210, 3) := by decide +kernel
theorem dX7_count_107 : decode cX7_count 107 = .ok (.ireturn, 1) := by decide +kernel
theorem dX7_count_108 : decode cX7_count 108 = .ok (.aload_n 0, 1) := by decide +kernel
theorem dX7_count_109 : decode cX7_count 109 = .ok (.iconst 3, 1) := by decide +kernel
theorem dX7_count_110 : decode cX7_count 110 = .ok (.invokevirtual 210, 3) := by decide +kernel
theorem dX7_count_113 : decode cX7_count 113 = .ok (.ireturn, 1) := by decide +kernel
theorem dX7_count_114 : decode cX7_count 114 = .ok (.aload_n 0, 1) := by decide +kernel
theorem dX7_count_115 : decode cX7_count 115 = .ok (.getfield 7, 3) := by decide +kernel
theorem dX7_count_118 : decode cX7_count 118 = .ok (.iconst 4, 1) := by decide +kernel
theorem dX7_count_119 : decode cX7_count 119 = .ok (.iaload, 1) := by decide +kernel
theorem dX7_count_120 : decode cX7_count 120 = .ok (.ireturn, 1) := by decide +kernel
theorem dX7_count_121 : decode cX7_count 121 = .ok (.aload_n 0, 1) := by decide +kernel
theorem dX7_count_122 : decode cX7_count 122 = .ok (.getfield 7, 3) := by decide +kernel
theorem dX7_count_125 : decode cX7_count 125 = .ok (.iconst 5, 1) := by decide +kernel
theorem dX7_count_126 : decode cX7_count 126 = .ok (.iaload, 1) := by decide +kernel
theorem dX7_count_127 : decode cX7_count 127 = .ok (.ireturn, 1) := by decide +kernel
theorem dX7_count_128 : decode cX7_count 128 = .ok (.aload_n 0, 1) := by decide +kernel
theorem dX7_count_129 : decode cX7_count 129 = .ok (.getfield 227, 3) := by decide +kernel
theorem dX7_count_132 : decode cX7_count 132 = .ok (.ireturn, 1) := by decide +kernel
theorem dX7_count_133 : decode cX7_count 133 = .ok (.aload_n 0, 1) := by decide +kernel
theorem dX7_count_134 : decode cX7_count 134 = .ok (.getfield 7, 3) := by decide +kernel
theorem dX7_count_137 : decode cX7_count 137 = .ok (.bipush 6, 2) := by decide +kernel
theorem dX7_count_139 : decode cX7_count 139 = .ok (.iaload, 1) := by decide +kernel
theorem dX7_count_140 : decode cX7_count 140 = .ok (.ireturn, 1) := by decide +kernel
theorem dX7_count_141 : decode cX7_count 141 = .ok (.aload_n 0, 1) := by decide +kernel
theorem dX7_count_142 : decode cX7_count 142 = .ok (.iconst 1, 1) := by decide +kernel
theorem dX7_count_143 : decode cX7_count 143 = .ok (.invokevirtual 76, 3) := by decide +kernel
theorem dX7_count_146 : decode cX7_count 146 = .ok (.ireturn, 1) := by decide +kernel
theorem gX7_told_X7_in : GoodIn wsX7_told (va_wsS RX7 68 yX7_in wsX7_in) := nw_gS nwl_X7_told nwe_546 nwe_547 nwe_534 nwl_X7_in (by decide +kernel)
theorem gX7_told_X7_error : GoodIn wsX7_told (wsV RX7 76 RX7 yX7_error wsX7_error) := nw_gV nwl_X7_told nwe_558 nwe_559 nwe_560 nwe_534 nwl_X7_error (by decide +kernel)
theorem dX7_told_0 : decode cX7_told 0 = .ok (.iload_n 1, 1) := by decide +kernel
theorem dX7_told_1 : decode cX7_told 1 = .ok (.iconst 1, 1) := by decide +kernel
theorem dX7_told_2 : decode cX7_told 2 = .ok (.bipush 6, 2) := by decide +kernel
theorem dX7_told_4 : decode cX7_told 4 = .ok (.invokestatic 68, 3) := by decide +kernel
theorem dX7_told_7 : decode cX7_told 7 = .ok (.ifCond .eq 12, 3) := by decide +kernel
theorem dX7_told_10 : decode cX7_told 10 = .ok (.aload_n 0, 1) := by decide +kernel
theorem dX7_told_11 : decode cX7_told 11 = .ok (.getfield 19, 3) := by decide +kernel
theorem dX7_told_14 : decode cX7_told 14 = .ok (.iload_n 1, 1) := by decide +kernel
theorem dX7_told_15 : decode cX7_told 15 = .ok (.iaload, 1) := by decide +kernel
theorem dX7_told_16 : decode cX7_told 16 = .ok (.goto 8, 3) := by decide +kernel
theorem dX7_told_19 : decode cX7_told 19 = .ok (.aload_n 0, 1) := by decide +kernel
theorem dX7_told_20 : decode cX7_told 20 = .ok (.iconst 1, 1) := by decide +kernel
theorem dX7_told_21 : decode cX7_told 21 = .ok (.invokevirtual 76, 3) := by decide +kernel
theorem dX7_told_24 : decode cX7_told 24 = .ok (.ireturn, 1) := by decide +kernel
theorem gX0_init_X1_init : GoodIn wsX0_init (wsX1_init) := nw_gi nwl_X0_init nwl_X1_init (by decide +kernel)
theorem dX0_init_0 : decode cX0_init 0 = .ok (.aload_n 0, 1) := by decide +kernel
theorem dX0_init_1 : decode cX0_init 1 = .ok (.invokespecial 3, 3) := by decide +kernel
theorem dX0_init_4 : decode cX0_init 4 = .ok (.aload_n 0, 1) := by decide +kernel
theorem dX0_init_5 : decode cX0_init 5 = .ok (.new 9, 3) := by decide +kernel
theorem dX0_init_8 : decode cX0_init 8 = .ok (.dup, 1) := by decide +kernel
theorem dX0_init_9 : decode cX0_init 9 = .ok (.bipush 60, 2) := by decide +kernel
theorem dX0_init_11 : decode cX0_init 11 = .ok (.invokespecial 11, 3) := by decide +kernel
theorem dX0_init_14 : decode cX0_init 14 = .ok (.putfield 14, 3) := by decide +kernel
theorem dX0_init_17 : decode cX0_init 17 = .ok (.aload_n 0, 1) := by decide +kernel
theorem dX0_init_18 : decode cX0_init 18 = .ok (.new 9, 3) := by decide +kernel
theorem dX0_init_21 : decode cX0_init 21 = .ok (.dup, 1) := by decide +kernel
theorem dX0_init_22 : decode cX0_init 22 = .ok (.bipush 60, 2) := by decide +kernel
theorem dX0_init_24 : decode cX0_init 24 = .ok (.invokespecial 11, 3) := by decide +kernel
theorem dX0_init_27 : decode cX0_init 27 = .ok (.putfield 20, 3) := by decide +kernel
theorem dX0_init_30 : decode cX0_init 30 = .ok (.aload_n 0, 1) := by decide +kernel
theorem dX0_init_31 : decode cX0_init 31 = .ok (.iconst 0, 1) := by decide +kernel
theorem dX0_init_32 : decode cX0_init 32 = .ok (.putfield 23, 3) := by decide +kernel
theorem dX0_init_35 : decode cX0_init 35 = .ok (.aload_n 0, 1) := by decide +kernel
theorem dX0_init_36 : decode cX0_init 36 = .ok (.iconst 0, 1) := by decide +kernel
theorem dX0_init_37 : decode cX0_init 37 = .ok (.putfield 27, 3) := by decide +kernel
theorem dX0_init_40 : decode cX0_init 40 = .ok (.return_, 1) := by decide +kernel
theorem gX0_read_X1_takeFrom : GoodIn wsX0_read (wsV RX0 30 RX1 yX1_takeFrom wsX1_takeFrom) := nw_gV nwl_X0_read nwe_157 nwe_158 nwe_159 nwe_87 nwl_X1_takeFrom (by decide +kernel)
theorem gX0_read_X0_either : GoodIn wsX0_read (wsV RX0 37 RX0 yX0_either wsX0_either) := nw_gV nwl_X0_read nwe_139 nwe_140 nwe_141 nwe_114 nwl_X0_either (by decide +kernel)
theorem dX0_read_0 : decode cX0_read 0 = .ok (.aload_n 0, 1) := by decide +kernel
theorem dX0_read_1 : decode cX0_read 1 = .ok (.getfield 20, 3) := by decide +kernel
theorem dX0_read_4 : decode cX0_read 4 = .ok (.aload_n 1, 1) := by decide +kernel
theorem dX0_read_5 : decode cX0_read 5 = .ok (.invokevirtual 30, 3) := by decide +kernel
theorem dX0_read_8 : decode cX0_read 8 = .ok (.aload_n 0, 1) := by decide +kernel
theorem dX0_read_9 : decode cX0_read 9 = .ok (.iconst 3, 1) := by decide +kernel
theorem dX0_read_10 : decode cX0_read 10 = .ok (.iload_n 2, 1) := by decide +kernel
theorem dX0_read_11 : decode cX0_read 11 = .ok (.imul, 1) := by decide +kernel
theorem dX0_read_12 : decode cX0_read 12 = .ok (.putfield 23, 3) := by decide +kernel
theorem dX0_read_15 : decode cX0_read 15 = .ok (.aload_n 0, 1) := by decide +kernel
theorem dX0_read_16 : decode cX0_read 16 = .ok (.iconst 0, 1) := by decide +kernel
theorem dX0_read_17 : decode cX0_read 17 = .ok (.putfield 27, 3) := by decide +kernel
theorem dX0_read_20 : decode cX0_read 20 = .ok (.aload_n 0, 1) := by decide +kernel
theorem dX0_read_21 : decode cX0_read 21 = .ok (.getfield 14, 3) := by decide +kernel
theorem dX0_read_24 : decode cX0_read 24 = .ok (.iconst 0, 1) := by decide +kernel
theorem dX0_read_25 : decode cX0_read 25 = .ok (.putfield 34, 3) := by decide +kernel
theorem dX0_read_28 : decode cX0_read 28 = .ok (.aload_n 0, 1) := by decide +kernel
theorem dX0_read_29 : decode cX0_read 29 = .ok (.iconst 0, 1) := by decide +kernel
theorem dX0_read_30 : decode cX0_read 30 = .ok (.invokevirtual 37, 3) := by decide +kernel
theorem dX0_read_33 : decode cX0_read 33 = .ok (.ifCond .eq 21, 3) := by decide +kernel
theorem dX0_read_36 : decode cX0_read 36 = .ok (.aload_n 0, 1) := by decide +kernel
theorem dX0_read_37 : decode cX0_read 37 = .ok (.getfield 27, 3) := by decide +kernel
theorem dX0_read_40 : decode cX0_read 40 = .ok (.aload_n 0, 1) := by decide +kernel
theorem dX0_read_41 : decode cX0_read 41 = .ok (.getfield 20, 3) := by decide +kernel
theorem dX0_read_44 : decode cX0_read 44 = .ok (.getfield 34, 3) := by decide +kernel
theorem dX0_read_47 : decode cX0_read 47 = .ok (.if_icmp .ne 7, 3) := by decide +kernel
theorem dX0_read_50 : decode cX0_read 50 = .ok (.iconst 1, 1) := by decide +kernel
theorem dX0_read_51 : decode cX0_read 51 = .ok (.goto 4, 3) := by decide +kernel
theorem dX0_read_54 : decode cX0_read 54 = .ok (.iconst 0, 1) := by decide +kernel
theorem dX0_read_55 : decode cX0_read 55 = .ok (.istore_n 3, 1) := by decide +kernel
theorem dX0_read_56 : decode cX0_read 56 = .ok (.iload_n 3, 1) := by decide +kernel
theorem dX0_read_57 : decode cX0_read 57 = .ok (.ifCond .eq 7, 3) := by decide +kernel
theorem dX0_read_60 : decode cX0_read 60 = .ok (.iconst (-1), 1) := by decide +kernel
theorem dX0_read_61 : decode cX0_read 61 = .ok (.goto 7, 3) := by decide +kernel
theorem dX0_read_64 : decode cX0_read 64 = .ok (.aload_n 0, 1) := by decide +kernel
theorem dX0_read_65 : decode cX0_read 65 = .ok (.getfield 27, 3) := by decide +kernel
theorem dX0_read_68 : decode cX0_read 68 = .ok (.ireturn, 1) := by decide +kernel
theorem gX0_sees_X1_at : GoodIn wsX0_sees (wsV RX0 41 RX1 yX1_at wsX1_at) := nw_gV nwl_X0_sees nwe_105 nwe_106 nwe_107 nwe_87 nwl_X1_at (by decide +kernel)
theorem dX0_sees_0 : decode cX0_sees 0 = .ok (.aload_n 0, 1) := by decide +kernel
theorem dX0_sees_1 : decode cX0_sees 1 = .ok (.getfield 27, 3) := by decide +kernel
theorem dX0_sees_4 : decode cX0_sees 4 = .ok (.aload_n 0, 1) := by decide +kernel
theorem dX0_sees_5 : decode cX0_sees 5 = .ok (.getfield 20, 3) := by decide +kernel
theorem dX0_sees_8 : decode cX0_sees 8 = .ok (.getfield 34, 3) := by decide +kernel
theorem dX0_sees_11 : decode cX0_sees 11 = .ok (.if_icmp .ge 22, 3) := by decide +kernel
theorem dX0_sees_14 : decode cX0_sees 14 = .ok (.aload_n 0, 1) := by decide +kernel
theorem dX0_sees_15 : decode cX0_sees 15 = .ok (.getfield 20, 3) := by decide +kernel
theorem dX0_sees_18 : decode cX0_sees 18 = .ok (.aload_n 0, 1) := by decide +kernel
theorem dX0_sees_19 : decode cX0_sees 19 = .ok (.getfield 27, 3) := by decide +kernel
theorem dX0_sees_22 : decode cX0_sees 22 = .ok (.invokevirtual 41, 3) := by decide +kernel
theorem dX0_sees_25 : decode cX0_sees 25 = .ok (.iload_n 1, 1) := by decide +kernel
theorem dX0_sees_26 : decode cX0_sees 26 = .ok (.if_icmp .ne 7, 3) := by decide +kernel
theorem dX0_sees_29 : decode cX0_sees 29 = .ok (.iconst 1, 1) := by decide +kernel
theorem dX0_sees_30 : decode cX0_sees 30 = .ok (.goto 4, 3) := by decide +kernel
theorem dX0_sees_33 : decode cX0_sees 33 = .ok (.iconst 0, 1) := by decide +kernel
theorem dX0_sees_34 : decode cX0_sees 34 = .ok (.ireturn, 1) := by decide +kernel
theorem gX0_seesDigit_X1_at : GoodIn wsX0_seesDigit (wsV RX0 41 RX1 yX1_at wsX1_at) := nw_gV nwl_X0_seesDigit nwe_105 nwe_106 nwe_107 nwe_87 nwl_X1_at (by decide +kernel)
theorem dX0_seesDigit_0 : decode cX0_seesDigit 0 = .ok (.aload_n 0, 1) := by decide +kernel
theorem dX0_seesDigit_1 : decode cX0_seesDigit 1 = .ok (.getfield 27, 3) := by decide +kernel
theorem dX0_seesDigit_4 : decode cX0_seesDigit 4 = .ok (.aload_n 0, 1) := by decide +kernel
theorem dX0_seesDigit_5 : decode cX0_seesDigit 5 = .ok (.getfield 20, 3) := by decide +kernel
theorem dX0_seesDigit_8 : decode cX0_seesDigit 8 = .ok (.getfield 34, 3) := by decide +kernel
theorem dX0_seesDigit_11 : decode cX0_seesDigit 11 = .ok (.if_icmp .ge 39, 3) := by decide +kernel
theorem dX0_seesDigit_14 : decode cX0_seesDigit 14 = .ok (.aload_n 0, 1) := by decide +kernel
theorem dX0_seesDigit_15 : decode cX0_seesDigit 15 = .ok (.getfield 20, 3) := by decide +kernel
theorem dX0_seesDigit_18 : decode cX0_seesDigit 18 = .ok (.aload_n 0, 1) := by decide +kernel
theorem dX0_seesDigit_19 : decode cX0_seesDigit 19 = .ok (.getfield 27, 3) := by decide +kernel
theorem dX0_seesDigit_22 : decode cX0_seesDigit 22 = .ok (.invokevirtual 41, 3) := by decide +kernel
theorem dX0_seesDigit_25 : decode cX0_seesDigit 25 = .ok (.bipush 48, 2) := by decide +kernel
theorem dX0_seesDigit_27 : decode cX0_seesDigit 27 = .ok (.if_icmp .lt 23, 3) := by decide +kernel
theorem dX0_seesDigit_30 : decode cX0_seesDigit 30 = .ok (.aload_n 0, 1) := by decide +kernel
theorem dX0_seesDigit_31 : decode cX0_seesDigit 31 = .ok (.getfield 20, 3) := by decide +kernel
theorem dX0_seesDigit_34 : decode cX0_seesDigit 34 = .ok (.aload_n 0, 1) := by decide +kernel
theorem dX0_seesDigit_35 : decode cX0_seesDigit 35 = .ok (.getfield 27, 3) := by decide +kernel
theorem dX0_seesDigit_38 : decode cX0_seesDigit 38 = .ok (.invokevirtual 41, 3) := by decide +kernel
theorem dX0_seesDigit_41 : decode cX0_seesDigit 41 = .ok (.bipush 57, 2) := by decide +kernel
theorem dX0_seesDigit_43 : decode cX0_seesDigit 43 = .ok (.if_icmp .gt 7, 3) := by decide +kernel
theorem dX0_seesDigit_46 : decode cX0_seesDigit 46 = .ok (.iconst 1, 1) := by decide +kernel
theorem dX0_seesDigit_47 : decode cX0_seesDigit 47 = .ok (.goto 4, 3) := by decide +kernel
theorem dX0_seesDigit_50 : decode cX0_seesDigit 50 = .ok (.iconst 0, 1) := by decide +kernel
theorem dX0_seesDigit_51 : decode cX0_seesDigit 51 = .ok (.ireturn, 1) := by decide +kernel
theorem gX0_either_X0_both : GoodIn wsX0_either (wsV RX0 44 RX0 yX0_both wsX0_both) := nw_gV nwl_X0_either nwe_135 nwe_136 nwe_137 nwe_114 nwl_X0_both (by decide +kernel)
theorem gX0_either_X0_sees : GoodIn wsX0_either (wsV RX0 47 RX0 yX0_sees wsX0_sees) := nw_gV nwl_X0_either nwe_120 nwe_121 nwe_122 nwe_114 nwl_X0_sees (by decide +kernel)
theorem gX0_either_X1_append : GoodIn wsX0_either (wsV RX0 53 RX1 yX1_append wsX1_append) := nw_gV nwl_X0_either nwe_115 nwe_116 nwe_117 nwe_87 nwl_X1_append (by decide +kernel)
theorem dX0_either_0 : decode cX0_either 0 = .ok (.aload_n 0, 1) := by decide +kernel
theorem dX0_either_1 : decode cX0_either 1 = .ok (.iload_n 1, 1) := by decide +kernel
theorem dX0_either_2 : decode cX0_either 2 = .ok (.invokevirtual 44, 3) := by decide +kernel
theorem dX0_either_5 : decode cX0_either 5 = .ok (.ifCond .ne 5, 3) := by decide +kernel
theorem dX0_either_8 : decode cX0_either 8 = .ok (.iconst 0, 1) := by decide +kernel
theorem dX0_either_9 : decode cX0_either 9 = .ok (.ireturn, 1) := by decide +kernel
theorem dX0_either_10 : decode cX0_either 10 = .ok (.aload_n 0, 1) := by decide +kernel
theorem dX0_either_11 : decode cX0_either 11 = .ok (.getfield 27, 3) := by decide +kernel
theorem dX0_either_14 : decode cX0_either 14 = .ok (.aload_n 0, 1) := by decide +kernel
theorem dX0_either_15 : decode cX0_either 15 = .ok (.getfield 20, 3) := by decide +kernel
theorem dX0_either_18 : decode cX0_either 18 = .ok (.getfield 34, 3) := by decide +kernel
theorem dX0_either_21 : decode cX0_either 21 = .ok (.if_icmp .ge 45, 3) := by decide +kernel
theorem dX0_either_24 : decode cX0_either 24 = .ok (.aload_n 0, 1) := by decide +kernel
theorem dX0_either_25 : decode cX0_either 25 = .ok (.bipush 124, 2) := by decide +kernel
theorem dX0_either_27 : decode cX0_either 27 = .ok (.invokevirtual 47, 3) := by decide +kernel
theorem dX0_either_30 : decode cX0_either 30 = .ok (.ifCond .eq 36, 3) := by decide +kernel
theorem dX0_either_33 : decode cX0_either 33 = .ok (.aload_n 0, 1) := by decide +kernel
theorem dX0_either_34 : decode cX0_either 34 = .ok (.dup, 1) := by decide +kernel
theorem dX0_either_35 : decode cX0_either 35 = .ok (.getfield 27, 3) := by decide +kernel
theorem dX0_either_38 : decode cX0_either 38 = .ok (.iconst 1, 1) := by decide +kernel
theorem dX0_either_39 : decode cX0_either 39 = .ok (.iadd, 1) := by decide +kernel
theorem dX0_either_40 : decode cX0_either 40 = .ok (.putfield 27, 3) := by decide +kernel
theorem dX0_either_43 : decode cX0_either 43 = .ok (.aload_n 0, 1) := by decide +kernel
theorem dX0_either_44 : decode cX0_either 44 = .ok (.iload_n 1, 1) := by decide +kernel
theorem dX0_either_45 : decode cX0_either 45 = .ok (.invokevirtual 44, 3) := by decide +kernel
theorem dX0_either_48 : decode cX0_either 48 = .ok (.ifCond .ne 5, 3) := by decide +kernel
theorem dX0_either_51 : decode cX0_either 51 = .ok (.iconst 0, 1) := by decide +kernel
theorem dX0_either_52 : decode cX0_either 52 = .ok (.ireturn, 1) := by decide +kernel
theorem dX0_either_53 : decode cX0_either 53 = .ok (.aload_n 0, 1) := by decide +kernel
theorem dX0_either_54 : decode cX0_either 54 = .ok (.getfield 14, 3) := by decide +kernel
theorem dX0_either_57 : decode cX0_either 57 = .ok (.sipush 20124, 3) := by decide +kernel
theorem dX0_either_60 : decode cX0_either 60 = .ok (.invokevirtual 53, 3) := by decide +kernel
theorem dX0_either_63 : decode cX0_either 63 = .ok (.goto (-53), 3) := by decide +kernel
theorem dX0_either_66 : decode cX0_either 66 = .ok (.iconst 1, 1) := by decide +kernel
theorem dX0_either_67 : decode cX0_either 67 = .ok (.ireturn, 1) := by decide +kernel
theorem gX0_both_X0_compared : GoodIn wsX0_both (wsV RX0 56 RX0 yX0_compared wsX0_compared) := nw_gV nwl_X0_both nwe_127 nwe_128 nwe_129 nwe_114 nwl_X0_compared (by decide +kernel)
theorem gX0_both_X0_sees : GoodIn wsX0_both (wsV RX0 47 RX0 yX0_sees wsX0_sees) := nw_gV nwl_X0_both nwe_120 nwe_121 nwe_122 nwe_114 nwl_X0_sees (by decide +kernel)
theorem gX0_both_X1_append : GoodIn wsX0_both (wsV RX0 53 RX1 yX1_append wsX1_append) := nw_gV nwl_X0_both nwe_115 nwe_116 nwe_117 nwe_87 nwl_X1_append (by decide +kernel)
theorem dX0_both_0 : decode cX0_both 0 = .ok (.aload_n 0, 1) := by decide +kernel
theorem dX0_both_1 : decode cX0_both 1 = .ok (.iload_n 1, 1) := by decide +kernel
theorem dX0_both_2 : decode cX0_both 2 = .ok (.invokevirtual 56, 3) := by decide +kernel
theorem dX0_both_5 : decode cX0_both 5 = .ok (.ifCond .ne 5, 3) := by decide +kernel
theorem dX0_both_8 : decode cX0_both 8 = .ok (.iconst 0, 1) := by decide +kernel
theorem dX0_both_9 : decode cX0_both 9 = .ok (.ireturn, 1) := by decide +kernel
theorem dX0_both_10 : decode cX0_both 10 = .ok (.aload_n 0, 1) := by decide +kernel
theorem dX0_both_11 : decode cX0_both 11 = .ok (.getfield 27, 3) := by decide +kernel
theorem dX0_both_14 : decode cX0_both 14 = .ok (.aload_n 0, 1) := by decide +kernel
theorem dX0_both_15 : decode cX0_both 15 = .ok (.getfield 20, 3) := by decide +kernel
theorem dX0_both_18 : decode cX0_both 18 = .ok (.getfield 34, 3) := by decide +kernel
theorem dX0_both_21 : decode cX0_both 21 = .ok (.if_icmp .ge 45, 3) := by decide +kernel
theorem dX0_both_24 : decode cX0_both 24 = .ok (.aload_n 0, 1) := by decide +kernel
theorem dX0_both_25 : decode cX0_both 25 = .ok (.bipush 38, 2) := by decide +kernel
theorem dX0_both_27 : decode cX0_both 27 = .ok (.invokevirtual 47, 3) := by decide +kernel
theorem dX0_both_30 : decode cX0_both 30 = .ok (.ifCond .eq 36, 3) := by decide +kernel
theorem dX0_both_33 : decode cX0_both 33 = .ok (.aload_n 0, 1) := by decide +kernel
theorem dX0_both_34 : decode cX0_both 34 = .ok (.dup, 1) := by decide +kernel
theorem dX0_both_35 : decode cX0_both 35 = .ok (.getfield 27, 3) := by decide +kernel
theorem dX0_both_38 : decode cX0_both 38 = .ok (.iconst 1, 1) := by decide +kernel
theorem dX0_both_39 : decode cX0_both 39 = .ok (.iadd, 1) := by decide +kernel
theorem dX0_both_40 : decode cX0_both 40 = .ok (.putfield 27, 3) := by decide +kernel
theorem dX0_both_43 : decode cX0_both 43 = .ok (.aload_n 0, 1) := by decide +kernel
theorem dX0_both_44 : decode cX0_both 44 = .ok (.iload_n 1, 1) := by decide +kernel
theorem dX0_both_45 : decode cX0_both 45 = .ok (.invokevirtual 56, 3) := by decide +kernel
theorem dX0_both_48 : decode cX0_both 48 = .ok (.ifCond .ne 5, 3) := by decide +kernel
theorem dX0_both_51 : decode cX0_both 51 = .ok (.iconst 0, 1) := by decide +kernel
theorem dX0_both_52 : decode cX0_both 52 = .ok (.ireturn, 1) := by decide +kernel
theorem dX0_both_53 : decode cX0_both 53 = .ok (.aload_n 0, 1) := by decide +kernel
theorem dX0_both_54 : decode cX0_both 54 = .ok (.getfield 14, 3) := by decide +kernel
theorem dX0_both_57 : decode cX0_both 57 = .ok (.sipush 20038, 3) := by decide +kernel
theorem dX0_both_60 : decode cX0_both 60 = .ok (.invokevirtual 53, 3) := by decide +kernel
theorem dX0_both_63 : decode cX0_both 63 = .ok (.goto (-53), 3) := by decide +kernel
theorem dX0_both_66 : decode cX0_both 66 = .ok (.iconst 1, 1) := by decide +kernel
theorem dX0_both_67 : decode cX0_both 67 = .ok (.ireturn, 1) := by decide +kernel
theorem gX0_compared_X0_added : GoodIn wsX0_compared (wsV RX0 59 RX0 yX0_added wsX0_added) := nw_gV nwl_X0_compared nwe_131 nwe_132 nwe_133 nwe_114 nwl_X0_added (by decide +kernel)
theorem gX0_compared_X0_sees : GoodIn wsX0_compared (wsV RX0 47 RX0 yX0_sees wsX0_sees) := nw_gV nwl_X0_compared nwe_120 nwe_121 nwe_122 nwe_114 nwl_X0_sees (by decide +kernel)
theorem gX0_compared_X1_at : GoodIn wsX0_compared (wsV RX0 41 RX1 yX1_at wsX1_at) := nw_gV nwl_X0_compared nwe_105 nwe_106 nwe_107 nwe_87 nwl_X1_at (by decide +kernel)
theorem gX0_compared_X1_append : GoodIn wsX0_compared (wsV RX0 53 RX1 yX1_append wsX1_append) := nw_gV nwl_X0_compared nwe_115 nwe_116 nwe_117 nwe_87 nwl_X1_append (by decide +kernel)
theorem dX0_compared_0 : decode cX0_compared 0 = .ok (.aload_n 0, 1) := by decide +kernel
theorem dX0_compared_1 : decode cX0_compared 1 = .ok (.iload_n 1, 1) := by decide +kernel
theorem dX0_compared_2 : decode cX0_compared 2 = .ok (.invokevirtual 59, 3) := by decide +kernel
theorem dX0_compared_5 : decode cX0_compared 5 = .ok (.ifCond .ne 5, 3) := by decide +kernel
theorem dX0_compared_8 : decode cX0_compared 8 = .ok (.iconst 0, 1) := by decide +kernel
theorem dX0_compared_9 : decode cX0_compared 9 = .ok (.ireturn, 1) := by decide +kernel
theorem dX0_compared_10 : decode cX0_compared 10 = .ok (.aload_n 0, 1) := by decide +kernel
theorem dX0_compared_11 : decode cX0_compared 11 = .ok (.bipush 60, 2) := by decide +kernel
theorem dX0_compared_13 : decode cX0_compared 13 = .ok (.invokevirtual 47, 3) := by decide +kernel
theorem dX0_compared_16 : decode cX0_compared 16 = .ok (.ifCond .ne 21, 3) := by decide +kernel
theorem dX0_compared_19 : decode cX0_compared 19 = .ok (.aload_n 0, 1) := by decide +kernel
theorem dX0_compared_20 : decode cX0_compared 20 = .ok (.bipush 61, 2) := by decide +kernel
theorem dX0_compared_22 : decode cX0_compared 22 = .ok (.invokevirtual 47, 3) := by decide +kernel
theorem dX0_compared_25 : decode cX0_compared 25 = .ok (.ifCond .ne 12, 3) := by decide +kernel
theorem dX0_compared_28 : decode cX0_compared 28 = .ok (.aload_n 0, 1) := by decide +kernel
theorem dX0_compared_29 : decode cX0_compared 29 = .ok (.bipush 62, 2) := by decide +kernel
theorem dX0_compared_31 : decode cX0_compared 31 = .ok (.invokevirtual 47, 3) := by decide +kernel
theorem dX0_compared_34 : decode cX0_compared 34 = .ok (.ifCond .eq 47, 3) := by decide +kernel
theorem dX0_compared_37 : decode cX0_compared 37 = .ok (.aload_n 0, 1) := by decide +kernel
theorem dX0_compared_38 : decode cX0_compared 38 = .ok (.getfield 20, 3) := by decide +kernel
theorem dX0_compared_41 : decode cX0_compared 41 = .ok (.aload_n 0, 1) := by decide +kernel
theorem dX0_compared_42 : decode cX0_compared 42 = .ok (.getfield 27, 3) := by decide +kernel
theorem dX0_compared_45 : decode cX0_compared 45 = .ok (.invokevirtual 41, 3) := by decide +kernel
theorem dX0_compared_48 : decode cX0_compared 48 = .ok (.istore_n 2, 1) := by decide +kernel
theorem dX0_compared_49 : decode cX0_compared 49 = .ok (.aload_n 0, 1) := by decide +kernel
theorem dX0_compared_50 : decode cX0_compared 50 = .ok (.dup, 1) := by decide +kernel
theorem dX0_compared_51 : decode cX0_compared 51 = .ok (.getfield 27, 3) := by decide +kernel
theorem dX0_compared_54 : decode cX0_compared 54 = .ok (.iconst 1, 1) := by decide +kernel
theorem dX0_compared_55 : decode cX0_compared 55 = .ok (.iadd, 1) := by decide +kernel
theorem dX0_compared_56 : decode cX0_compared 56 = .ok (.putfield 27, 3) := by decide +kernel
theorem dX0_compared_59 : decode cX0_compared 59 = .ok (.aload_n 0, 1) := by decide +kernel
theorem dX0_compared_60 : decode cX0_compared 60 = .ok (.iload_n 1, 1) := by decide +kernel
theorem dX0_compared_61 : decode cX0_compared 61 = .ok (.invokevirtual 59, 3) := by decide +kernel
theorem dX0_compared_64 : decode cX0_compared 64 = .ok (.ifCond .ne 5, 3) := by decide +kernel
theorem dX0_compared_67 : decode cX0_compared 67 = .ok (.iconst 0, 1) := by decide +kernel
theorem dX0_compared_68 : decode cX0_compared 68 = .ok (.ireturn, 1) := by decide +kernel
theorem dX0_compared_69 : decode cX0_compared 69 = .ok (.aload_n 0, 1) := by decide +kernel
theorem dX0_compared_70 : decode cX0_compared 70 = .ok (.getfield 14, 3) := by decide +kernel
theorem dX0_compared_73 : decode cX0_compared 73 = .ok (.sipush 20000, 3) := by decide +kernel
theorem dX0_compared_76 : decode cX0_compared 76 = .ok (.iload_n 2, 1) := by decide +kernel
theorem dX0_compared_77 : decode cX0_compared 77 = .ok (.iadd, 1) := by decide +kernel
theorem dX0_compared_78 : decode cX0_compared 78 = .ok (.invokevirtual 53, 3) := by decide +kernel
theorem dX0_compared_81 : decode cX0_compared 81 = .ok (.iconst 1, 1) := by decide +kernel
theorem dX0_compared_82 : decode cX0_compared 82 = .ok (.ireturn, 1) := by decide +kernel
theorem gX0_added_X0_multiplied : GoodIn wsX0_added (wsV RX0 62 RX0 yX0_multiplied wsX0_multiplied) := nw_gV nwl_X0_added nwe_123 nwe_124 nwe_125 nwe_114 nwl_X0_multiplied (by decide +kernel)
theorem gX0_added_X0_sees : GoodIn wsX0_added (wsV RX0 47 RX0 yX0_sees wsX0_sees) := nw_gV nwl_X0_added nwe_120 nwe_121 nwe_122 nwe_114 nwl_X0_sees (by decide +kernel)
theorem gX0_added_X1_at : GoodIn wsX0_added (wsV RX0 41 RX1 yX1_at wsX1_at) := nw_gV nwl_X0_added nwe_105 nwe_106 nwe_107 nwe_87 nwl_X1_at (by decide +kernel)
theorem gX0_added_X1_append : GoodIn wsX0_added (wsV RX0 53 RX1 yX1_append wsX1_append) := nw_gV nwl_X0_added nwe_115 nwe_116 nwe_117 nwe_87 nwl_X1_append (by decide +kernel)
theorem dX0_added_0 : decode cX0_added 0 = .ok (.aload_n 0, 1) := by decide +kernel
theorem dX0_added_1 : decode cX0_added 1 = .ok (.iload_n 1, 1) := by decide +kernel
theorem dX0_added_2 : decode cX0_added 2 = .ok (.invokevirtual 62, 3) := by decide +kernel
theorem dX0_added_5 : decode cX0_added 5 = .ok (.ifCond .ne 5, 3) := by decide +kernel
theorem dX0_added_8 : decode cX0_added 8 = .ok (.iconst 0, 1) := by decide +kernel
theorem dX0_added_9 : decode cX0_added 9 = .ok (.ireturn, 1) := by decide +kernel
theorem dX0_added_10 : decode cX0_added 10 = .ok (.aload_n 0, 1) := by decide +kernel
theorem dX0_added_11 : decode cX0_added 11 = .ok (.getfield 27, 3) := by decide +kernel
theorem dX0_added_14 : decode cX0_added 14 = .ok (.aload_n 0, 1) := by decide +kernel
theorem dX0_added_15 : decode cX0_added 15 = .ok (.getfield 20, 3) := by decide +kernel
theorem dX0_added_18 : decode cX0_added 18 = .ok (.getfield 34, 3) := by decide +kernel
theorem dX0_added_21 : decode cX0_added 21 = .ok (.if_icmp .ge 68, 3) := by decide +kernel
theorem dX0_added_24 : decode cX0_added 24 = .ok (.aload_n 0, 1) := by decide +kernel
theorem dX0_added_25 : decode cX0_added 25 = .ok (.bipush 43, 2) := by decide +kernel
theorem dX0_added_27 : decode cX0_added 27 = .ok (.invokevirtual 47, 3) := by decide +kernel
theorem dX0_added_30 : decode cX0_added 30 = .ok (.ifCond .ne 12, 3) := by decide +kernel
theorem dX0_added_33 : decode cX0_added 33 = .ok (.aload_n 0, 1) := by decide +kernel
theorem dX0_added_34 : decode cX0_added 34 = .ok (.bipush 45, 2) := by decide +kernel
theorem dX0_added_36 : decode cX0_added 36 = .ok (.invokevirtual 47, 3) := by decide +kernel
theorem dX0_added_39 : decode cX0_added 39 = .ok (.ifCond .eq 50, 3) := by decide +kernel
theorem dX0_added_42 : decode cX0_added 42 = .ok (.aload_n 0, 1) := by decide +kernel
theorem dX0_added_43 : decode cX0_added 43 = .ok (.getfield 20, 3) := by decide +kernel
theorem dX0_added_46 : decode cX0_added 46 = .ok (.aload_n 0, 1) := by decide +kernel
theorem dX0_added_47 : decode cX0_added 47 = .ok (.getfield 27, 3) := by decide +kernel
theorem dX0_added_50 : decode cX0_added 50 = .ok (.invokevirtual 41, 3) := by decide +kernel
theorem dX0_added_53 : decode cX0_added 53 = .ok (.istore_n 2, 1) := by decide +kernel
theorem dX0_added_54 : decode cX0_added 54 = .ok (.aload_n 0, 1) := by decide +kernel
theorem dX0_added_55 : decode cX0_added 55 = .ok (.dup, 1) := by decide +kernel
theorem dX0_added_56 : decode cX0_added 56 = .ok (.getfield 27, 3) := by decide +kernel
theorem dX0_added_59 : decode cX0_added 59 = .ok (.iconst 1, 1) := by decide +kernel
theorem dX0_added_60 : decode cX0_added 60 = .ok (.iadd, 1) := by decide +kernel
theorem dX0_added_61 : decode cX0_added 61 = .ok (.putfield 27, 3) := by decide +kernel
theorem dX0_added_64 : decode cX0_added 64 = .ok (.aload_n 0, 1) := by decide +kernel
theorem dX0_added_65 : decode cX0_added 65 = .ok (.iload_n 1, 1) := by decide +kernel
theorem dX0_added_66 : decode cX0_added 66 = .ok (.invokevirtual 62, 3) := by decide +kernel
theorem dX0_added_69 : decode cX0_added 69 = .ok (.ifCond .ne 5, 3) := by decide +kernel
theorem dX0_added_72 : decode cX0_added 72 = .ok (.iconst 0, 1) := by decide +kernel
theorem dX0_added_73 : decode cX0_added 73 = .ok (.ireturn, 1) := by decide +kernel
theorem dX0_added_74 : decode cX0_added 74 = .ok (.aload_n 0, 1) := by decide +kernel
theorem dX0_added_75 : decode cX0_added 75 = .ok (.getfield 14, 3) := by decide +kernel
theorem dX0_added_78 : decode cX0_added 78 = .ok (.sipush 20000, 3) := by decide +kernel
theorem dX0_added_81 : decode cX0_added 81 = .ok (.iload_n 2, 1) := by decide +kernel
theorem dX0_added_82 : decode cX0_added 82 = .ok (.iadd, 1) := by decide +kernel
theorem dX0_added_83 : decode cX0_added 83 = .ok (.invokevirtual 53, 3) := by decide +kernel
theorem dX0_added_86 : decode cX0_added 86 = .ok (.goto (-76), 3) := by decide +kernel
theorem dX0_added_89 : decode cX0_added 89 = .ok (.iconst 1, 1) := by decide +kernel
theorem dX0_added_90 : decode cX0_added 90 = .ok (.ireturn, 1) := by decide +kernel
theorem gX0_multiplied_X0_single : GoodIn wsX0_multiplied (wsV RX0 65 RX0 yX0_single wsX0_single) := nw_gV nwl_X0_multiplied nwe_143 nwe_144 nwe_145 nwe_114 nwl_X0_single (by decide +kernel)
theorem gX0_multiplied_X0_sees : GoodIn wsX0_multiplied (wsV RX0 47 RX0 yX0_sees wsX0_sees) := nw_gV nwl_X0_multiplied nwe_120 nwe_121 nwe_122 nwe_114 nwl_X0_sees (by decide +kernel)
theorem gX0_multiplied_X1_at : GoodIn wsX0_multiplied (wsV RX0 41 RX1 yX1_at wsX1_at) := nw_gV nwl_X0_multiplied nwe_105 nwe_106 nwe_107 nwe_87 nwl_X1_at (by decide +kernel)
theorem gX0_multiplied_X1_append : GoodIn wsX0_multiplied (wsV RX0 53 RX1 yX1_append wsX1_append) := nw_gV nwl_X0_multiplied nwe_115 nwe_116 nwe_117 nwe_87 nwl_X1_append (by decide +kernel)
theorem dX0_multiplied_0 : decode cX0_multiplied 0 = .ok (.aload_n 0, 1) := by decide +kernel
theorem dX0_multiplied_1 : decode cX0_multiplied 1 = .ok (.iload_n 1, 1) := by decide +kernel
theorem dX0_multiplied_2 : decode cX0_multiplied 2 = .ok (.invokevirtual 65, 3) := by decide +kernel
theorem dX0_multiplied_5 : decode cX0_multiplied 5 = .ok (.ifCond .ne 5, 3) := by decide +kernel
theorem dX0_multiplied_8 : decode cX0_multiplied 8 = .ok (.iconst 0, 1) := by decide +kernel
theorem dX0_multiplied_9 : decode cX0_multiplied 9 = .ok (.ireturn, 1) := by decide +kernel
theorem dX0_multiplied_10 : decode cX0_multiplied 10 = .ok (.aload_n 0, 1) := by decide +kernel
theorem dX0_multiplied_11 : decode cX0_multiplied 11 = .ok (.getfield 27, 3) := by decide +kernel
theorem dX0_multiplied_14 : decode cX0_multiplied 14 = .ok (.aload_n 0, 1) := by decide +kernel
theorem dX0_multiplied_15 : decode cX0_multiplied 15 = .ok (.getfield 20, 3) := by decide +kernel
theorem dX0_multiplied_18 : decode cX0_multiplied 18 = .ok (.getfield 34, 3) := by decide +kernel
theorem dX0_multiplied_21 : decode cX0_multiplied 21 = .ok (.if_icmp .ge 77, 3) := by decide +kernel
theorem dX0_multiplied_24 : decode cX0_multiplied 24 = .ok (.aload_n 0, 1) := by decide +kernel
theorem dX0_multiplied_25 : decode cX0_multiplied 25 = .ok (.bipush 42, 2) := by decide +kernel
theorem dX0_multiplied_27 : decode cX0_multiplied 27 = .ok (.invokevirtual 47, 3) := by decide +kernel
theorem dX0_multiplied_30 : decode cX0_multiplied 30 = .ok (.ifCond .ne 21, 3) := by decide +kernel
theorem dX0_multiplied_33 : decode cX0_multiplied 33 = .ok (.aload_n 0, 1) := by decide +kernel
theorem dX0_multiplied_34 : decode cX0_multiplied 34 = .ok (.bipush 47, 2) := by decide +kernel
theorem dX0_multiplied_36 : decode cX0_multiplied 36 = .ok (.invokevirtual 47, 3) := by decide +kernel
theorem dX0_multiplied_39 : decode cX0_multiplied 39 = .ok (.ifCond .ne 12, 3) := by decide +kernel
theorem dX0_multiplied_42 : decode cX0_multiplied 42 = .ok (.aload_n 0, 1) := by decide +kernel
theorem dX0_multiplied_43 : decode cX0_multiplied 43 = .ok (.bipush 37, 2) := by decide +kernel
theorem dX0_multiplied_45 : decode cX0_multiplied 45 = .ok (.invokevirtual 47, 3) := by decide +kernel
theorem dX0_multiplied_48 : decode cX0_multiplied 48 = .ok (.ifCond .eq 50, 3) := by decide +kernel
theorem dX0_multiplied_51 : decode cX0_multiplied 51 = .ok (.aload_n 0, 1) := by decide +kernel
theorem dX0_multiplied_52 : decode cX0_multiplied 52 = .ok (.getfield 20, 3) := by decide +kernel
theorem dX0_multiplied_55 : decode cX0_multiplied 55 = .ok (.aload_n 0, 1) := by decide +kernel
theorem dX0_multiplied_56 : decode cX0_multiplied 56 = .ok (.getfield 27, 3) := by decide +kernel
theorem dX0_multiplied_59 : decode cX0_multiplied 59 = .ok (.invokevirtual 41, 3) := by decide +kernel
theorem dX0_multiplied_62 : decode cX0_multiplied 62 = .ok (.istore_n 2, 1) := by decide +kernel
theorem dX0_multiplied_63 : decode cX0_multiplied 63 = .ok (.aload_n 0, 1) := by decide +kernel
theorem dX0_multiplied_64 : decode cX0_multiplied 64 = .ok (.dup, 1) := by decide +kernel
theorem dX0_multiplied_65 : decode cX0_multiplied 65 = .ok (.getfield 27, 3) := by decide +kernel
theorem dX0_multiplied_68 : decode cX0_multiplied 68 = .ok (.iconst 1, 1) := by decide +kernel
theorem dX0_multiplied_69 : decode cX0_multiplied 69 = .ok (.iadd, 1) := by decide +kernel
theorem dX0_multiplied_70 : decode cX0_multiplied 70 = .ok (.putfield 27, 3) := by decide +kernel
theorem dX0_multiplied_73 : decode cX0_multiplied 73 = .ok (.aload_n 0, 1) := by decide +kernel
theorem dX0_multiplied_74 : decode cX0_multiplied 74 = .ok (.iload_n 1, 1) := by decide +kernel
theorem dX0_multiplied_75 : decode cX0_multiplied 75 = .ok (.invokevirtual 65, 3) := by decide +kernel
theorem dX0_multiplied_78 : decode cX0_multiplied 78 = .ok (.ifCond .ne 5, 3) := by decide +kernel
theorem dX0_multiplied_81 : decode cX0_multiplied 81 = .ok (.iconst 0, 1) := by decide +kernel
theorem dX0_multiplied_82 : decode cX0_multiplied 82 = .ok (.ireturn, 1) := by decide +kernel
theorem dX0_multiplied_83 : decode cX0_multiplied 83 = .ok (.aload_n 0, 1) := by decide +kernel
theorem dX0_multiplied_84 : decode cX0_multiplied 84 = .ok (.getfield 14, 3) := by decide +kernel
theorem dX0_multiplied_87 : decode cX0_multiplied 87 = .ok (.sipush 20000, 3) := by decide +kernel
theorem dX0_multiplied_90 : decode cX0_multiplied 90 = .ok (.iload_n 2, 1) := by decide +kernel
theorem dX0_multiplied_91 : decode cX0_multiplied 91 = .ok (.iadd, 1) := by decide +kernel
theorem dX0_multiplied_92 : decode cX0_multiplied 92 = .ok (.invokevirtual 53, 3) := by decide +kernel
theorem dX0_multiplied_95 : decode cX0_multiplied 95 = .ok (.goto (-85), 3) := by decide +kernel
theorem dX0_multiplied_98 : decode cX0_multiplied 98 = .ok (.iconst 1, 1) := by decide +kernel
theorem dX0_multiplied_99 : decode cX0_multiplied 99 = .ok (.ireturn, 1) := by decide +kernel
theorem gX0_single_X0_seesDigit : GoodIn wsX0_single (wsV RX0 68 RX0 yX0_seesDigit wsX0_seesDigit) := nw_gV nwl_X0_single nwe_111 nwe_112 nwe_113 nwe_114 nwl_X0_seesDigit (by decide +kernel)
theorem gX0_single_X0_number : GoodIn wsX0_single (wsV RX0 72 RX0 yX0_number wsX0_number) := nw_gV nwl_X0_single nwe_147 nwe_148 nwe_149 nwe_114 nwl_X0_number (by decide +kernel)
theorem gX0_single_X0_readsName : GoodIn wsX0_single (wsV RX0 75 RX0 yX0_readsName wsX0_readsName) := nw_gV nwl_X0_single nwe_150 nwe_151 nwe_152 nwe_114 nwl_X0_readsName (by decide +kernel)
theorem gX0_single_X0_sees : GoodIn wsX0_single (wsV RX0 47 RX0 yX0_sees wsX0_sees) := nw_gV nwl_X0_single nwe_120 nwe_121 nwe_122 nwe_114 nwl_X0_sees (by decide +kernel)
theorem gX0_single_X0_single : GoodIn wsX0_single (wsV RX0 65 RX0 yX0_single wsX0_single) := nw_gV nwl_X0_single nwe_143 nwe_144 nwe_145 nwe_114 nwl_X0_single (by decide +kernel)
theorem gX0_single_X1_append : GoodIn wsX0_single (wsV RX0 53 RX1 yX1_append wsX1_append) := nw_gV nwl_X0_single nwe_115 nwe_116 nwe_117 nwe_87 nwl_X1_append (by decide +kernel)
theorem gX0_single_X0_enclosed : GoodIn wsX0_single (wsV RX0 78 RX0 yX0_enclosed wsX0_enclosed) := nw_gV nwl_X0_single nwe_153 nwe_154 nwe_155 nwe_114 nwl_X0_enclosed (by decide +kernel)
theorem dX0_single_0 : decode cX0_single 0 = .ok (.aload_n 0, 1) := by decide +kernel
theorem dX0_single_1 : decode cX0_single 1 = .ok (.invokevirtual 68, 3) := by decide +kernel
theorem dX0_single_4 : decode cX0_single 4 = .ok (.ifCond .eq 9, 3) := by decide +kernel
theorem dX0_single_7 : decode cX0_single 7 = .ok (.aload_n 0, 1) := by decide +kernel
theorem dX0_single_8 : decode cX0_single 8 = .ok (.invokevirtual 72, 3) := by decide +kernel
theorem dX0_single_11 : decode cX0_single 11 = .ok (.iconst 1, 1) := by decide +kernel
theorem dX0_single_12 : decode cX0_single 12 = .ok (.ireturn, 1) := by decide +kernel
theorem dX0_single_13 : decode cX0_single 13 = .ok (.aload_n 0, 1) := by decide +kernel
theorem dX0_single_14 : decode cX0_single 14 = .ok (.invokevirtual 75, 3) := by decide +kernel
theorem dX0_single_17 : decode cX0_single 17 = .ok (.ifCond .eq 5, 3) := by decide +kernel
theorem dX0_single_20 : decode cX0_single 20 = .ok (.iconst 1, 1) := by decide +kernel
theorem dX0_single_21 : decode cX0_single 21 = .ok (.ireturn, 1) := by decide +kernel
theorem dX0_single_22 : decode cX0_single 22 = .ok (.iload_n 1, 1) := by decide +kernel
theorem dX0_single_23 : decode cX0_single 23 = .ok (.iconst 5, 1) := by decide +kernel
theorem dX0_single_24 : decode cX0_single 24 = .ok (.if_icmp .lt 5, 3) := by decide +kernel
theorem dX0_single_27 : decode cX0_single 27 = .ok (.iconst 0, 1) := by decide +kernel
theorem dX0_single_28 : decode cX0_single 28 = .ok (.ireturn, 1) := by decide +kernel
theorem dX0_single_29 : decode cX0_single 29 = .ok (.aload_n 0, 1) := by decide +kernel
theorem dX0_single_30 : decode cX0_single 30 = .ok (.bipush 33, 2) := by decide +kernel
theorem dX0_single_32 : decode cX0_single 32 = .ok (.invokevirtual 47, 3) := by decide +kernel
theorem dX0_single_35 : decode cX0_single 35 = .ok (.ifCond .eq 37, 3) := by decide +kernel
theorem dX0_single_38 : decode cX0_single 38 = .ok (.aload_n 0, 1) := by decide +kernel
theorem dX0_single_39 : decode cX0_single 39 = .ok (.dup, 1) := by decide +kernel
theorem dX0_single_40 : decode cX0_single 40 = .ok (.getfield 27, 3) := by decide +kernel
theorem dX0_single_43 : decode cX0_single 43 = .ok (.iconst 1, 1) := by decide +kernel
theorem dX0_single_44 : decode cX0_single 44 = .ok (.iadd, 1) := by decide +kernel
theorem dX0_single_45 : decode cX0_single 45 = .ok (.putfield 27, 3) := by decide +kernel
theorem dX0_single_48 : decode cX0_single 48 = .ok (.aload_n 0, 1) := by decide +kernel
theorem dX0_single_49 : decode cX0_single 49 = .ok (.iload_n 1, 1) := by decide +kernel
theorem dX0_single_50 : decode cX0_single 50 = .ok (.iconst 1, 1) := by decide +kernel
theorem dX0_single_51 : decode cX0_single 51 = .ok (.iadd, 1) := by decide +kernel
theorem dX0_single_52 : decode cX0_single 52 = .ok (.invokevirtual 65, 3) := by decide +kernel
theorem dX0_single_55 : decode cX0_single 55 = .ok (.ifCond .ne 5, 3) := by decide +kernel
theorem dX0_single_58 : decode cX0_single 58 = .ok (.iconst 0, 1) := by decide +kernel
theorem dX0_single_59 : decode cX0_single 59 = .ok (.ireturn, 1) := by decide +kernel
theorem dX0_single_60 : decode cX0_single 60 = .ok (.aload_n 0, 1) := by decide +kernel
theorem dX0_single_61 : decode cX0_single 61 = .ok (.getfield 14, 3) := by decide +kernel
theorem dX0_single_64 : decode cX0_single 64 = .ok (.sipush 20033, 3) := by decide +kernel
theorem dX0_single_67 : decode cX0_single 67 = .ok (.invokevirtual 53, 3) := by decide +kernel
theorem dX0_single_70 : decode cX0_single 70 = .ok (.iconst 1, 1) := by decide +kernel
theorem dX0_single_71 : decode cX0_single 71 = .ok (.ireturn, 1) := by decide +kernel
theorem dX0_single_72 : decode cX0_single 72 = .ok (.aload_n 0, 1) := by decide +kernel
theorem dX0_single_73 : decode cX0_single 73 = .ok (.bipush 40, 2) := by decide +kernel
theorem dX0_single_75 : decode cX0_single 75 = .ok (.invokevirtual 47, 3) := by decide +kernel
theorem dX0_single_78 : decode cX0_single 78 = .ok (.ifCond .eq 17, 3) := by decide +kernel
theorem dX0_single_81 : decode cX0_single 81 = .ok (.aload_n 0, 1) := by decide +kernel
theorem dX0_single_82 : decode cX0_single 82 = .ok (.iload_n 1, 1) := by decide +kernel
theorem dX0_single_83 : decode cX0_single 83 = .ok (.iconst 1, 1) := by decide +kernel
theorem dX0_single_84 : decode cX0_single 84 = .ok (.iadd, 1) := by decide +kernel
theorem dX0_single_85 : decode cX0_single 85 = .ok (.invokevirtual 78, 3) := by decide +kernel
theorem dX0_single_88 : decode cX0_single 88 = .ok (.ifCond .eq 7, 3) := by decide +kernel
theorem dX0_single_91 : decode cX0_single 91 = .ok (.iconst 1, 1) := by decide +kernel
theorem dX0_single_92 : decode cX0_single 92 = .ok (.goto 4, 3) := by decide +kernel
theorem dX0_single_95 : decode cX0_single 95 = .ok (.iconst 0, 1) := by decide +kernel
theorem dX0_single_96 : decode cX0_single 96 = .ok (.ireturn, 1) := by decide +kernel
theorem gX0_enclosed_X0_either : GoodIn wsX0_enclosed (wsV RX0 37 RX0 yX0_either wsX0_either) := nw_gV nwl_X0_enclosed nwe_139 nwe_140 nwe_141 nwe_114 nwl_X0_either (by decide +kernel)
theorem gX0_enclosed_X0_sees : GoodIn wsX0_enclosed (wsV RX0 47 RX0 yX0_sees wsX0_sees) := nw_gV nwl_X0_enclosed nwe_120 nwe_121 nwe_122 nwe_114 nwl_X0_sees (by decide +kernel)
theorem dX0_enclosed_0 : decode cX0_enclosed 0 = .ok (.aload_n 0, 1) := by decide +kernel
theorem dX0_enclosed_1 : decode cX0_enclosed 1 = .ok (.dup, 1) := by decide +kernel
theorem dX0_enclosed_2 : decode cX0_enclosed 2 = .ok (.getfield 27, 3) := by decide +kernel
theorem dX0_enclosed_5 : decode cX0_enclosed 5 = .ok (.iconst 1, 1) := by decide +kernel
theorem dX0_enclosed_6 : decode cX0_enclosed 6 = .ok (.iadd, 1) := by decide +kernel
theorem dX0_enclosed_7 : decode cX0_enclosed 7 = .ok (.putfield 27, 3) := by decide +kernel
theorem dX0_enclosed_10 : decode cX0_enclosed 10 = .ok (.aload_n 0, 1) := by decide +kernel
theorem dX0_enclosed_11 : decode cX0_enclosed 11 = .ok (.iload_n 1, 1) := by decide +kernel
theorem dX0_enclosed_12 : decode cX0_enclosed 12 = .ok (.invokevirtual 37, 3) := by decide +kernel
theorem dX0_enclosed_15 : decode cX0_enclosed 15 = .ok (.ifCond .eq 12, 3) := by decide +kernel
theorem dX0_enclosed_18 : decode cX0_enclosed 18 = .ok (.aload_n 0, 1) := by decide +kernel
theorem dX0_enclosed_19 : decode cX0_enclosed 19 = .ok (.bipush 41, 2) := by decide +kernel
theorem dX0_enclosed_21 : decode cX0_enclosed 21 = .ok (.invokevirtual 47, 3) := by decide +kernel
theorem dX0_enclosed_24 : decode cX0_enclosed 24 = .ok (.ifCond .ne 5, 3) := by decide +kernel
theorem dX0_enclosed_27 : decode cX0_enclosed 27 = .ok (.iconst 0, 1) := by decide +kernel
theorem dX0_enclosed_28 : decode cX0_enclosed 28 = .ok (.ireturn, 1) := by decide +kernel
theorem dX0_enclosed_29 : decode cX0_enclosed 29 = .ok (.aload_n 0, 1) := by decide +kernel
theorem dX0_enclosed_30 : decode cX0_enclosed 30 = .ok (.dup, 1) := by decide +kernel
theorem dX0_enclosed_31 : decode cX0_enclosed 31 = .ok (.getfield 27, 3) := by decide +kernel
theorem dX0_enclosed_34 : decode cX0_enclosed 34 = .ok (.iconst 1, 1) := by decide +kernel
theorem dX0_enclosed_35 : decode cX0_enclosed 35 = .ok (.iadd, 1) := by decide +kernel
theorem dX0_enclosed_36 : decode cX0_enclosed 36 = .ok (.putfield 27, 3) := by decide +kernel
theorem dX0_enclosed_39 : decode cX0_enclosed 39 = .ok (.iconst 1, 1) := by decide +kernel
theorem dX0_enclosed_40 : decode cX0_enclosed 40 = .ok (.ireturn, 1) := by decide +kernel
theorem gX0_number_X0_seesDigit : GoodIn wsX0_number (wsV RX0 68 RX0 yX0_seesDigit wsX0_seesDigit) := nw_gV nwl_X0_number nwe_111 nwe_112 nwe_113 nwe_114 nwl_X0_seesDigit (by decide +kernel)
theorem gX0_number_X1_at : GoodIn wsX0_number (wsV RX0 41 RX1 yX1_at wsX1_at) := nw_gV nwl_X0_number nwe_105 nwe_106 nwe_107 nwe_87 nwl_X1_at (by decide +kernel)
theorem gX0_number_X1_append : GoodIn wsX0_number (wsV RX0 53 RX1 yX1_append wsX1_append) := nw_gV nwl_X0_number nwe_115 nwe_116 nwe_117 nwe_87 nwl_X1_append (by decide +kernel)
theorem dX0_number_0 : decode cX0_number 0 = .ok (.iconst 0, 1) := by decide +kernel
theorem dX0_number_1 : decode cX0_number 1 = .ok (.istore_n 1, 1) := by decide +kernel
theorem dX0_number_2 : decode cX0_number 2 = .ok (.iconst 0, 1) := by decide +kernel
theorem dX0_number_3 : decode cX0_number 3 = .ok (.istore_n 2, 1) := by decide +kernel
theorem dX0_number_4 : decode cX0_number 4 = .ok (.iload_n 2, 1) := by decide +kernel
theorem dX0_number_5 : decode cX0_number 5 = .ok (.iconst 4, 1) := by decide +kernel
theorem dX0_number_6 : decode cX0_number 6 = .ok (.if_icmp .ge 46, 3) := by decide +kernel
theorem dX0_number_9 : decode cX0_number 9 = .ok (.aload_n 0, 1) := by decide +kernel
theorem dX0_number_10 : decode cX0_number 10 = .ok (.invokevirtual 68, 3) := by decide +kernel
theorem dX0_number_13 : decode cX0_number 13 = .ok (.ifCond .eq 39, 3) := by decide +kernel
theorem dX0_number_16 : decode cX0_number 16 = .ok (.bipush 10, 2) := by decide +kernel
theorem dX0_number_18 : decode cX0_number 18 = .ok (.iload_n 1, 1) := by decide +kernel
theorem dX0_number_19 : decode cX0_number 19 = .ok (.imul, 1) := by decide +kernel
theorem dX0_number_20 : decode cX0_number 20 = .ok (.aload_n 0, 1) := by decide +kernel
theorem dX0_number_21 : decode cX0_number 21 = .ok (.getfield 20, 3) := by decide +kernel
theorem dX0_number_24 : decode cX0_number 24 = .ok (.aload_n 0, 1) := by decide +kernel
theorem dX0_number_25 : decode cX0_number 25 = .ok (.getfield 27, 3) := by decide +kernel
theorem dX0_number_28 : decode cX0_number 28 = .ok (.invokevirtual 41, 3) := by decide +kernel
theorem dX0_number_31 : decode cX0_number 31 = .ok (.iadd, 1) := by decide +kernel
theorem dX0_number_32 : decode cX0_number 32 = .ok (.bipush 48, 2) := by decide +kernel
theorem dX0_number_34 : decode cX0_number 34 = .ok (.isub, 1) := by decide +kernel
theorem dX0_number_35 : decode cX0_number 35 = .ok (.istore_n 1, 1) := by decide +kernel
theorem dX0_number_36 : decode cX0_number 36 = .ok (.aload_n 0, 1) := by decide +kernel
theorem dX0_number_37 : decode cX0_number 37 = .ok (.dup, 1) := by decide +kernel
theorem dX0_number_38 : decode cX0_number 38 = .ok (.getfield 27, 3) := by decide +kernel
theorem dX0_number_41 : decode cX0_number 41 = .ok (.iconst 1, 1) := by decide +kernel
theorem dX0_number_42 : decode cX0_number 42 = .ok (.iadd, 1) := by decide +kernel
theorem dX0_number_43 : decode cX0_number 43 = .ok (.putfield 27, 3) := by decide +kernel
theorem dX0_number_46 : decode cX0_number 46 = .ok (.iinc 2 1, 3) := by decide +kernel
theorem dX0_number_49 : decode cX0_number 49 = .ok (.goto (-45), 3) := by decide +kernel
theorem dX0_number_52 : decode cX0_number 52 = .ok (.aload_n 0, 1) := by decide +kernel
theorem dX0_number_53 : decode cX0_number 53 = .ok (.getfield 14, 3) := by decide +kernel
theorem dX0_number_56 : decode cX0_number 56 = .ok (.iload_n 1, 1) := by decide +kernel
theorem dX0_number_57 : decode cX0_number 57 = .ok (.invokevirtual 53, 3) := by decide +kernel
theorem dX0_number_60 : decode cX0_number 60 = .ok (.return_, 1) := by decide +kernel
theorem gX0_readsName_X0_sees : GoodIn wsX0_readsName (wsV RX0 47 RX0 yX0_sees wsX0_sees) := nw_gV nwl_X0_readsName nwe_120 nwe_121 nwe_122 nwe_114 nwl_X0_sees (by decide +kernel)
theorem gX0_readsName_X1_append : GoodIn wsX0_readsName (wsV RX0 53 RX1 yX1_append wsX1_append) := nw_gV nwl_X0_readsName nwe_115 nwe_116 nwe_117 nwe_87 nwl_X1_append (by decide +kernel)
theorem dX0_readsName_0 : decode cX0_readsName 0 = .ok (.iconst 0, 1) := by decide +kernel
theorem dX0_readsName_1 : decode cX0_readsName 1 = .ok (.istore_n 1, 1) := by decide +kernel
theorem dX0_readsName_2 : decode cX0_readsName 2 = .ok (.iload_n 1, 1) := by decide +kernel
theorem dX0_readsName_3 : decode cX0_readsName 3 = .ok (.iconst 3, 1) := by decide +kernel
theorem dX0_readsName_4 : decode cX0_readsName 4 = .ok (.if_icmp .ge 50, 3) := by decide +kernel
theorem dX0_readsName_7 : decode cX0_readsName 7 = .ok (.aload_n 0, 1) := by decide +kernel
theorem dX0_readsName_8 : decode cX0_readsName 8 = .ok (.getstatic 81, 3) := by decide +kernel
theorem dX0_readsName_11 : decode cX0_readsName 11 = .ok (.aload_n 0, 1) := by decide +kernel
theorem dX0_readsName_12 : decode cX0_readsName 12 = .ok (.getfield 23, 3) := by decide +kernel
theorem dX0_readsName_15 : decode cX0_readsName 15 = .ok (.iload_n 1, 1) := by decide +kernel
theorem dX0_readsName_16 : decode cX0_readsName 16 = .ok (.iadd, 1) := by decide +kernel
theorem dX0_readsName_17 : decode cX0_readsName 17 = .ok (.caload, 1) := by decide +kernel
theorem dX0_readsName_18 : decode cX0_readsName 18 = .ok (.invokevirtual 47, 3) := by decide +kernel
theorem dX0_readsName_21 : decode cX0_readsName 21 = .ok (.ifCond .eq 27, 3) := by decide +kernel
theorem dX0_readsName_24 : decode cX0_readsName 24 = .ok (.aload_n 0, 1) := by decide +kernel
theorem dX0_readsName_25 : decode cX0_readsName 25 = .ok (.getfield 14, 3) := by decide +kernel
theorem dX0_readsName_28 : decode cX0_readsName 28 = .ok (.sipush 10000, 3) := by decide +kernel
theorem dX0_readsName_31 : decode cX0_readsName 31 = .ok (.iload_n 1, 1) := by decide +kernel
theorem dX0_readsName_32 : decode cX0_readsName 32 = .ok (.iadd, 1) := by decide +kernel
theorem dX0_readsName_33 : decode cX0_readsName 33 = .ok (.invokevirtual 53, 3) := by decide +kernel
theorem dX0_readsName_36 : decode cX0_readsName 36 = .ok (.aload_n 0, 1) := by decide +kernel
theorem dX0_readsName_37 : decode cX0_readsName 37 = .ok (.dup, 1) := by decide +kernel
theorem dX0_readsName_38 : decode cX0_readsName 38 = .ok (.getfield 27, 3) := by decide +kernel
theorem dX0_readsName_41 : decode cX0_readsName 41 = .ok (.iconst 1, 1) := by decide +kernel
theorem dX0_readsName_42 : decode cX0_readsName 42 = .ok (.iadd, 1) := by decide +kernel
theorem dX0_readsName_43 : decode cX0_readsName 43 = .ok (.putfield 27, 3) := by decide +kernel
theorem dX0_readsName_46 : decode cX0_readsName 46 = .ok (.iconst 1, 1) := by decide +kernel
theorem dX0_readsName_47 : decode cX0_readsName 47 = .ok (.ireturn, 1) := by decide +kernel
theorem dX0_readsName_48 : decode cX0_readsName 48 = .ok (.iinc 1 1, 3) := by decide +kernel
theorem dX0_readsName_51 : decode cX0_readsName 51 = .ok (.goto (-49), 3) := by decide +kernel
theorem dX0_readsName_54 : decode cX0_readsName 54 = .ok (.iconst 0, 1) := by decide +kernel
theorem dX0_readsName_55 : decode cX0_readsName 55 = .ok (.ireturn, 1) := by decide +kernel
theorem dX1_init_0 : decode cX1_init 0 = .ok (.aload_n 0, 1) := by decide +kernel
theorem dX1_init_1 : decode cX1_init 1 = .ok (.invokespecial 1, 3) := by decide +kernel
theorem dX1_init_4 : decode cX1_init 4 = .ok (.aload_n 0, 1) := by decide +kernel
theorem dX1_init_5 : decode cX1_init 5 = .ok (.iconst 0, 1) := by decide +kernel
theorem dX1_init_6 : decode cX1_init 6 = .ok (.putfield 7, 3) := by decide +kernel
theorem dX1_init_9 : decode cX1_init 9 = .ok (.aload_n 0, 1) := by decide +kernel
theorem dX1_init_10 : decode cX1_init 10 = .ok (.iconst 0, 1) := by decide +kernel
theorem dX1_init_11 : decode cX1_init 11 = .ok (.iload_n 1, 1) := by decide +kernel
theorem dX1_init_12 : decode cX1_init 12 = .ok (.invokestatic 13, 3) := by decide +kernel
theorem dX1_init_15 : decode cX1_init 15 = .ok (.newarray .int, 2) := by decide +kernel
theorem dX1_init_17 : decode cX1_init 17 = .ok (.putfield 19, 3) := by decide +kernel
theorem dX1_init_20 : decode cX1_init 20 = .ok (.return_, 1) := by decide +kernel
theorem dX1_at_0 : decode cX1_at 0 = .ok (.iload_n 1, 1) := by decide +kernel
theorem dX1_at_1 : decode cX1_at 1 = .ok (.ifCond .lt 20, 3) := by decide +kernel
theorem dX1_at_4 : decode cX1_at 4 = .ok (.iload_n 1, 1) := by decide +kernel
theorem dX1_at_5 : decode cX1_at 5 = .ok (.aload_n 0, 1) := by decide +kernel
theorem dX1_at_6 : decode cX1_at 6 = .ok (.getfield 7, 3) := by decide +kernel
theorem dX1_at_9 : decode cX1_at 9 = .ok (.if_icmp .ge 12, 3) := by decide +kernel
theorem dX1_at_12 : decode cX1_at 12 = .ok (.aload_n 0, 1) := by decide +kernel
theorem dX1_at_13 : decode cX1_at 13 = .ok (.getfield 19, 3) := by decide +kernel
theorem dX1_at_16 : decode cX1_at 16 = .ok (.iload_n 1, 1) := by decide +kernel
theorem dX1_at_17 : decode cX1_at 17 = .ok (.iaload, 1) := by decide +kernel
theorem dX1_at_18 : decode cX1_at 18 = .ok (.goto 4, 3) := by decide +kernel
theorem dX1_at_21 : decode cX1_at 21 = .ok (.iconst 0, 1) := by decide +kernel
theorem dX1_at_22 : decode cX1_at 22 = .ok (.ireturn, 1) := by decide +kernel
theorem dX1_append_0 : decode cX1_append 0 = .ok (.aload_n 0, 1) := by decide +kernel
theorem dX1_append_1 : decode cX1_append 1 = .ok (.getfield 7, 3) := by decide +kernel
theorem dX1_append_4 : decode cX1_append 4 = .ok (.aload_n 0, 1) := by decide +kernel
theorem dX1_append_5 : decode cX1_append 5 = .ok (.getfield 19, 3) := by decide +kernel
theorem dX1_append_8 : decode cX1_append 8 = .ok (.arraylength, 1) := by decide +kernel
theorem dX1_append_9 : decode cX1_append 9 = .ok (.if_icmp .ge 23, 3) := by decide +kernel
theorem dX1_append_12 : decode cX1_append 12 = .ok (.aload_n 0, 1) := by decide +kernel
theorem dX1_append_13 : decode cX1_append 13 = .ok (.getfield 19, 3) := by decide +kernel
theorem dX1_append_16 : decode cX1_append 16 = .ok (.aload_n 0, 1) := by decide +kernel
theorem dX1_append_17 : decode cX1_append 17 = .ok (.getfield 7, 3) := by decide +kernel
theorem dX1_append_20 : decode cX1_append 20 = .ok (.iload_n 1, 1) := by decide +kernel
theorem dX1_append_21 : decode cX1_append 21 = .ok (.iastore, 1) := by decide +kernel
theorem dX1_append_22 : decode cX1_append 22 = .ok (.aload_n 0, 1) := by decide +kernel
theorem dX1_append_23 : decode cX1_append 23 = .ok (.dup, 1) := by decide +kernel
theorem dX1_append_24 : decode cX1_append 24 = .ok (.getfield 7, 3) := by decide +kernel
theorem dX1_append_27 : decode cX1_append 27 = .ok (.iconst 1, 1) := by decide +kernel
theorem dX1_append_28 : decode cX1_append 28 = .ok (.iadd, 1) := by decide +kernel
theorem dX1_append_29 : decode cX1_append 29 = .ok (.putfield 7, 3) := by decide +kernel
theorem dX1_append_32 : decode cX1_append 32 = .ok (.return_, 1) := by decide +kernel
theorem dX1_takeFrom_0 : decode cX1_takeFrom 0 = .ok (.aload_n 0, 1) := by decide +kernel
theorem dX1_takeFrom_1 : decode cX1_takeFrom 1 = .ok (.aload_n 1, 1) := by decide +kernel
theorem dX1_takeFrom_2 : decode cX1_takeFrom 2 = .ok (.getfield 7, 3) := by decide +kernel
theorem dX1_takeFrom_5 : decode cX1_takeFrom 5 = .ok (.aload_n 0, 1) := by decide +kernel
theorem dX1_takeFrom_6 : decode cX1_takeFrom 6 = .ok (.getfield 19, 3) := by decide +kernel
theorem dX1_takeFrom_9 : decode cX1_takeFrom 9 = .ok (.arraylength, 1) := by decide +kernel
theorem dX1_takeFrom_10 : decode cX1_takeFrom 10 = .ok (.invokestatic 23, 3) := by decide +kernel
theorem dX1_takeFrom_13 : decode cX1_takeFrom 13 = .ok (.putfield 7, 3) := by decide +kernel
theorem dX1_takeFrom_16 : decode cX1_takeFrom 16 = .ok (.aload_n 1, 1) := by decide +kernel
theorem dX1_takeFrom_17 : decode cX1_takeFrom 17 = .ok (.getfield 19, 3) := by decide +kernel
theorem dX1_takeFrom_20 : decode cX1_takeFrom 20 = .ok (.iconst 0, 1) := by decide +kernel
theorem dX1_takeFrom_21 : decode cX1_takeFrom 21 = .ok (.aload_n 0, 1) := by decide +kernel
theorem dX1_takeFrom_22 : decode cX1_takeFrom 22 = .ok (.getfield 19, 3) := by decide +kernel
theorem dX1_takeFrom_25 : decode cX1_takeFrom 25 = .ok (.iconst 0, 1) := by decide +kernel
theorem dX1_takeFrom_26 : decode cX1_takeFrom 26 = .ok (.aload_n 0, 1) := by decide +kernel
theorem dX1_takeFrom_27 : decode cX1_takeFrom 27 = .ok (.getfield 7, 3) := by decide +kernel
theorem dX1_takeFrom_30 : decode cX1_takeFrom 30 = .ok (.invokestatic 26, 3) := by decide +kernel
theorem dX1_takeFrom_33 : decode cX1_takeFrom 33 = .ok (.return_, 1) := by decide +kernel
theorem dX2_init_0 : decode cX2_init 0 = .ok (.aload_n 0, 1) := by decide +kernel
theorem dX2_init_1 : decode cX2_init 1 = .ok (.invokespecial 3, 3) := by decide +kernel
theorem dX2_init_4 : decode cX2_init 4 = .ok (.aload_n 0, 1) := by decide +kernel
theorem dX2_init_5 : decode cX2_init 5 = .ok (.bipush 24, 2) := by decide +kernel
theorem dX2_init_7 : decode cX2_init 7 = .ok (.newarray .int, 2) := by decide +kernel
theorem dX2_init_9 : decode cX2_init 9 = .ok (.putfield 9, 3) := by decide +kernel
theorem dX2_init_12 : decode cX2_init 12 = .ok (.aload_n 0, 1) := by decide +kernel
theorem dX2_init_13 : decode cX2_init 13 = .ok (.iconst 0, 1) := by decide +kernel
theorem dX2_init_14 : decode cX2_init 14 = .ok (.putfield 15, 3) := by decide +kernel
theorem dX2_init_17 : decode cX2_init 17 = .ok (.aload_n 0, 1) := by decide +kernel
theorem dX2_init_18 : decode cX2_init 18 = .ok (.iconst 0, 1) := by decide +kernel
theorem dX2_init_19 : decode cX2_init 19 = .ok (.putfield 19, 3) := by decide +kernel
theorem dX2_init_22 : decode cX2_init 22 = .ok (.return_, 1) := by decide +kernel
theorem dX2_isMissing_0 : decode cX2_isMissing 0 = .ok (.aload_n 0, 1) := by decide +kernel
theorem dX2_isMissing_1 : decode cX2_isMissing 1 = .ok (.getfield 15, 3) := by decide +kernel
theorem dX2_isMissing_4 : decode cX2_isMissing 4 = .ok (.ifCond .ne 7, 3) := by decide +kernel
theorem dX2_isMissing_7 : decode cX2_isMissing 7 = .ok (.iconst 1, 1) := by decide +kernel
theorem dX2_isMissing_8 : decode cX2_isMissing 8 = .ok (.goto 4, 3) := by decide +kernel
theorem dX2_isMissing_11 : decode cX2_isMissing 11 = .ok (.iconst 0, 1) := by decide +kernel
theorem dX2_isMissing_12 : decode cX2_isMissing 12 = .ok (.ireturn, 1) := by decide +kernel
theorem gX2_becomes_J7_fill_53178 : GoodIn wsX2_becomes (va_wsS RX2 31 yJ7_fill_53178 wsJ7_fill_53178) := nw_gS nwl_X2_becomes nwe_171 nwe_172 nwe_173 nwl_J7_fill_53178 (by decide +kernel)
theorem dX2_becomes_0 : decode cX2_becomes 0 = .ok (.aload_n 0, 1) := by decide +kernel
theorem dX2_becomes_1 : decode cX2_becomes 1 = .ok (.iload_n 1, 1) := by decide +kernel
theorem dX2_becomes_2 : decode cX2_becomes 2 = .ok (.putfield 15, 3) := by decide +kernel
theorem dX2_becomes_5 : decode cX2_becomes 5 = .ok (.aload_n 0, 1) := by decide +kernel
theorem dX2_becomes_6 : decode cX2_becomes 6 = .ok (.iload_n 1, 1) := by decide +kernel
theorem dX2_becomes_7 : decode cX2_becomes 7 = .ok (.ifCond .ne 7, 3) := by decide +kernel
theorem dX2_becomes_10 : decode cX2_becomes 10 = .ok (.iconst 0, 1) := by decide +kernel
theorem dX2_becomes_11 : decode cX2_becomes 11 = .ok (.goto 13, 3) := by decide +kernel
theorem dX2_becomes_14 : decode cX2_becomes 14 = .ok (.iconst 0, 1) := by decide +kernel
theorem dX2_becomes_15 : decode cX2_becomes 15 = .ok (.bipush 24, 2) := by decide +kernel
theorem dX2_becomes_17 : decode cX2_becomes 17 = .ok (.iload_n 2, 1) := by decide +kernel
theorem dX2_becomes_18 : decode cX2_becomes 18 = .ok (.invokestatic 22, 3) := by decide +kernel
theorem dX2_becomes_21 : decode cX2_becomes 21 = .ok (.invokestatic 28, 3) := by decide +kernel
theorem dX2_becomes_24 : decode cX2_becomes 24 = .ok (.putfield 19, 3) := by decide +kernel
theorem dX2_becomes_27 : decode cX2_becomes 27 = .ok (.aload_n 0, 1) := by decide +kernel
theorem dX2_becomes_28 : decode cX2_becomes 28 = .ok (.getfield 9, 3) := by decide +kernel
theorem dX2_becomes_31 : decode cX2_becomes 31 = .ok (.iconst 0, 1) := by decide +kernel
theorem dX2_becomes_32 : decode cX2_becomes 32 = .ok (.invokestatic 31, 3) := by decide +kernel
theorem dX2_becomes_35 : decode cX2_becomes 35 = .ok (.return_, 1) := by decide +kernel
theorem dX2_at_0 : decode cX2_at 0 = .ok (.iload_n 1, 1) := by decide +kernel
theorem dX2_at_1 : decode cX2_at 1 = .ok (.ifCond .lt 20, 3) := by decide +kernel
theorem dX2_at_4 : decode cX2_at 4 = .ok (.iload_n 1, 1) := by decide +kernel
theorem dX2_at_5 : decode cX2_at 5 = .ok (.aload_n 0, 1) := by decide +kernel
theorem dX2_at_6 : decode cX2_at 6 = .ok (.getfield 19, 3) := by decide +kernel
theorem dX2_at_9 : decode cX2_at 9 = .ok (.if_icmp .ge 12, 3) := by decide +kernel
theorem dX2_at_12 : decode cX2_at 12 = .ok (.aload_n 0, 1) := by decide +kernel
theorem dX2_at_13 : decode cX2_at 13 = .ok (.getfield 9, 3) := by decide +kernel
theorem dX2_at_16 : decode cX2_at 16 = .ok (.iload_n 1, 1) := by decide +kernel
theorem dX2_at_17 : decode cX2_at 17 = .ok (.iaload, 1) := by decide +kernel
theorem dX2_at_18 : decode cX2_at 18 = .ok (.goto 4, 3) := by decide +kernel
theorem dX2_at_21 : decode cX2_at 21 = .ok (.iconst 0, 1) := by decide +kernel
theorem dX2_at_22 : decode cX2_at 22 = .ok (.ireturn, 1) := by decide +kernel
theorem dX2_hold_0 : decode cX2_hold 0 = .ok (.iload_n 1, 1) := by decide +kernel
theorem dX2_hold_1 : decode cX2_hold 1 = .ok (.ifCond .lt 30, 3) := by decide +kernel
theorem dX2_hold_4 : decode cX2_hold 4 = .ok (.iload_n 1, 1) := by decide +kernel
theorem dX2_hold_5 : decode cX2_hold 5 = .ok (.aload_n 0, 1) := by decide +kernel
theorem dX2_hold_6 : decode cX2_hold 6 = .ok (.getfield 19, 3) := by decide +kernel
theorem dX2_hold_9 : decode cX2_hold 9 = .ok (.if_icmp .ge 22, 3) := by decide +kernel
theorem dX2_hold_12 : decode cX2_hold 12 = .ok (.bipush 32, 2) := by decide +kernel
theorem dX2_hold_14 : decode cX2_hold 14 = .ok (.aload_n 0, 1) := by decide +kernel
theorem dX2_hold_15 : decode cX2_hold 15 = .ok (.getfield 15, 3) := by decide +kernel
theorem dX2_hold_18 : decode cX2_hold 18 = .ok (.isub, 1) := by decide +kernel
theorem dX2_hold_19 : decode cX2_hold 19 = .ok (.istore_n 3, 1) := by decide +kernel
theorem dX2_hold_20 : decode cX2_hold 20 = .ok (.aload_n 0, 1) := by decide +kernel
theorem dX2_hold_21 : decode cX2_hold 21 = .ok (.getfield 9, 3) := by decide +kernel
theorem dX2_hold_24 : decode cX2_hold 24 = .ok (.iload_n 1, 1) := by decide +kernel
theorem dX2_hold_25 : decode cX2_hold 25 = .ok (.iload_n 2, 1) := by decide +kernel
theorem dX2_hold_26 : decode cX2_hold 26 = .ok (.iload_n 3, 1) := by decide +kernel
theorem dX2_hold_27 : decode cX2_hold 27 = .ok (.ishl, 1) := by decide +kernel
theorem dX2_hold_28 : decode cX2_hold 28 = .ok (.iload_n 3, 1) := by decide +kernel
theorem dX2_hold_29 : decode cX2_hold 29 = .ok (.ishr, 1) := by decide +kernel
theorem dX2_hold_30 : decode cX2_hold 30 = .ok (.iastore, 1) := by decide +kernel
theorem dX2_hold_31 : decode cX2_hold 31 = .ok (.return_, 1) := by decide +kernel
theorem dX2_holdsPart_0 : decode cX2_holdsPart 0 = .ok (.iload_n 2, 1) := by decide +kernel
theorem dX2_holdsPart_1 : decode cX2_holdsPart 1 = .ok (.ifCond .lt 29, 3) := by decide +kernel
theorem dX2_holdsPart_4 : decode cX2_holdsPart 4 = .ok (.iload_n 1, 1) := by decide +kernel
theorem dX2_holdsPart_5 : decode cX2_holdsPart 5 = .ok (.ifCond .lt 25, 3) := by decide +kernel
theorem dX2_holdsPart_8 : decode cX2_holdsPart 8 = .ok (.iload_n 2, 1) := by decide +kernel
theorem dX2_holdsPart_9 : decode cX2_holdsPart 9 = .ok (.aload_n 0, 1) := by decide +kernel
theorem dX2_holdsPart_10 : decode cX2_holdsPart 10 = .ok (.getfield 19, 3) := by decide +kernel
theorem dX2_holdsPart_13 : decode cX2_holdsPart 13 = .ok (.if_icmp .gt 17, 3) := by decide +kernel
