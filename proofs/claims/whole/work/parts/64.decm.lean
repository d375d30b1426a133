theorem d_MD_init_0 : decode c_MD_init 0 = .ok (.aload_n 0, 1) := by decide +kernel
theorem d_MD_init_1 : decode c_MD_init 1 = .ok (.invokespecial 1, 3) := by decide +kernel
theorem d_MD_init_4 : decode c_MD_init 4 = .ok (.aload_n 0, 1) := by decide +kernel
theorem d_MD_init_5 : decode c_MD_init 5 = .ok (.bipush 24, 2) := by decide +kernel
theorem d_MD_init_7 : decode c_MD_init 7 = .ok (.newarray .boolean, 2) := by decide +kernel
theorem d_MD_init_9 : decode c_MD_init 9 = .ok (.putfield 7, 3) := by decide +kernel
theorem d_MD_init_12 : decode c_MD_init 12 = .ok (.aload_n 0, 1) := by decide +kernel
theorem d_MD_init_13 : decode c_MD_init 13 = .ok (.bipush 24, 2) := by decide +kernel
theorem d_MD_init_15 : decode c_MD_init 15 = .ok (.newarray .int, 2) := by decide +kernel
theorem d_MD_init_17 : decode c_MD_init 17 = .ok (.putfield 13, 3) := by decide +kernel
theorem d_MD_init_20 : decode c_MD_init 20 = .ok (.aload_n 0, 1) := by decide +kernel
theorem d_MD_init_21 : decode c_MD_init 21 = .ok (.bipush 24, 2) := by decide +kernel
theorem d_MD_init_23 : decode c_MD_init 23 = .ok (.newarray .int, 2) := by decide +kernel
theorem d_MD_init_25 : decode c_MD_init 25 = .ok (.putfield 17, 3) := by decide +kernel
theorem d_MD_init_28 : decode c_MD_init 28 = .ok (.aload_n 0, 1) := by decide +kernel
theorem d_MD_init_29 : decode c_MD_init 29 = .ok (.sipush 960, 3) := by decide +kernel
theorem d_MD_init_32 : decode c_MD_init 32 = .ok (.newarray .int, 2) := by decide +kernel
theorem d_MD_init_34 : decode c_MD_init 34 = .ok (.putfield 20, 3) := by decide +kernel
theorem d_MD_init_37 : decode c_MD_init 37 = .ok (.aload_n 0, 1) := by decide +kernel
theorem d_MD_init_38 : decode c_MD_init 38 = .ok (.bipush 6, 2) := by decide +kernel
theorem d_MD_init_40 : decode c_MD_init 40 = .ok (.newarray .boolean, 2) := by decide +kernel
theorem d_MD_init_42 : decode c_MD_init 42 = .ok (.putfield 23, 3) := by decide +kernel
theorem d_MD_init_45 : decode c_MD_init 45 = .ok (.aload_n 0, 1) := by decide +kernel
theorem d_MD_init_46 : decode c_MD_init 46 = .ok (.bipush 6, 2) := by decide +kernel
theorem d_MD_init_48 : decode c_MD_init 48 = .ok (.newarray .int, 2) := by decide +kernel
theorem d_MD_init_50 : decode c_MD_init 50 = .ok (.putfield 26, 3) := by decide +kernel
theorem d_MD_init_53 : decode c_MD_init 53 = .ok (.aload_n 0, 1) := by decide +kernel
theorem d_MD_init_54 : decode c_MD_init 54 = .ok (.bipush 6, 2) := by decide +kernel
theorem d_MD_init_56 : decode c_MD_init 56 = .ok (.newarray .int, 2) := by decide +kernel
theorem d_MD_init_58 : decode c_MD_init 58 = .ok (.putfield 29, 3) := by decide +kernel
theorem d_MD_init_61 : decode c_MD_init 61 = .ok (.aload_n 0, 1) := by decide +kernel
theorem d_MD_init_62 : decode c_MD_init 62 = .ok (.bipush 12, 2) := by decide +kernel
theorem d_MD_init_64 : decode c_MD_init 64 = .ok (.newarray .int, 2) := by decide +kernel
theorem d_MD_init_66 : decode c_MD_init 66 = .ok (.putfield 32, 3) := by decide +kernel
theorem d_MD_init_69 : decode c_MD_init 69 = .ok (.aload_n 0, 1) := by decide +kernel
theorem d_MD_init_70 : decode c_MD_init 70 = .ok (.bipush 12, 2) := by decide +kernel
theorem d_MD_init_72 : decode c_MD_init 72 = .ok (.newarray .int, 2) := by decide +kernel
theorem d_MD_init_74 : decode c_MD_init 74 = .ok (.putfield 35, 3) := by decide +kernel
theorem d_MD_init_77 : decode c_MD_init 77 = .ok (.aload_n 0, 1) := by decide +kernel
theorem d_MD_init_78 : decode c_MD_init 78 = .ok (.bipush 12, 2) := by decide +kernel
theorem d_MD_init_80 : decode c_MD_init 80 = .ok (.newarray .int, 2) := by decide +kernel
theorem d_MD_init_82 : decode c_MD_init 82 = .ok (.putfield 38, 3) := by decide +kernel
theorem d_MD_init_85 : decode c_MD_init 85 = .ok (.aload_n 0, 1) := by decide +kernel
theorem d_MD_init_86 : decode c_MD_init 86 = .ok (.bipush 12, 2) := by decide +kernel
theorem d_MD_init_88 : decode c_MD_init 88 = .ok (.newarray .boolean, 2) := by decide +kernel
theorem d_MD_init_90 : decode c_MD_init 90 = .ok (.putfield 41, 3) := by decide +kernel
theorem d_MD_init_93 : decode c_MD_init 93 = .ok (.aload_n 0, 1) := by decide +kernel
theorem d_MD_init_94 : decode c_MD_init 94 = .ok (.iconst 2, 1) := by decide +kernel
theorem d_MD_init_95 : decode c_MD_init 95 = .ok (.newarray .int, 2) := by decide +kernel
theorem d_MD_init_97 : decode c_MD_init 97 = .ok (.putfield 44, 3) := by decide +kernel
theorem d_MD_init_100 : decode c_MD_init 100 = .ok (.aload_n 0, 1) := by decide +kernel
theorem d_MD_init_101 : decode c_MD_init 101 = .ok (.sipush 2880, 3) := by decide +kernel
theorem d_MD_init_104 : decode c_MD_init 104 = .ok (.newarray .int, 2) := by decide +kernel
theorem d_MD_init_106 : decode c_MD_init 106 = .ok (.putfield 47, 3) := by decide +kernel
theorem d_MD_init_109 : decode c_MD_init 109 = .ok (.aload_n 0, 1) := by decide +kernel
theorem d_MD_init_110 : decode c_MD_init 110 = .ok (.bipush 16, 2) := by decide +kernel
theorem d_MD_init_112 : decode c_MD_init 112 = .ok (.newarray .int, 2) := by decide +kernel
theorem d_MD_init_114 : decode c_MD_init 114 = .ok (.putfield 50, 3) := by decide +kernel
theorem d_MD_init_117 : decode c_MD_init 117 = .ok (.aload_n 0, 1) := by decide +kernel
theorem d_MD_init_118 : decode c_MD_init 118 = .ok (.bipush 16, 2) := by decide +kernel
theorem d_MD_init_120 : decode c_MD_init 120 = .ok (.newarray .int, 2) := by decide +kernel
theorem d_MD_init_122 : decode c_MD_init 122 = .ok (.putfield 53, 3) := by decide +kernel
theorem d_MD_init_125 : decode c_MD_init 125 = .ok (.aload_n 0, 1) := by decide +kernel
theorem d_MD_init_126 : decode c_MD_init 126 = .ok (.bipush 16, 2) := by decide +kernel
theorem d_MD_init_128 : decode c_MD_init 128 = .ok (.newarray .int, 2) := by decide +kernel
theorem d_MD_init_130 : decode c_MD_init 130 = .ok (.putfield 56, 3) := by decide +kernel
theorem d_MD_init_133 : decode c_MD_init 133 = .ok (.aload_n 0, 1) := by decide +kernel
theorem d_MD_init_134 : decode c_MD_init 134 = .ok (.sipush 640, 3) := by decide +kernel
theorem d_MD_init_137 : decode c_MD_init 137 = .ok (.newarray .int, 2) := by decide +kernel
theorem d_MD_init_139 : decode c_MD_init 139 = .ok (.putfield 59, 3) := by decide +kernel
theorem d_MD_init_142 : decode c_MD_init 142 = .ok (.aload_n 0, 1) := by decide +kernel
theorem d_MD_init_143 : decode c_MD_init 143 = .ok (.bipush 40, 2) := by decide +kernel
theorem d_MD_init_145 : decode c_MD_init 145 = .ok (.newarray .int, 2) := by decide +kernel
theorem d_MD_init_147 : decode c_MD_init 147 = .ok (.putfield 62, 3) := by decide +kernel
theorem d_MD_init_150 : decode c_MD_init 150 = .ok (.aload_n 0, 1) := by decide +kernel
theorem d_MD_init_151 : decode c_MD_init 151 = .ok (.bipush 8, 2) := by decide +kernel
theorem d_MD_init_153 : decode c_MD_init 153 = .ok (.newarray .int, 2) := by decide +kernel
theorem d_MD_init_155 : decode c_MD_init 155 = .ok (.putfield 65, 3) := by decide +kernel
theorem d_MD_init_158 : decode c_MD_init 158 = .ok (.return_, 1) := by decide +kernel
theorem d_MD_in_0 : decode c_MD_in 0 = .ok (.iload_n 0, 1) := by decide +kernel
theorem d_MD_in_1 : decode c_MD_in 1 = .ok (.ifCond .lt 12, 3) := by decide +kernel
theorem d_MD_in_4 : decode c_MD_in 4 = .ok (.iload_n 0, 1) := by decide +kernel
theorem d_MD_in_5 : decode c_MD_in 5 = .ok (.iload_n 1, 1) := by decide +kernel
theorem d_MD_in_6 : decode c_MD_in 6 = .ok (.if_icmp .gt 7, 3) := by decide +kernel
theorem d_MD_in_9 : decode c_MD_in 9 = .ok (.iconst 1, 1) := by decide +kernel
theorem d_MD_in_10 : decode c_MD_in 10 = .ok (.goto 4, 3) := by decide +kernel
theorem d_MD_in_13 : decode c_MD_in 13 = .ok (.iconst 0, 1) := by decide +kernel
theorem d_MD_in_14 : decode c_MD_in 14 = .ok (.ireturn, 1) := by decide +kernel
theorem d_MD_add_0 : decode c_MD_add 0 = .ok (.aload_n 0, 1) := by decide +kernel
theorem d_MD_add_1 : decode c_MD_add 1 = .ok (.getfield 65, 3) := by decide +kernel
theorem d_MD_add_4 : decode c_MD_add 4 = .ok (.iload_n 1, 1) := by decide +kernel
theorem d_MD_add_5 : decode c_MD_add 5 = .ok (.aload_n 0, 1) := by decide +kernel
theorem d_MD_add_6 : decode c_MD_add 6 = .ok (.getfield 65, 3) := by decide +kernel
theorem d_MD_add_9 : decode c_MD_add 9 = .ok (.iload_n 1, 1) := by decide +kernel
theorem d_MD_add_10 : decode c_MD_add 10 = .ok (.iaload, 1) := by decide +kernel
theorem d_MD_add_11 : decode c_MD_add 11 = .ok (.iconst 1, 1) := by decide +kernel
theorem d_MD_add_12 : decode c_MD_add 12 = .ok (.iadd, 1) := by decide +kernel
theorem d_MD_add_13 : decode c_MD_add 13 = .ok (.iastore, 1) := by decide +kernel
theorem d_MD_add_14 : decode c_MD_add 14 = .ok (.return_, 1) := by decide +kernel
theorem d_MD_rule_0 : decode c_MD_rule 0 = .ok (.iload_n 2, 1) := by decide +kernel
theorem d_MD_rule_1 : decode c_MD_rule 1 = .ok (.bipush 15, 2) := by decide +kernel
theorem d_MD_rule_3 : decode c_MD_rule 3 = .ok (.invokestatic 68, 3) := by decide +kernel
theorem d_MD_rule_6 : decode c_MD_rule 6 = .ok (.ifCond .eq 21, 3) := by decide +kernel
theorem d_MD_rule_9 : decode c_MD_rule 9 = .ok (.iload_n 3, 1) := by decide +kernel
theorem d_MD_rule_10 : decode c_MD_rule 10 = .ok (.bipush 15, 2) := by decide +kernel
theorem d_MD_rule_12 : decode c_MD_rule 12 = .ok (.invokestatic 68, 3) := by decide +kernel
theorem d_MD_rule_15 : decode c_MD_rule 15 = .ok (.ifCond .eq 12, 3) := by decide +kernel
theorem d_MD_rule_18 : decode c_MD_rule 18 = .ok (.aload_n 0, 1) := by decide +kernel
theorem d_MD_rule_19 : decode c_MD_rule 19 = .ok (.getfield 72, 3) := by decide +kernel
theorem d_MD_rule_22 : decode c_MD_rule 22 = .ok (.bipush 6, 2) := by decide +kernel
theorem d_MD_rule_24 : decode c_MD_rule 24 = .ok (.if_icmp .lt 5, 3) := by decide +kernel
theorem d_MD_rule_27 : decode c_MD_rule 27 = .ok (.iconst 0, 1) := by decide +kernel
theorem d_MD_rule_28 : decode c_MD_rule 28 = .ok (.ireturn, 1) := by decide +kernel
theorem d_MD_rule_29 : decode c_MD_rule 29 = .ok (.aload_n 0, 1) := by decide +kernel
theorem d_MD_rule_30 : decode c_MD_rule 30 = .ok (.getfield 23, 3) := by decide +kernel
theorem d_MD_rule_33 : decode c_MD_rule 33 = .ok (.aload_n 0, 1) := by decide +kernel
theorem d_MD_rule_34 : decode c_MD_rule 34 = .ok (.getfield 72, 3) := by decide +kernel
theorem d_MD_rule_37 : decode c_MD_rule 37 = .ok (.iload_n 1, 1) := by decide +kernel
theorem d_MD_rule_38 : decode c_MD_rule 38 = .ok (.bastore, 1) := by decide +kernel
theorem d_MD_rule_39 : decode c_MD_rule 39 = .ok (.aload_n 0, 1) := by decide +kernel
theorem d_MD_rule_40 : decode c_MD_rule 40 = .ok (.getfield 26, 3) := by decide +kernel
theorem d_MD_rule_43 : decode c_MD_rule 43 = .ok (.aload_n 0, 1) := by decide +kernel
theorem d_MD_rule_44 : decode c_MD_rule 44 = .ok (.getfield 72, 3) := by decide +kernel
theorem d_MD_rule_47 : decode c_MD_rule 47 = .ok (.iload_n 2, 1) := by decide +kernel
theorem d_MD_rule_48 : decode c_MD_rule 48 = .ok (.iastore, 1) := by decide +kernel
theorem d_MD_rule_49 : decode c_MD_rule 49 = .ok (.aload_n 0, 1) := by decide +kernel
theorem d_MD_rule_50 : decode c_MD_rule 50 = .ok (.getfield 29, 3) := by decide +kernel
theorem d_MD_rule_53 : decode c_MD_rule 53 = .ok (.aload_n 0, 1) := by decide +kernel
theorem d_MD_rule_54 : decode c_MD_rule 54 = .ok (.getfield 72, 3) := by decide +kernel
theorem d_MD_rule_57 : decode c_MD_rule 57 = .ok (.iload_n 3, 1) := by decide +kernel
theorem d_MD_rule_58 : decode c_MD_rule 58 = .ok (.iastore, 1) := by decide +kernel
theorem d_MD_rule_59 : decode c_MD_rule 59 = .ok (.aload_n 0, 1) := by decide +kernel
theorem d_MD_rule_60 : decode c_MD_rule 60 = .ok (.aload_n 0, 1) := by decide +kernel
theorem d_MD_rule_61 : decode c_MD_rule 61 = .ok (.getfield 72, 3) := by decide +kernel
theorem d_MD_rule_64 : decode c_MD_rule 64 = .ok (.iconst 1, 1) := by decide +kernel
theorem d_MD_rule_65 : decode c_MD_rule 65 = .ok (.iadd, 1) := by decide +kernel
theorem d_MD_rule_66 : decode c_MD_rule 66 = .ok (.putfield 72, 3) := by decide +kernel
theorem d_MD_rule_69 : decode c_MD_rule 69 = .ok (.iconst 1, 1) := by decide +kernel
theorem d_MD_rule_70 : decode c_MD_rule 70 = .ok (.ireturn, 1) := by decide +kernel
theorem d_MD_isSelected_0 : decode c_MD_isSelected 0 = .ok (.iconst 1, 1) := by decide +kernel
theorem d_MD_isSelected_1 : decode c_MD_isSelected 1 = .ok (.istore_n 2, 1) := by decide +kernel
theorem d_MD_isSelected_2 : decode c_MD_isSelected 2 = .ok (.aload_n 0, 1) := by decide +kernel
theorem d_MD_isSelected_3 : decode c_MD_isSelected 3 = .ok (.getfield 72, 3) := by decide +kernel
theorem d_MD_isSelected_6 : decode c_MD_isSelected 6 = .ok (.iconst 1, 1) := by decide +kernel
theorem d_MD_isSelected_7 : decode c_MD_isSelected 7 = .ok (.isub, 1) := by decide +kernel
theorem d_MD_isSelected_8 : decode c_MD_isSelected 8 = .ok (.istore_n 3, 1) := by decide +kernel
theorem d_MD_isSelected_9 : decode c_MD_isSelected 9 = .ok (.iload_n 3, 1) := by decide +kernel
theorem d_MD_isSelected_10 : decode c_MD_isSelected 10 = .ok (.ifCond .lt 37, 3) := by decide +kernel
theorem d_MD_isSelected_13 : decode c_MD_isSelected 13 = .ok (.iload_n 1, 1) := by decide +kernel
theorem d_MD_isSelected_14 : decode c_MD_isSelected 14 = .ok (.aload_n 0, 1) := by decide +kernel
theorem d_MD_isSelected_15 : decode c_MD_isSelected 15 = .ok (.getfield 26, 3) := by decide +kernel
theorem d_MD_isSelected_18 : decode c_MD_isSelected 18 = .ok (.iload_n 3, 1) := by decide +kernel
theorem d_MD_isSelected_19 : decode c_MD_isSelected 19 = .ok (.iaload, 1) := by decide +kernel
theorem d_MD_isSelected_20 : decode c_MD_isSelected 20 = .ok (.iand, 1) := by decide +kernel
theorem d_MD_isSelected_21 : decode c_MD_isSelected 21 = .ok (.aload_n 0, 1) := by decide +kernel
theorem d_MD_isSelected_22 : decode c_MD_isSelected 22 = .ok (.getfield 29, 3) := by decide +kernel
theorem d_MD_isSelected_25 : decode c_MD_isSelected 25 = .ok (.iload_n 3, 1) := by decide +kernel
theorem d_MD_isSelected_26 : decode c_MD_isSelected 26 = .ok (.iaload, 1) := by decide +kernel
theorem d_MD_isSelected_27 : decode c_MD_isSelected 27 = .ok (.if_icmp .ne 12, 3) := by decide +kernel
theorem d_MD_isSelected_30 : decode c_MD_isSelected 30 = .ok (.aload_n 0, 1) := by decide +kernel
theorem d_MD_isSelected_31 : decode c_MD_isSelected 31 = .ok (.getfield 23, 3) := by decide +kernel
theorem d_MD_isSelected_34 : decode c_MD_isSelected 34 = .ok (.iload_n 3, 1) := by decide +kernel
theorem d_MD_isSelected_35 : decode c_MD_isSelected 35 = .ok (.baload, 1) := by decide +kernel
theorem d_MD_isSelected_36 : decode c_MD_isSelected 36 = .ok (.goto 4, 3) := by decide +kernel
theorem d_MD_isSelected_39 : decode c_MD_isSelected 39 = .ok (.iload_n 2, 1) := by decide +kernel
theorem d_MD_isSelected_40 : decode c_MD_isSelected 40 = .ok (.istore_n 2, 1) := by decide +kernel
theorem d_MD_isSelected_41 : decode c_MD_isSelected 41 = .ok (.iinc 3 (-1), 3) := by decide +kernel
theorem d_MD_isSelected_44 : decode c_MD_isSelected 44 = .ok (.goto (-35), 3) := by decide +kernel
theorem d_MD_isSelected_47 : decode c_MD_isSelected 47 = .ok (.iload_n 2, 1) := by decide +kernel
theorem d_MD_isSelected_48 : decode c_MD_isSelected 48 = .ok (.ireturn, 1) := by decide +kernel
theorem d_MD_selected_0 : decode c_MD_selected 0 = .ok (.iload_n 1, 1) := by decide +kernel
theorem d_MD_selected_1 : decode c_MD_selected 1 = .ok (.bipush 11, 2) := by decide +kernel
theorem d_MD_selected_3 : decode c_MD_selected 3 = .ok (.invokestatic 68, 3) := by decide +kernel
theorem d_MD_selected_6 : decode c_MD_selected 6 = .ok (.ifCond .eq 15, 3) := by decide +kernel
theorem d_MD_selected_9 : decode c_MD_selected 9 = .ok (.aload_n 0, 1) := by decide +kernel
theorem d_MD_selected_10 : decode c_MD_selected 10 = .ok (.iload_n 1, 1) := by decide +kernel
theorem d_MD_selected_11 : decode c_MD_selected 11 = .ok (.invokevirtual 76, 3) := by decide +kernel
theorem d_MD_selected_14 : decode c_MD_selected 14 = .ok (.ifCond .eq 7, 3) := by decide +kernel
theorem d_MD_selected_17 : decode c_MD_selected 17 = .ok (.iconst 1, 1) := by decide +kernel
theorem d_MD_selected_18 : decode c_MD_selected 18 = .ok (.goto 4, 3) := by decide +kernel
theorem d_MD_selected_21 : decode c_MD_selected 21 = .ok (.iconst 0, 1) := by decide +kernel
theorem d_MD_selected_22 : decode c_MD_selected 22 = .ok (.ireturn, 1) := by decide +kernel
theorem d_MD_file_0 : decode c_MD_file 0 = .ok (.iload_n 1, 1) := by decide +kernel
theorem d_MD_file_1 : decode c_MD_file 1 = .ok (.iconst 1, 1) := by decide +kernel
theorem d_MD_file_2 : decode c_MD_file 2 = .ok (.invokestatic 68, 3) := by decide +kernel
theorem d_MD_file_5 : decode c_MD_file 5 = .ok (.ifCond .eq 35, 3) := by decide +kernel
theorem d_MD_file_8 : decode c_MD_file 8 = .ok (.iload_n 2, 1) := by decide +kernel
theorem d_MD_file_9 : decode c_MD_file 9 = .ok (.bipush 11, 2) := by decide +kernel
theorem d_MD_file_11 : decode c_MD_file 11 = .ok (.invokestatic 68, 3) := by decide +kernel
theorem d_MD_file_14 : decode c_MD_file 14 = .ok (.ifCond .eq 26, 3) := by decide +kernel
theorem d_MD_file_17 : decode c_MD_file 17 = .ok (.aload_n 0, 1) := by decide +kernel
theorem d_MD_file_18 : decode c_MD_file 18 = .ok (.getfield 7, 3) := by decide +kernel
theorem d_MD_file_21 : decode c_MD_file 21 = .ok (.bipush 12, 2) := by decide +kernel
theorem d_MD_file_23 : decode c_MD_file 23 = .ok (.iload_n 1, 1) := by decide +kernel
theorem d_MD_file_24 : decode c_MD_file 24 = .ok (.imul, 1) := by decide +kernel
theorem d_MD_file_25 : decode c_MD_file 25 = .ok (.iload_n 2, 1) := by decide +kernel
theorem d_MD_file_26 : decode c_MD_file 26 = .ok (.iadd, 1) := by decide +kernel
theorem d_MD_file_27 : decode c_MD_file 27 = .ok (.baload, 1) := by decide +kernel
theorem d_MD_file_28 : decode c_MD_file 28 = .ok (.ifCond .eq 12, 3) := by decide +kernel
theorem d_MD_file_31 : decode c_MD_file 31 = .ok (.bipush 12, 2) := by decide +kernel
theorem d_MD_file_33 : decode c_MD_file 33 = .ok (.iload_n 1, 1) := by decide +kernel
theorem d_MD_file_34 : decode c_MD_file 34 = .ok (.imul, 1) := by decide +kernel
theorem d_MD_file_35 : decode c_MD_file 35 = .ok (.iload_n 2, 1) := by decide +kernel
theorem d_MD_file_36 : decode c_MD_file 36 = .ok (.iadd, 1) := by decide +kernel
theorem d_MD_file_37 : decode c_MD_file 37 = .ok (.goto 4, 3) := by decide +kernel
theorem d_MD_file_40 : decode c_MD_file 40 = .ok (.iconst (-1), 1) := by decide +kernel
theorem d_MD_file_41 : decode c_MD_file 41 = .ok (.ireturn, 1) := by decide +kernel
theorem d_MD_touch_0 : decode c_MD_touch 0 = .ok (.aload_n 0, 1) := by decide +kernel
theorem d_MD_touch_1 : decode c_MD_touch 1 = .ok (.aload_n 0, 1) := by decide +kernel
theorem d_MD_touch_2 : decode c_MD_touch 2 = .ok (.getfield 80, 3) := by decide +kernel
theorem d_MD_touch_5 : decode c_MD_touch 5 = .ok (.iconst 1, 1) := by decide +kernel
theorem d_MD_touch_6 : decode c_MD_touch 6 = .ok (.iadd, 1) := by decide +kernel
theorem d_MD_touch_7 : decode c_MD_touch 7 = .ok (.putfield 80, 3) := by decide +kernel
theorem d_MD_touch_10 : decode c_MD_touch 10 = .ok (.aload_n 0, 1) := by decide +kernel
theorem d_MD_touch_11 : decode c_MD_touch 11 = .ok (.getfield 17, 3) := by decide +kernel
theorem d_MD_touch_14 : decode c_MD_touch 14 = .ok (.iload_n 1, 1) := by decide +kernel
theorem d_MD_touch_15 : decode c_MD_touch 15 = .ok (.aload_n 0, 1) := by decide +kernel
theorem d_MD_touch_16 : decode c_MD_touch 16 = .ok (.getfield 80, 3) := by decide +kernel
theorem d_MD_touch_19 : decode c_MD_touch 19 = .ok (.iastore, 1) := by decide +kernel
theorem d_MD_touch_20 : decode c_MD_touch 20 = .ok (.return_, 1) := by decide +kernel
theorem d_MD_put_0 : decode c_MD_put 0 = .ok (.iload_n 1, 1) := by decide +kernel
theorem d_MD_put_1 : decode c_MD_put 1 = .ok (.iconst 1, 1) := by decide +kernel
theorem d_MD_put_2 : decode c_MD_put 2 = .ok (.invokestatic 68, 3) := by decide +kernel
theorem d_MD_put_5 : decode c_MD_put 5 = .ok (.ifCond .eq 22, 3) := by decide +kernel
theorem d_MD_put_8 : decode c_MD_put 8 = .ok (.iload_n 2, 1) := by decide +kernel
theorem d_MD_put_9 : decode c_MD_put 9 = .ok (.bipush 11, 2) := by decide +kernel
theorem d_MD_put_11 : decode c_MD_put 11 = .ok (.invokestatic 68, 3) := by decide +kernel
theorem d_MD_put_14 : decode c_MD_put 14 = .ok (.ifCond .eq 13, 3) := by decide +kernel
theorem d_MD_put_17 : decode c_MD_put 17 = .ok (.iload_n 3, 1) := by decide +kernel
theorem d_MD_put_18 : decode c_MD_put 18 = .ok (.sipush 255, 3) := by decide +kernel
theorem d_MD_put_21 : decode c_MD_put 21 = .ok (.invokestatic 68, 3) := by decide +kernel
theorem d_MD_put_24 : decode c_MD_put 24 = .ok (.ifCond .ne 5, 3) := by decide +kernel
theorem d_MD_put_27 : decode c_MD_put 27 = .ok (.iconst 0, 1) := by decide +kernel
theorem d_MD_put_28 : decode c_MD_put 28 = .ok (.ireturn, 1) := by decide +kernel
theorem d_MD_put_29 : decode c_MD_put 29 = .ok (.bipush 12, 2) := by decide +kernel
theorem d_MD_put_31 : decode c_MD_put 31 = .ok (.iload_n 1, 1) := by decide +kernel
theorem d_MD_put_32 : decode c_MD_put 32 = .ok (.imul, 1) := by decide +kernel
theorem d_MD_put_33 : decode c_MD_put 33 = .ok (.iload_n 2, 1) := by decide +kernel
theorem d_MD_put_34 : decode c_MD_put 34 = .ok (.iadd, 1) := by decide +kernel
theorem d_MD_put_35 : decode c_MD_put 35 = .ok (.istore 4, 2) := by decide +kernel
theorem d_MD_put_37 : decode c_MD_put 37 = .ok (.aload_n 0, 1) := by decide +kernel
theorem d_MD_put_38 : decode c_MD_put 38 = .ok (.getfield 7, 3) := by decide +kernel
theorem d_MD_put_41 : decode c_MD_put 41 = .ok (.iload 4, 2) := by decide +kernel
theorem d_MD_put_43 : decode c_MD_put 43 = .ok (.baload, 1) := by decide +kernel
theorem d_MD_put_44 : decode c_MD_put 44 = .ok (.ifCond .eq 13, 3) := by decide +kernel
theorem d_MD_put_47 : decode c_MD_put 47 = .ok (.aload_n 0, 1) := by decide +kernel
theorem d_MD_put_48 : decode c_MD_put 48 = .ok (.getfield 13, 3) := by decide +kernel
theorem d_MD_put_51 : decode c_MD_put 51 = .ok (.iload 4, 2) := by decide +kernel
theorem d_MD_put_53 : decode c_MD_put 53 = .ok (.iaload, 1) := by decide +kernel
theorem d_MD_put_54 : decode c_MD_put 54 = .ok (.goto 4, 3) := by decide +kernel
theorem d_MD_put_57 : decode c_MD_put 57 = .ok (.iconst 0, 1) := by decide +kernel
theorem d_MD_put_58 : decode c_MD_put 58 = .ok (.istore 5, 2) := by decide +kernel
theorem d_MD_put_60 : decode c_MD_put 60 = .ok (.iload 5, 2) := by decide +kernel
theorem d_MD_put_62 : decode c_MD_put 62 = .ok (.bipush 40, 2) := by decide +kernel
theorem d_MD_put_64 : decode c_MD_put 64 = .ok (.if_icmp .lt 5, 3) := by decide +kernel
theorem d_MD_put_67 : decode c_MD_put 67 = .ok (.iconst 0, 1) := by decide +kernel
theorem d_MD_put_68 : decode c_MD_put 68 = .ok (.ireturn, 1) := by decide +kernel
theorem d_MD_put_69 : decode c_MD_put 69 = .ok (.aload_n 0, 1) := by decide +kernel
theorem d_MD_put_70 : decode c_MD_put 70 = .ok (.getfield 7, 3) := by decide +kernel
theorem d_MD_put_73 : decode c_MD_put 73 = .ok (.iload 4, 2) := by decide +kernel
theorem d_MD_put_75 : decode c_MD_put 75 = .ok (.iconst 1, 1) := by decide +kernel
theorem d_MD_put_76 : decode c_MD_put 76 = .ok (.bastore, 1) := by decide +kernel
theorem d_MD_put_77 : decode c_MD_put 77 = .ok (.aload_n 0, 1) := by decide +kernel
theorem d_MD_put_78 : decode c_MD_put 78 = .ok (.getfield 20, 3) := by decide +kernel
theorem d_MD_put_81 : decode c_MD_put 81 = .ok (.bipush 40, 2) := by decide +kernel
theorem d_MD_put_83 : decode c_MD_put 83 = .ok (.iload 4, 2) := by decide +kernel
theorem d_MD_put_85 : decode c_MD_put 85 = .ok (.imul, 1) := by decide +kernel
theorem d_MD_put_86 : decode c_MD_put 86 = .ok (.iload 5, 2) := by decide +kernel
theorem d_MD_put_88 : decode c_MD_put 88 = .ok (.iadd, 1) := by decide +kernel
theorem d_MD_put_89 : decode c_MD_put 89 = .ok (.iload_n 3, 1) := by decide +kernel
theorem d_MD_put_90 : decode c_MD_put 90 = .ok (.iastore, 1) := by decide +kernel
theorem d_MD_put_91 : decode c_MD_put 91 = .ok (.aload_n 0, 1) := by decide +kernel
theorem d_MD_put_92 : decode c_MD_put 92 = .ok (.getfield 13, 3) := by decide +kernel
theorem d_MD_put_95 : decode c_MD_put 95 = .ok (.iload 4, 2) := by decide +kernel
theorem d_MD_put_97 : decode c_MD_put 97 = .ok (.iload 5, 2) := by decide +kernel
theorem d_MD_put_99 : decode c_MD_put 99 = .ok (.iconst 1, 1) := by decide +kernel
theorem d_MD_put_100 : decode c_MD_put 100 = .ok (.iadd, 1) := by decide +kernel
theorem d_MD_put_101 : decode c_MD_put 101 = .ok (.iastore, 1) := by decide +kernel
theorem d_MD_put_102 : decode c_MD_put 102 = .ok (.aload_n 0, 1) := by decide +kernel
theorem d_MD_put_103 : decode c_MD_put 103 = .ok (.iload 4, 2) := by decide +kernel
theorem d_MD_put_105 : decode c_MD_put 105 = .ok (.invokevirtual 83, 3) := by decide +kernel
theorem d_MD_put_108 : decode c_MD_put 108 = .ok (.iconst 1, 1) := by decide +kernel
theorem d_MD_put_109 : decode c_MD_put 109 = .ok (.ireturn, 1) := by decide +kernel
theorem d_MD_set_0 : decode c_MD_set 0 = .ok (.aload_n 0, 1) := by decide +kernel
theorem d_MD_set_1 : decode c_MD_set 1 = .ok (.iload_n 1, 1) := by decide +kernel
theorem d_MD_set_2 : decode c_MD_set 2 = .ok (.iload_n 2, 1) := by decide +kernel
theorem d_MD_set_3 : decode c_MD_set 3 = .ok (.invokevirtual 87, 3) := by decide +kernel
theorem d_MD_set_6 : decode c_MD_set 6 = .ok (.istore 5, 2) := by decide +kernel
theorem d_MD_set_8 : decode c_MD_set 8 = .ok (.iload 5, 2) := by decide +kernel
theorem d_MD_set_10 : decode c_MD_set 10 = .ok (.ifCond .lt 30, 3) := by decide +kernel
theorem d_MD_set_13 : decode c_MD_set 13 = .ok (.iload_n 3, 1) := by decide +kernel
theorem d_MD_set_14 : decode c_MD_set 14 = .ok (.aload_n 0, 1) := by decide +kernel
theorem d_MD_set_15 : decode c_MD_set 15 = .ok (.getfield 13, 3) := by decide +kernel
theorem d_MD_set_18 : decode c_MD_set 18 = .ok (.iload 5, 2) := by decide +kernel
theorem d_MD_set_20 : decode c_MD_set 20 = .ok (.iaload, 1) := by decide +kernel
theorem d_MD_set_21 : decode c_MD_set 21 = .ok (.iconst 1, 1) := by decide +kernel
theorem d_MD_set_22 : decode c_MD_set 22 = .ok (.isub, 1) := by decide +kernel
theorem d_MD_set_23 : decode c_MD_set 23 = .ok (.invokestatic 68, 3) := by decide +kernel
theorem d_MD_set_26 : decode c_MD_set 26 = .ok (.ifCond .eq 14, 3) := by decide +kernel
theorem d_MD_set_29 : decode c_MD_set 29 = .ok (.iload 4, 2) := by decide +kernel
theorem d_MD_set_31 : decode c_MD_set 31 = .ok (.sipush 255, 3) := by decide +kernel
theorem d_MD_set_34 : decode c_MD_set 34 = .ok (.invokestatic 68, 3) := by decide +kernel
theorem d_MD_set_37 : decode c_MD_set 37 = .ok (.ifCond .ne 5, 3) := by decide +kernel
theorem d_MD_set_40 : decode c_MD_set 40 = .ok (.iconst 0, 1) := by decide +kernel
theorem d_MD_set_41 : decode c_MD_set 41 = .ok (.ireturn, 1) := by decide +kernel
theorem d_MD_set_42 : decode c_MD_set 42 = .ok (.aload_n 0, 1) := by decide +kernel
theorem d_MD_set_43 : decode c_MD_set 43 = .ok (.getfield 20, 3) := by decide +kernel
theorem d_MD_set_46 : decode c_MD_set 46 = .ok (.bipush 40, 2) := by decide +kernel
theorem d_MD_set_48 : decode c_MD_set 48 = .ok (.iload 5, 2) := by decide +kernel
theorem d_MD_set_50 : decode c_MD_set 50 = .ok (.imul, 1) := by decide +kernel
theorem d_MD_set_51 : decode c_MD_set 51 = .ok (.iload_n 3, 1) := by decide +kernel
theorem d_MD_set_52 : decode c_MD_set 52 = .ok (.iadd, 1) := by decide +kernel
theorem d_MD_set_53 : decode c_MD_set 53 = .ok (.iload 4, 2) := by decide +kernel
theorem d_MD_set_55 : decode c_MD_set 55 = .ok (.iastore, 1) := by decide +kernel
theorem d_MD_set_56 : decode c_MD_set 56 = .ok (.aload_n 0, 1) := by decide +kernel
theorem d_MD_set_57 : decode c_MD_set 57 = .ok (.iload 5, 2) := by decide +kernel
theorem d_MD_set_59 : decode c_MD_set 59 = .ok (.invokevirtual 83, 3) := by decide +kernel
theorem d_MD_set_62 : decode c_MD_set 62 = .ok (.iconst 1, 1) := by decide +kernel
theorem d_MD_set_63 : decode c_MD_set 63 = .ok (.ireturn, 1) := by decide +kernel
theorem d_MD_remove_0 : decode c_MD_remove 0 = .ok (.aload_n 0, 1) := by decide +kernel
theorem d_MD_remove_1 : decode c_MD_remove 1 = .ok (.iload_n 1, 1) := by decide +kernel
theorem d_MD_remove_2 : decode c_MD_remove 2 = .ok (.iload_n 2, 1) := by decide +kernel
theorem d_MD_remove_3 : decode c_MD_remove 3 = .ok (.invokevirtual 87, 3) := by decide +kernel
theorem d_MD_remove_6 : decode c_MD_remove 6 = .ok (.istore_n 3, 1) := by decide +kernel
theorem d_MD_remove_7 : decode c_MD_remove 7 = .ok (.iload_n 3, 1) := by decide +kernel
theorem d_MD_remove_8 : decode c_MD_remove 8 = .ok (.ifCond .ge 5, 3) := by decide +kernel
theorem d_MD_remove_11 : decode c_MD_remove 11 = .ok (.iconst 0, 1) := by decide +kernel
theorem d_MD_remove_12 : decode c_MD_remove 12 = .ok (.ireturn, 1) := by decide +kernel
theorem d_MD_remove_13 : decode c_MD_remove 13 = .ok (.aload_n 0, 1) := by decide +kernel
theorem d_MD_remove_14 : decode c_MD_remove 14 = .ok (.getfield 7, 3) := by decide +kernel
theorem d_MD_remove_17 : decode c_MD_remove 17 = .ok (.iload_n 3, 1) := by decide +kernel
theorem d_MD_remove_18 : decode c_MD_remove 18 = .ok (.iconst 0, 1) := by decide +kernel
theorem d_MD_remove_19 : decode c_MD_remove 19 = .ok (.bastore, 1) := by decide +kernel
theorem d_MD_remove_20 : decode c_MD_remove 20 = .ok (.aload_n 0, 1) := by decide +kernel
theorem d_MD_remove_21 : decode c_MD_remove 21 = .ok (.aload_n 0, 1) := by decide +kernel
theorem d_MD_remove_22 : decode c_MD_remove 22 = .ok (.getfield 80, 3) := by decide +kernel
theorem d_MD_remove_25 : decode c_MD_remove 25 = .ok (.iconst 1, 1) := by decide +kernel
theorem d_MD_remove_26 : decode c_MD_remove 26 = .ok (.iadd, 1) := by decide +kernel
theorem d_MD_remove_27 : decode c_MD_remove 27 = .ok (.putfield 80, 3) := by decide +kernel
theorem d_MD_remove_30 : decode c_MD_remove 30 = .ok (.iconst 1, 1) := by decide +kernel
theorem d_MD_remove_31 : decode c_MD_remove 31 = .ok (.ireturn, 1) := by decide +kernel
theorem d_MD_size_0 : decode c_MD_size 0 = .ok (.aload_n 0, 1) := by decide +kernel
theorem d_MD_size_1 : decode c_MD_size 1 = .ok (.iload_n 1, 1) := by decide +kernel
theorem d_MD_size_2 : decode c_MD_size 2 = .ok (.iload_n 2, 1) := by decide +kernel
theorem d_MD_size_3 : decode c_MD_size 3 = .ok (.invokevirtual 87, 3) := by decide +kernel
theorem d_MD_size_6 : decode c_MD_size 6 = .ok (.istore_n 3, 1) := by decide +kernel
theorem d_MD_size_7 : decode c_MD_size 7 = .ok (.iload_n 3, 1) := by decide +kernel
theorem d_MD_size_8 : decode c_MD_size 8 = .ok (.ifCond .ge 7, 3) := by decide +kernel
theorem d_MD_size_11 : decode c_MD_size 11 = .ok (.iconst (-1), 1) := by decide +kernel
theorem d_MD_size_12 : decode c_MD_size 12 = .ok (.goto 9, 3) := by decide +kernel
theorem d_MD_size_15 : decode c_MD_size 15 = .ok (.aload_n 0, 1) := by decide +kernel
theorem d_MD_size_16 : decode c_MD_size 16 = .ok (.getfield 13, 3) := by decide +kernel
theorem d_MD_size_19 : decode c_MD_size 19 = .ok (.iload_n 3, 1) := by decide +kernel
theorem d_MD_size_20 : decode c_MD_size 20 = .ok (.iaload, 1) := by decide +kernel
theorem d_MD_size_21 : decode c_MD_size 21 = .ok (.ireturn, 1) := by decide +kernel
theorem d_MD_at_0 : decode c_MD_at 0 = .ok (.aload_n 0, 1) := by decide +kernel
theorem d_MD_at_1 : decode c_MD_at 1 = .ok (.iload_n 1, 1) := by decide +kernel
theorem d_MD_at_2 : decode c_MD_at 2 = .ok (.iload_n 2, 1) := by decide +kernel
theorem d_MD_at_3 : decode c_MD_at 3 = .ok (.invokevirtual 87, 3) := by decide +kernel
theorem d_MD_at_6 : decode c_MD_at 6 = .ok (.istore 4, 2) := by decide +kernel
theorem d_MD_at_8 : decode c_MD_at 8 = .ok (.iload 4, 2) := by decide +kernel
theorem d_MD_at_10 : decode c_MD_at 10 = .ok (.ifCond .lt 19, 3) := by decide +kernel
theorem d_MD_at_13 : decode c_MD_at 13 = .ok (.iload_n 3, 1) := by decide +kernel
theorem d_MD_at_14 : decode c_MD_at 14 = .ok (.aload_n 0, 1) := by decide +kernel
theorem d_MD_at_15 : decode c_MD_at 15 = .ok (.getfield 13, 3) := by decide +kernel
theorem d_MD_at_18 : decode c_MD_at 18 = .ok (.iload 4, 2) := by decide +kernel
theorem d_MD_at_20 : decode c_MD_at 20 = .ok (.iaload, 1) := by decide +kernel
theorem d_MD_at_21 : decode c_MD_at 21 = .ok (.iconst 1, 1) := by decide +kernel
theorem d_MD_at_22 : decode c_MD_at 22 = .ok (.isub, 1) := by decide +kernel
theorem d_MD_at_23 : decode c_MD_at 23 = .ok (.invokestatic 68, 3) := by decide +kernel
theorem d_MD_at_26 : decode c_MD_at 26 = .ok (.ifCond .ne 7, 3) := by decide +kernel
theorem d_MD_at_29 : decode c_MD_at 29 = .ok (.iconst (-1), 1) := by decide +kernel
theorem d_MD_at_30 : decode c_MD_at 30 = .ok (.goto 15, 3) := by decide +kernel
theorem d_MD_at_33 : decode c_MD_at 33 = .ok (.aload_n 0, 1) := by decide +kernel
theorem d_MD_at_34 : decode c_MD_at 34 = .ok (.getfield 20, 3) := by decide +kernel
theorem d_MD_at_37 : decode c_MD_at 37 = .ok (.bipush 40, 2) := by decide +kernel
theorem d_MD_at_39 : decode c_MD_at 39 = .ok (.iload 4, 2) := by decide +kernel
theorem d_MD_at_41 : decode c_MD_at 41 = .ok (.imul, 1) := by decide +kernel
theorem d_MD_at_42 : decode c_MD_at 42 = .ok (.iload_n 3, 1) := by decide +kernel
theorem d_MD_at_43 : decode c_MD_at 43 = .ok (.iadd, 1) := by decide +kernel
theorem d_MD_at_44 : decode c_MD_at 44 = .ok (.iaload, 1) := by decide +kernel
theorem d_MD_at_45 : decode c_MD_at 45 = .ok (.ireturn, 1) := by decide +kernel
theorem d_MD_time_0 : decode c_MD_time 0 = .ok (.aload_n 0, 1) := by decide +kernel
theorem d_MD_time_1 : decode c_MD_time 1 = .ok (.iload_n 1, 1) := by decide +kernel
theorem d_MD_time_2 : decode c_MD_time 2 = .ok (.iload_n 2, 1) := by decide +kernel
theorem d_MD_time_3 : decode c_MD_time 3 = .ok (.invokevirtual 87, 3) := by decide +kernel
theorem d_MD_time_6 : decode c_MD_time 6 = .ok (.istore_n 3, 1) := by decide +kernel
theorem d_MD_time_7 : decode c_MD_time 7 = .ok (.iload_n 3, 1) := by decide +kernel
theorem d_MD_time_8 : decode c_MD_time 8 = .ok (.ifCond .ge 7, 3) := by decide +kernel
theorem d_MD_time_11 : decode c_MD_time 11 = .ok (.iconst (-1), 1) := by decide +kernel
theorem d_MD_time_12 : decode c_MD_time 12 = .ok (.goto 9, 3) := by decide +kernel
theorem d_MD_time_15 : decode c_MD_time 15 = .ok (.aload_n 0, 1) := by decide +kernel
theorem d_MD_time_16 : decode c_MD_time 16 = .ok (.getfield 17, 3) := by decide +kernel
theorem d_MD_time_19 : decode c_MD_time 19 = .ok (.iload_n 3, 1) := by decide +kernel
theorem d_MD_time_20 : decode c_MD_time 20 = .ok (.iaload, 1) := by decide +kernel
theorem d_MD_time_21 : decode c_MD_time 21 = .ok (.ireturn, 1) := by decide +kernel
theorem d_MD_weak_0 : decode c_MD_weak 0 = .ok (.iconst 0, 1) := by decide +kernel
theorem d_MD_weak_1 : decode c_MD_weak 1 = .ok (.istore_n 3, 1) := by decide +kernel
theorem d_MD_weak_2 : decode c_MD_weak 2 = .ok (.iconst 0, 1) := by decide +kernel
theorem d_MD_weak_3 : decode c_MD_weak 3 = .ok (.istore 4, 2) := by decide +kernel
theorem d_MD_weak_5 : decode c_MD_weak 5 = .ok (.iconst 0, 1) := by decide +kernel
theorem d_MD_weak_6 : decode c_MD_weak 6 = .ok (.istore 5, 2) := by decide +kernel
theorem d_MD_weak_8 : decode c_MD_weak 8 = .ok (.iload 5, 2) := by decide +kernel
theorem d_MD_weak_10 : decode c_MD_weak 10 = .ok (.iload_n 2, 1) := by decide +kernel
theorem d_MD_weak_11 : decode c_MD_weak 11 = .ok (.if_icmp .ge 40, 3) := by decide +kernel
theorem d_MD_weak_14 : decode c_MD_weak 14 = .ok (.iload_n 3, 1) := by decide +kernel
theorem d_MD_weak_15 : decode c_MD_weak 15 = .ok (.aload_n 0, 1) := by decide +kernel
theorem d_MD_weak_16 : decode c_MD_weak 16 = .ok (.getfield 20, 3) := by decide +kernel
theorem d_MD_weak_19 : decode c_MD_weak 19 = .ok (.iload_n 1, 1) := by decide +kernel
theorem d_MD_weak_20 : decode c_MD_weak 20 = .ok (.iload 5, 2) := by decide +kernel
theorem d_MD_weak_22 : decode c_MD_weak 22 = .ok (.iadd, 1) := by decide +kernel
theorem d_MD_weak_23 : decode c_MD_weak 23 = .ok (.iaload, 1) := by decide +kernel
theorem d_MD_weak_24 : decode c_MD_weak 24 = .ok (.iadd, 1) := by decide +kernel
theorem d_MD_weak_25 : decode c_MD_weak 25 = .ok (.istore_n 3, 1) := by decide +kernel
theorem d_MD_weak_26 : decode c_MD_weak 26 = .ok (.iload 4, 2) := by decide +kernel
theorem d_MD_weak_28 : decode c_MD_weak 28 = .ok (.iload_n 2, 1) := by decide +kernel
theorem d_MD_weak_29 : decode c_MD_weak 29 = .ok (.iload 5, 2) := by decide +kernel
theorem d_MD_weak_31 : decode c_MD_weak 31 = .ok (.isub, 1) := by decide +kernel
theorem d_MD_weak_32 : decode c_MD_weak 32 = .ok (.aload_n 0, 1) := by decide +kernel
theorem d_MD_weak_33 : decode c_MD_weak 33 = .ok (.getfield 20, 3) := by decide +kernel
theorem d_MD_weak_36 : decode c_MD_weak 36 = .ok (.iload_n 1, 1) := by decide +kernel
theorem d_MD_weak_37 : decode c_MD_weak 37 = .ok (.iload 5, 2) := by decide +kernel
theorem d_MD_weak_39 : decode c_MD_weak 39 = .ok (.iadd, 1) := by decide +kernel
theorem d_MD_weak_40 : decode c_MD_weak 40 = .ok (.iaload, 1) := by decide +kernel
theorem d_MD_weak_41 : decode c_MD_weak 41 = .ok (.imul, 1) := by decide +kernel
theorem d_MD_weak_42 : decode c_MD_weak 42 = .ok (.iadd, 1) := by decide +kernel
theorem d_MD_weak_43 : decode c_MD_weak 43 = .ok (.istore 4, 2) := by decide +kernel
theorem d_MD_weak_45 : decode c_MD_weak 45 = .ok (.iinc 5 1, 3) := by decide +kernel
theorem d_MD_weak_48 : decode c_MD_weak 48 = .ok (.goto (-40), 3) := by decide +kernel
theorem d_MD_weak_51 : decode c_MD_weak 51 = .ok (.iload_n 3, 1) := by decide +kernel
theorem d_MD_weak_52 : decode c_MD_weak 52 = .ok (.bipush 16, 2) := by decide +kernel
theorem d_MD_weak_54 : decode c_MD_weak 54 = .ok (.irem, 1) := by decide +kernel
theorem d_MD_weak_55 : decode c_MD_weak 55 = .ok (.bipush 16, 2) := by decide +kernel
theorem d_MD_weak_57 : decode c_MD_weak 57 = .ok (.iload 4, 2) := by decide +kernel
theorem d_MD_weak_59 : decode c_MD_weak 59 = .ok (.bipush 16, 2) := by decide +kernel
theorem d_MD_weak_61 : decode c_MD_weak 61 = .ok (.irem, 1) := by decide +kernel
theorem d_MD_weak_62 : decode c_MD_weak 62 = .ok (.imul, 1) := by decide +kernel
theorem d_MD_weak_63 : decode c_MD_weak 63 = .ok (.iadd, 1) := by decide +kernel
theorem d_MD_weak_64 : decode c_MD_weak 64 = .ok (.ireturn, 1) := by decide +kernel
theorem d_MD_strong_0 : decode c_MD_strong 0 = .ok (.iconst 0, 1) := by decide +kernel
theorem d_MD_strong_1 : decode c_MD_strong 1 = .ok (.istore 4, 2) := by decide +kernel
theorem d_MD_strong_3 : decode c_MD_strong 3 = .ok (.iconst 0, 1) := by decide +kernel
theorem d_MD_strong_4 : decode c_MD_strong 4 = .ok (.istore 5, 2) := by decide +kernel
theorem d_MD_strong_6 : decode c_MD_strong 6 = .ok (.iload 5, 2) := by decide +kernel
theorem d_MD_strong_8 : decode c_MD_strong 8 = .ok (.iload_n 2, 1) := by decide +kernel
theorem d_MD_strong_9 : decode c_MD_strong 9 = .ok (.if_icmp .ge 31, 3) := by decide +kernel
theorem d_MD_strong_12 : decode c_MD_strong 12 = .ok (.iload 4, 2) := by decide +kernel
theorem d_MD_strong_14 : decode c_MD_strong 14 = .ok (.bipush 31, 2) := by decide +kernel
theorem d_MD_strong_16 : decode c_MD_strong 16 = .ok (.imul, 1) := by decide +kernel
theorem d_MD_strong_17 : decode c_MD_strong 17 = .ok (.aload_n 0, 1) := by decide +kernel
theorem d_MD_strong_18 : decode c_MD_strong 18 = .ok (.getfield 20, 3) := by decide +kernel
theorem d_MD_strong_21 : decode c_MD_strong 21 = .ok (.iload_n 1, 1) := by decide +kernel
theorem d_MD_strong_22 : decode c_MD_strong 22 = .ok (.iload 5, 2) := by decide +kernel
theorem d_MD_strong_24 : decode c_MD_strong 24 = .ok (.iadd, 1) := by decide +kernel
theorem d_MD_strong_25 : decode c_MD_strong 25 = .ok (.iaload, 1) := by decide +kernel
theorem d_MD_strong_26 : decode c_MD_strong 26 = .ok (.iadd, 1) := by decide +kernel
theorem d_MD_strong_27 : decode c_MD_strong 27 = .ok (.iconst 1, 1) := by decide +kernel
theorem d_MD_strong_28 : decode c_MD_strong 28 = .ok (.iadd, 1) := by decide +kernel
theorem d_MD_strong_29 : decode c_MD_strong 29 = .ok (.ldc 91, 2) := by decide +kernel
theorem d_MD_strong_31 : decode c_MD_strong 31 = .ok (.irem, 1) := by decide +kernel
theorem d_MD_strong_32 : decode c_MD_strong 32 = .ok (.istore 4, 2) := by decide +kernel
theorem d_MD_strong_34 : decode c_MD_strong 34 = .ok (.iinc 5 1, 3) := by decide +kernel
theorem d_MD_strong_37 : decode c_MD_strong 37 = .ok (.goto (-31), 3) := by decide +kernel
theorem d_MD_strong_40 : decode c_MD_strong 40 = .ok (.iload_n 3, 1) := by decide +kernel
theorem d_MD_strong_41 : decode c_MD_strong 41 = .ok (.iconst 1, 1) := by decide +kernel
theorem d_MD_strong_42 : decode c_MD_strong 42 = .ok (.if_icmp .ne 10, 3) := by decide +kernel
theorem d_MD_strong_45 : decode c_MD_strong 45 = .ok (.iload 4, 2) := by decide +kernel
theorem d_MD_strong_47 : decode c_MD_strong 47 = .ok (.iconst 4, 1) := by decide +kernel
theorem d_MD_strong_48 : decode c_MD_strong 48 = .ok (.irem, 1) := by decide +kernel
theorem d_MD_strong_49 : decode c_MD_strong 49 = .ok (.goto 5, 3) := by decide +kernel
theorem d_MD_strong_52 : decode c_MD_strong 52 = .ok (.iload 4, 2) := by decide +kernel
theorem d_MD_strong_54 : decode c_MD_strong 54 = .ok (.ireturn, 1) := by decide +kernel
theorem d_MD_message_0 : decode c_MD_message 0 = .ok (.aload_n 0, 1) := by decide +kernel
theorem d_MD_message_1 : decode c_MD_message 1 = .ok (.sipush 1440, 3) := by decide +kernel
theorem d_MD_message_4 : decode c_MD_message 4 = .ok (.iload_n 1, 1) := by decide +kernel
theorem d_MD_message_5 : decode c_MD_message 5 = .ok (.imul, 1) := by decide +kernel
theorem d_MD_message_6 : decode c_MD_message 6 = .ok (.bipush 90, 2) := by decide +kernel
theorem d_MD_message_8 : decode c_MD_message 8 = .ok (.aload_n 0, 1) := by decide +kernel
theorem d_MD_message_9 : decode c_MD_message 9 = .ok (.getfield 44, 3) := by decide +kernel
theorem d_MD_message_12 : decode c_MD_message 12 = .ok (.iload_n 1, 1) := by decide +kernel
theorem d_MD_message_13 : decode c_MD_message 13 = .ok (.iaload, 1) := by decide +kernel
theorem d_MD_message_14 : decode c_MD_message 14 = .ok (.imul, 1) := by decide +kernel
theorem d_MD_message_15 : decode c_MD_message 15 = .ok (.iadd, 1) := by decide +kernel
theorem d_MD_message_16 : decode c_MD_message 16 = .ok (.putfield 92, 3) := by decide +kernel
theorem d_MD_message_19 : decode c_MD_message 19 = .ok (.aload_n 0, 1) := by decide +kernel
theorem d_MD_message_20 : decode c_MD_message 20 = .ok (.getfield 44, 3) := by decide +kernel
theorem d_MD_message_23 : decode c_MD_message 23 = .ok (.iload_n 1, 1) := by decide +kernel
theorem d_MD_message_24 : decode c_MD_message 24 = .ok (.aload_n 0, 1) := by decide +kernel
theorem d_MD_message_25 : decode c_MD_message 25 = .ok (.getfield 44, 3) := by decide +kernel
theorem d_MD_message_28 : decode c_MD_message 28 = .ok (.iload_n 1, 1) := by decide +kernel
theorem d_MD_message_29 : decode c_MD_message 29 = .ok (.iaload, 1) := by decide +kernel
theorem d_MD_message_30 : decode c_MD_message 30 = .ok (.iconst 1, 1) := by decide +kernel
theorem d_MD_message_31 : decode c_MD_message 31 = .ok (.iadd, 1) := by decide +kernel
theorem d_MD_message_32 : decode c_MD_message 32 = .ok (.iastore, 1) := by decide +kernel
theorem d_MD_message_33 : decode c_MD_message 33 = .ok (.aload_n 0, 1) := by decide +kernel
theorem d_MD_message_34 : decode c_MD_message 34 = .ok (.getfield 47, 3) := by decide +kernel
theorem d_MD_message_37 : decode c_MD_message 37 = .ok (.aload_n 0, 1) := by decide +kernel
theorem d_MD_message_38 : decode c_MD_message 38 = .ok (.getfield 92, 3) := by decide +kernel
theorem d_MD_message_41 : decode c_MD_message 41 = .ok (.iload_n 2, 1) := by decide +kernel
theorem d_MD_message_42 : decode c_MD_message 42 = .ok (.iastore, 1) := by decide +kernel
theorem d_MD_message_43 : decode c_MD_message 43 = .ok (.aload_n 0, 1) := by decide +kernel
theorem d_MD_message_44 : decode c_MD_message 44 = .ok (.getfield 47, 3) := by decide +kernel
theorem d_MD_message_47 : decode c_MD_message 47 = .ok (.aload_n 0, 1) := by decide +kernel
theorem d_MD_message_48 : decode c_MD_message 48 = .ok (.getfield 92, 3) := by decide +kernel
theorem d_MD_message_51 : decode c_MD_message 51 = .ok (.iconst 1, 1) := by decide +kernel
theorem d_MD_message_52 : decode c_MD_message 52 = .ok (.iadd, 1) := by decide +kernel
theorem d_MD_message_53 : decode c_MD_message 53 = .ok (.iload_n 3, 1) := by decide +kernel
theorem d_MD_message_54 : decode c_MD_message 54 = .ok (.iastore, 1) := by decide +kernel
theorem d_MD_message_55 : decode c_MD_message 55 = .ok (.aload_n 0, 1) := by decide +kernel
theorem d_MD_message_56 : decode c_MD_message 56 = .ok (.getfield 47, 3) := by decide +kernel
theorem d_MD_message_59 : decode c_MD_message 59 = .ok (.aload_n 0, 1) := by decide +kernel
theorem d_MD_message_60 : decode c_MD_message 60 = .ok (.getfield 92, 3) := by decide +kernel
theorem d_MD_message_63 : decode c_MD_message 63 = .ok (.iconst 2, 1) := by decide +kernel
theorem d_MD_message_64 : decode c_MD_message 64 = .ok (.iadd, 1) := by decide +kernel
theorem d_MD_message_65 : decode c_MD_message 65 = .ok (.iload 4, 2) := by decide +kernel
theorem d_MD_message_67 : decode c_MD_message 67 = .ok (.iastore, 1) := by decide +kernel
theorem d_MD_message_68 : decode c_MD_message 68 = .ok (.aload_n 0, 1) := by decide +kernel
theorem d_MD_message_69 : decode c_MD_message 69 = .ok (.getfield 47, 3) := by decide +kernel
theorem d_MD_message_72 : decode c_MD_message 72 = .ok (.aload_n 0, 1) := by decide +kernel
theorem d_MD_message_73 : decode c_MD_message 73 = .ok (.getfield 92, 3) := by decide +kernel
theorem d_MD_message_76 : decode c_MD_message 76 = .ok (.iconst 3, 1) := by decide +kernel
theorem d_MD_message_77 : decode c_MD_message 77 = .ok (.iadd, 1) := by decide +kernel
theorem d_MD_message_78 : decode c_MD_message 78 = .ok (.iload 5, 2) := by decide +kernel
theorem d_MD_message_80 : decode c_MD_message 80 = .ok (.iastore, 1) := by decide +kernel
theorem d_MD_message_81 : decode c_MD_message 81 = .ok (.aload_n 0, 1) := by decide +kernel
theorem d_MD_message_82 : decode c_MD_message 82 = .ok (.getfield 47, 3) := by decide +kernel
theorem d_MD_message_85 : decode c_MD_message 85 = .ok (.aload_n 0, 1) := by decide +kernel
theorem d_MD_message_86 : decode c_MD_message 86 = .ok (.getfield 92, 3) := by decide +kernel
theorem d_MD_message_89 : decode c_MD_message 89 = .ok (.iconst 4, 1) := by decide +kernel
theorem d_MD_message_90 : decode c_MD_message 90 = .ok (.iadd, 1) := by decide +kernel
theorem d_MD_message_91 : decode c_MD_message 91 = .ok (.iload 6, 2) := by decide +kernel
theorem d_MD_message_93 : decode c_MD_message 93 = .ok (.iastore, 1) := by decide +kernel
theorem d_MD_message_94 : decode c_MD_message 94 = .ok (.aload_n 0, 1) := by decide +kernel
theorem d_MD_message_95 : decode c_MD_message 95 = .ok (.getfield 47, 3) := by decide +kernel
theorem d_MD_message_98 : decode c_MD_message 98 = .ok (.aload_n 0, 1) := by decide +kernel
theorem d_MD_message_99 : decode c_MD_message 99 = .ok (.getfield 92, 3) := by decide +kernel
theorem d_MD_message_102 : decode c_MD_message 102 = .ok (.iconst 5, 1) := by decide +kernel
theorem d_MD_message_103 : decode c_MD_message 103 = .ok (.iadd, 1) := by decide +kernel
theorem d_MD_message_104 : decode c_MD_message 104 = .ok (.iconst 0, 1) := by decide +kernel
theorem d_MD_message_105 : decode c_MD_message 105 = .ok (.iastore, 1) := by decide +kernel
theorem d_MD_message_106 : decode c_MD_message 106 = .ok (.return_, 1) := by decide +kernel
theorem d_MD_more_0 : decode c_MD_more 0 = .ok (.aload_n 0, 1) := by decide +kernel
theorem d_MD_more_1 : decode c_MD_more 1 = .ok (.getfield 47, 3) := by decide +kernel
theorem d_MD_more_4 : decode c_MD_more 4 = .ok (.aload_n 0, 1) := by decide +kernel
theorem d_MD_more_5 : decode c_MD_more 5 = .ok (.getfield 92, 3) := by decide +kernel
theorem d_MD_more_8 : decode c_MD_more 8 = .ok (.bipush 6, 2) := by decide +kernel
theorem d_MD_more_10 : decode c_MD_more 10 = .ok (.iadd, 1) := by decide +kernel
theorem d_MD_more_11 : decode c_MD_more 11 = .ok (.aload_n 0, 1) := by decide +kernel
theorem d_MD_more_12 : decode c_MD_more 12 = .ok (.getfield 47, 3) := by decide +kernel
theorem d_MD_more_15 : decode c_MD_more 15 = .ok (.aload_n 0, 1) := by decide +kernel
theorem d_MD_more_16 : decode c_MD_more 16 = .ok (.getfield 92, 3) := by decide +kernel
theorem d_MD_more_19 : decode c_MD_more 19 = .ok (.iconst 5, 1) := by decide +kernel
theorem d_MD_more_20 : decode c_MD_more 20 = .ok (.iadd, 1) := by decide +kernel
theorem d_MD_more_21 : decode c_MD_more 21 = .ok (.iaload, 1) := by decide +kernel
theorem d_MD_more_22 : decode c_MD_more 22 = .ok (.iadd, 1) := by decide +kernel
theorem d_MD_more_23 : decode c_MD_more 23 = .ok (.iload_n 1, 1) := by decide +kernel
theorem d_MD_more_24 : decode c_MD_more 24 = .ok (.iastore, 1) := by decide +kernel
theorem d_MD_more_25 : decode c_MD_more 25 = .ok (.aload_n 0, 1) := by decide +kernel
theorem d_MD_more_26 : decode c_MD_more 26 = .ok (.getfield 47, 3) := by decide +kernel
theorem d_MD_more_29 : decode c_MD_more 29 = .ok (.aload_n 0, 1) := by decide +kernel
theorem d_MD_more_30 : decode c_MD_more 30 = .ok (.getfield 92, 3) := by decide +kernel
theorem d_MD_more_33 : decode c_MD_more 33 = .ok (.iconst 5, 1) := by decide +kernel
theorem d_MD_more_34 : decode c_MD_more 34 = .ok (.iadd, 1) := by decide +kernel
theorem d_MD_more_35 : decode c_MD_more 35 = .ok (.aload_n 0, 1) := by decide +kernel
theorem d_MD_more_36 : decode c_MD_more 36 = .ok (.getfield 47, 3) := by decide +kernel
theorem d_MD_more_39 : decode c_MD_more 39 = .ok (.aload_n 0, 1) := by decide +kernel
theorem d_MD_more_40 : decode c_MD_more 40 = .ok (.getfield 92, 3) := by decide +kernel
theorem d_MD_more_43 : decode c_MD_more 43 = .ok (.iconst 5, 1) := by decide +kernel
theorem d_MD_more_44 : decode c_MD_more 44 = .ok (.iadd, 1) := by decide +kernel
theorem d_MD_more_45 : decode c_MD_more 45 = .ok (.iaload, 1) := by decide +kernel
theorem d_MD_more_46 : decode c_MD_more 46 = .ok (.iconst 1, 1) := by decide +kernel
theorem d_MD_more_47 : decode c_MD_more 47 = .ok (.iadd, 1) := by decide +kernel
theorem d_MD_more_48 : decode c_MD_more 48 = .ok (.iastore, 1) := by decide +kernel
theorem d_MD_more_49 : decode c_MD_more 49 = .ok (.return_, 1) := by decide +kernel
theorem d_MD_sendSignature_0 : decode c_MD_sendSignature 0 = .ok (.aload_n 0, 1) := by decide +kernel
theorem d_MD_sendSignature_1 : decode c_MD_sendSignature 1 = .ok (.iconst 0, 1) := by decide +kernel
theorem d_MD_sendSignature_2 : decode c_MD_sendSignature 2 = .ok (.iconst 3, 1) := by decide +kernel
theorem d_MD_sendSignature_3 : decode c_MD_sendSignature 3 = .ok (.iload_n 1, 1) := by decide +kernel
theorem d_MD_sendSignature_4 : decode c_MD_sendSignature 4 = .ok (.iload_n 2, 1) := by decide +kernel
theorem d_MD_sendSignature_5 : decode c_MD_sendSignature 5 = .ok (.iconst 0, 1) := by decide +kernel
theorem d_MD_sendSignature_6 : decode c_MD_sendSignature 6 = .ok (.iconst 0, 1) := by decide +kernel
theorem d_MD_sendSignature_7 : decode c_MD_sendSignature 7 = .ok (.invokevirtual 95, 3) := by decide +kernel
theorem d_MD_sendSignature_10 : decode c_MD_sendSignature 10 = .ok (.aload_n 0, 1) := by decide +kernel
theorem d_MD_sendSignature_11 : decode c_MD_sendSignature 11 = .ok (.iconst 1, 1) := by decide +kernel
theorem d_MD_sendSignature_12 : decode c_MD_sendSignature 12 = .ok (.iload_n 1, 1) := by decide +kernel
theorem d_MD_sendSignature_13 : decode c_MD_sendSignature 13 = .ok (.invokevirtual 87, 3) := by decide +kernel
theorem d_MD_sendSignature_16 : decode c_MD_sendSignature 16 = .ok (.istore_n 3, 1) := by decide +kernel
theorem d_MD_sendSignature_17 : decode c_MD_sendSignature 17 = .ok (.iload_n 3, 1) := by decide +kernel
theorem d_MD_sendSignature_18 : decode c_MD_sendSignature 18 = .ok (.ifCond .ge 7, 3) := by decide +kernel
theorem d_MD_sendSignature_21 : decode c_MD_sendSignature 21 = .ok (.iconst 0, 1) := by decide +kernel
theorem d_MD_sendSignature_22 : decode c_MD_sendSignature 22 = .ok (.goto 14, 3) := by decide +kernel
theorem d_MD_sendSignature_25 : decode c_MD_sendSignature 25 = .ok (.aload_n 0, 1) := by decide +kernel
theorem d_MD_sendSignature_26 : decode c_MD_sendSignature 26 = .ok (.getfield 13, 3) := by decide +kernel
theorem d_MD_sendSignature_29 : decode c_MD_sendSignature 29 = .ok (.iload_n 3, 1) := by decide +kernel
theorem d_MD_sendSignature_30 : decode c_MD_sendSignature 30 = .ok (.iaload, 1) := by decide +kernel
theorem d_MD_sendSignature_31 : decode c_MD_sendSignature 31 = .ok (.aload_n 0, 1) := by decide +kernel
theorem d_MD_sendSignature_32 : decode c_MD_sendSignature 32 = .ok (.getfield 99, 3) := by decide +kernel
theorem d_MD_sendSignature_35 : decode c_MD_sendSignature 35 = .ok (.idiv, 1) := by decide +kernel
theorem d_MD_sendSignature_36 : decode c_MD_sendSignature 36 = .ok (.istore 4, 2) := by decide +kernel
theorem d_MD_sendSignature_38 : decode c_MD_sendSignature 38 = .ok (.iconst 0, 1) := by decide +kernel
theorem d_MD_sendSignature_39 : decode c_MD_sendSignature 39 = .ok (.istore 5, 2) := by decide +kernel
theorem d_MD_sendSignature_41 : decode c_MD_sendSignature 41 = .ok (.iload 5, 2) := by decide +kernel
theorem d_MD_sendSignature_43 : decode c_MD_sendSignature 43 = .ok (.iload 4, 2) := by decide +kernel
theorem d_MD_sendSignature_45 : decode c_MD_sendSignature 45 = .ok (.if_icmp .ge 52, 3) := by decide +kernel
theorem d_MD_sendSignature_48 : decode c_MD_sendSignature 48 = .ok (.bipush 40, 2) := by decide +kernel
theorem d_MD_sendSignature_50 : decode c_MD_sendSignature 50 = .ok (.iload_n 3, 1) := by decide +kernel
theorem d_MD_sendSignature_51 : decode c_MD_sendSignature 51 = .ok (.imul, 1) := by decide +kernel
theorem d_MD_sendSignature_52 : decode c_MD_sendSignature 52 = .ok (.iload 5, 2) := by decide +kernel
theorem d_MD_sendSignature_54 : decode c_MD_sendSignature 54 = .ok (.aload_n 0, 1) := by decide +kernel
theorem d_MD_sendSignature_55 : decode c_MD_sendSignature 55 = .ok (.getfield 99, 3) := by decide +kernel
theorem d_MD_sendSignature_58 : decode c_MD_sendSignature 58 = .ok (.imul, 1) := by decide +kernel
theorem d_MD_sendSignature_59 : decode c_MD_sendSignature 59 = .ok (.iadd, 1) := by decide +kernel
theorem d_MD_sendSignature_60 : decode c_MD_sendSignature 60 = .ok (.istore 6, 2) := by decide +kernel
theorem d_MD_sendSignature_62 : decode c_MD_sendSignature 62 = .ok (.aload_n 0, 1) := by decide +kernel
theorem d_MD_sendSignature_63 : decode c_MD_sendSignature 63 = .ok (.aload_n 0, 1) := by decide +kernel
theorem d_MD_sendSignature_64 : decode c_MD_sendSignature 64 = .ok (.iload 6, 2) := by decide +kernel
theorem d_MD_sendSignature_66 : decode c_MD_sendSignature 66 = .ok (.aload_n 0, 1) := by decide +kernel
theorem d_MD_sendSignature_67 : decode c_MD_sendSignature 67 = .ok (.getfield 99, 3) := by decide +kernel
theorem d_MD_sendSignature_70 : decode c_MD_sendSignature 70 = .ok (.invokevirtual 102, 3) := by decide +kernel
theorem d_MD_sendSignature_73 : decode c_MD_sendSignature 73 = .ok (.invokevirtual 105, 3) := by decide +kernel
theorem d_MD_sendSignature_76 : decode c_MD_sendSignature 76 = .ok (.aload_n 0, 1) := by decide +kernel
theorem d_MD_sendSignature_77 : decode c_MD_sendSignature 77 = .ok (.aload_n 0, 1) := by decide +kernel
theorem d_MD_sendSignature_78 : decode c_MD_sendSignature 78 = .ok (.iload 6, 2) := by decide +kernel
theorem d_MD_sendSignature_80 : decode c_MD_sendSignature 80 = .ok (.aload_n 0, 1) := by decide +kernel
theorem d_MD_sendSignature_81 : decode c_MD_sendSignature 81 = .ok (.getfield 99, 3) := by decide +kernel
theorem d_MD_sendSignature_84 : decode c_MD_sendSignature 84 = .ok (.iload_n 2, 1) := by decide +kernel
theorem d_MD_sendSignature_85 : decode c_MD_sendSignature 85 = .ok (.invokevirtual 108, 3) := by decide +kernel
theorem d_MD_sendSignature_88 : decode c_MD_sendSignature 88 = .ok (.invokevirtual 105, 3) := by decide +kernel
theorem d_MD_sendSignature_91 : decode c_MD_sendSignature 91 = .ok (.iinc 5 1, 3) := by decide +kernel
theorem d_MD_sendSignature_94 : decode c_MD_sendSignature 94 = .ok (.goto (-53), 3) := by decide +kernel
theorem d_MD_sendSignature_97 : decode c_MD_sendSignature 97 = .ok (.return_, 1) := by decide +kernel
theorem d_MD_finishRecord_0 : decode c_MD_finishRecord 0 = .ok (.bipush 12, 2) := by decide +kernel
theorem d_MD_finishRecord_2 : decode c_MD_finishRecord 2 = .ok (.aload_n 0, 1) := by decide +kernel
theorem d_MD_finishRecord_3 : decode c_MD_finishRecord 3 = .ok (.getfield 50, 3) := by decide +kernel
theorem d_MD_finishRecord_6 : decode c_MD_finishRecord 6 = .ok (.iconst 0, 1) := by decide +kernel
theorem d_MD_finishRecord_7 : decode c_MD_finishRecord 7 = .ok (.iaload, 1) := by decide +kernel
theorem d_MD_finishRecord_8 : decode c_MD_finishRecord 8 = .ok (.iadd, 1) := by decide +kernel
theorem d_MD_finishRecord_9 : decode c_MD_finishRecord 9 = .ok (.istore_n 1, 1) := by decide +kernel
theorem d_MD_finishRecord_10 : decode c_MD_finishRecord 10 = .ok (.aload_n 0, 1) := by decide +kernel
theorem d_MD_finishRecord_11 : decode c_MD_finishRecord 11 = .ok (.getfield 7, 3) := by decide +kernel
theorem d_MD_finishRecord_14 : decode c_MD_finishRecord 14 = .ok (.iload_n 1, 1) := by decide +kernel
theorem d_MD_finishRecord_15 : decode c_MD_finishRecord 15 = .ok (.iconst 1, 1) := by decide +kernel
theorem d_MD_finishRecord_16 : decode c_MD_finishRecord 16 = .ok (.bastore, 1) := by decide +kernel
theorem d_MD_finishRecord_17 : decode c_MD_finishRecord 17 = .ok (.aload_n 0, 1) := by decide +kernel
theorem d_MD_finishRecord_18 : decode c_MD_finishRecord 18 = .ok (.getfield 13, 3) := by decide +kernel
theorem d_MD_finishRecord_21 : decode c_MD_finishRecord 21 = .ok (.iload_n 1, 1) := by decide +kernel
theorem d_MD_finishRecord_22 : decode c_MD_finishRecord 22 = .ok (.aload_n 0, 1) := by decide +kernel
theorem d_MD_finishRecord_23 : decode c_MD_finishRecord 23 = .ok (.getfield 56, 3) := by decide +kernel
theorem d_MD_finishRecord_26 : decode c_MD_finishRecord 26 = .ok (.iconst 0, 1) := by decide +kernel
theorem d_MD_finishRecord_27 : decode c_MD_finishRecord 27 = .ok (.iaload, 1) := by decide +kernel
theorem d_MD_finishRecord_28 : decode c_MD_finishRecord 28 = .ok (.iastore, 1) := by decide +kernel
theorem d_MD_finishRecord_29 : decode c_MD_finishRecord 29 = .ok (.aload_n 0, 1) := by decide +kernel
theorem d_MD_finishRecord_30 : decode c_MD_finishRecord 30 = .ok (.getfield 17, 3) := by decide +kernel
theorem d_MD_finishRecord_33 : decode c_MD_finishRecord 33 = .ok (.iload_n 1, 1) := by decide +kernel
theorem d_MD_finishRecord_34 : decode c_MD_finishRecord 34 = .ok (.aload_n 0, 1) := by decide +kernel
theorem d_MD_finishRecord_35 : decode c_MD_finishRecord 35 = .ok (.getfield 53, 3) := by decide +kernel
theorem d_MD_finishRecord_38 : decode c_MD_finishRecord 38 = .ok (.iconst 0, 1) := by decide +kernel
theorem d_MD_finishRecord_39 : decode c_MD_finishRecord 39 = .ok (.iaload, 1) := by decide +kernel
theorem d_MD_finishRecord_40 : decode c_MD_finishRecord 40 = .ok (.iastore, 1) := by decide +kernel
theorem d_MD_finishRecord_41 : decode c_MD_finishRecord 41 = .ok (.iconst 0, 1) := by decide +kernel
theorem d_MD_finishRecord_42 : decode c_MD_finishRecord 42 = .ok (.istore_n 2, 1) := by decide +kernel
theorem d_MD_finishRecord_43 : decode c_MD_finishRecord 43 = .ok (.iload_n 2, 1) := by decide +kernel
theorem d_MD_finishRecord_44 : decode c_MD_finishRecord 44 = .ok (.bipush 40, 2) := by decide +kernel
theorem d_MD_finishRecord_46 : decode c_MD_finishRecord 46 = .ok (.if_icmp .ge 26, 3) := by decide +kernel
theorem d_MD_finishRecord_49 : decode c_MD_finishRecord 49 = .ok (.aload_n 0, 1) := by decide +kernel
theorem d_MD_finishRecord_50 : decode c_MD_finishRecord 50 = .ok (.getfield 20, 3) := by decide +kernel
theorem d_MD_finishRecord_53 : decode c_MD_finishRecord 53 = .ok (.bipush 40, 2) := by decide +kernel
theorem d_MD_finishRecord_55 : decode c_MD_finishRecord 55 = .ok (.iload_n 1, 1) := by decide +kernel
theorem d_MD_finishRecord_56 : decode c_MD_finishRecord 56 = .ok (.imul, 1) := by decide +kernel
theorem d_MD_finishRecord_57 : decode c_MD_finishRecord 57 = .ok (.iload_n 2, 1) := by decide +kernel
theorem d_MD_finishRecord_58 : decode c_MD_finishRecord 58 = .ok (.iadd, 1) := by decide +kernel
theorem d_MD_finishRecord_59 : decode c_MD_finishRecord 59 = .ok (.aload_n 0, 1) := by decide +kernel
theorem d_MD_finishRecord_60 : decode c_MD_finishRecord 60 = .ok (.getfield 59, 3) := by decide +kernel
theorem d_MD_finishRecord_63 : decode c_MD_finishRecord 63 = .ok (.iload_n 2, 1) := by decide +kernel
theorem d_MD_finishRecord_64 : decode c_MD_finishRecord 64 = .ok (.iaload, 1) := by decide +kernel
theorem d_MD_finishRecord_65 : decode c_MD_finishRecord 65 = .ok (.iastore, 1) := by decide +kernel
theorem d_MD_finishRecord_66 : decode c_MD_finishRecord 66 = .ok (.iinc 2 1, 3) := by decide +kernel
theorem d_MD_finishRecord_69 : decode c_MD_finishRecord 69 = .ok (.goto (-26), 3) := by decide +kernel
theorem d_MD_finishRecord_72 : decode c_MD_finishRecord 72 = .ok (.aload_n 0, 1) := by decide +kernel
theorem d_MD_finishRecord_73 : decode c_MD_finishRecord 73 = .ok (.aload_n 0, 1) := by decide +kernel
theorem d_MD_finishRecord_74 : decode c_MD_finishRecord 74 = .ok (.getfield 112, 3) := by decide +kernel
theorem d_MD_finishRecord_77 : decode c_MD_finishRecord 77 = .ok (.iconst 1, 1) := by decide +kernel
theorem d_MD_finishRecord_78 : decode c_MD_finishRecord 78 = .ok (.isub, 1) := by decide +kernel
theorem d_MD_finishRecord_79 : decode c_MD_finishRecord 79 = .ok (.putfield 112, 3) := by decide +kernel
theorem d_MD_finishRecord_82 : decode c_MD_finishRecord 82 = .ok (.iconst 0, 1) := by decide +kernel
theorem d_MD_finishRecord_83 : decode c_MD_finishRecord 83 = .ok (.istore_n 2, 1) := by decide +kernel
theorem d_MD_finishRecord_84 : decode c_MD_finishRecord 84 = .ok (.iload_n 2, 1) := by decide +kernel
theorem d_MD_finishRecord_85 : decode c_MD_finishRecord 85 = .ok (.aload_n 0, 1) := by decide +kernel
theorem d_MD_finishRecord_86 : decode c_MD_finishRecord 86 = .ok (.getfield 112, 3) := by decide +kernel
theorem d_MD_finishRecord_89 : decode c_MD_finishRecord 89 = .ok (.if_icmp .ge 51, 3) := by decide +kernel
theorem d_MD_finishRecord_92 : decode c_MD_finishRecord 92 = .ok (.aload_n 0, 1) := by decide +kernel
theorem d_MD_finishRecord_93 : decode c_MD_finishRecord 93 = .ok (.getfield 50, 3) := by decide +kernel
theorem d_MD_finishRecord_96 : decode c_MD_finishRecord 96 = .ok (.iload_n 2, 1) := by decide +kernel
theorem d_MD_finishRecord_97 : decode c_MD_finishRecord 97 = .ok (.aload_n 0, 1) := by decide +kernel
theorem d_MD_finishRecord_98 : decode c_MD_finishRecord 98 = .ok (.getfield 50, 3) := by decide +kernel
theorem d_MD_finishRecord_101 : decode c_MD_finishRecord 101 = .ok (.iload_n 2, 1) := by decide +kernel
theorem d_MD_finishRecord_102 : decode c_MD_finishRecord 102 = .ok (.iconst 1, 1) := by decide +kernel
theorem d_MD_finishRecord_103 : decode c_MD_finishRecord 103 = .ok (.iadd, 1) := by decide +kernel
theorem d_MD_finishRecord_104 : decode c_MD_finishRecord 104 = .ok (.iaload, 1) := by decide +kernel
theorem d_MD_finishRecord_105 : decode c_MD_finishRecord 105 = .ok (.iastore, 1) := by decide +kernel
theorem d_MD_finishRecord_106 : decode c_MD_finishRecord 106 = .ok (.aload_n 0, 1) := by decide +kernel
theorem d_MD_finishRecord_107 : decode c_MD_finishRecord 107 = .ok (.getfield 53, 3) := by decide +kernel
theorem d_MD_finishRecord_110 : decode c_MD_finishRecord 110 = .ok (.iload_n 2, 1) := by decide +kernel
theorem d_MD_finishRecord_111 : decode c_MD_finishRecord 111 = .ok (.aload_n 0, 1) := by decide +kernel
theorem d_MD_finishRecord_112 : decode c_MD_finishRecord 112 = .ok (.getfield 53, 3) := by decide +kernel
theorem d_MD_finishRecord_115 : decode c_MD_finishRecord 115 = .ok (.iload_n 2, 1) := by decide +kernel
theorem d_MD_finishRecord_116 : decode c_MD_finishRecord 116 = .ok (.iconst 1, 1) := by decide +kernel
theorem d_MD_finishRecord_117 : decode c_MD_finishRecord 117 = .ok (.iadd, 1) := by decide +kernel
theorem d_MD_finishRecord_118 : decode c_MD_finishRecord 118 = .ok (.iaload, 1) := by decide +kernel
theorem d_MD_finishRecord_119 : decode c_MD_finishRecord 119 = .ok (.iastore, 1) := by decide +kernel
theorem d_MD_finishRecord_120 : decode c_MD_finishRecord 120 = .ok (.aload_n 0, 1) := by decide +kernel
theorem d_MD_finishRecord_121 : decode c_MD_finishRecord 121 = .ok (.getfield 56, 3) := by decide +kernel
theorem d_MD_finishRecord_124 : decode c_MD_finishRecord 124 = .ok (.iload_n 2, 1) := by decide +kernel
theorem d_MD_finishRecord_125 : decode c_MD_finishRecord 125 = .ok (.aload_n 0, 1) := by decide +kernel
theorem d_MD_finishRecord_126 : decode c_MD_finishRecord 126 = .ok (.getfield 56, 3) := by decide +kernel
theorem d_MD_finishRecord_129 : decode c_MD_finishRecord 129 = .ok (.iload_n 2, 1) := by decide +kernel
theorem d_MD_finishRecord_130 : decode c_MD_finishRecord 130 = .ok (.iconst 1, 1) := by decide +kernel
theorem d_MD_finishRecord_131 : decode c_MD_finishRecord 131 = .ok (.iadd, 1) := by decide +kernel
theorem d_MD_finishRecord_132 : decode c_MD_finishRecord 132 = .ok (.iaload, 1) := by decide +kernel
theorem d_MD_finishRecord_133 : decode c_MD_finishRecord 133 = .ok (.iastore, 1) := by decide +kernel
theorem d_MD_finishRecord_134 : decode c_MD_finishRecord 134 = .ok (.iinc 2 1, 3) := by decide +kernel
theorem d_MD_finishRecord_137 : decode c_MD_finishRecord 137 = .ok (.goto (-53), 3) := by decide +kernel
theorem d_MD_finishRecord_140 : decode c_MD_finishRecord 140 = .ok (.iconst 0, 1) := by decide +kernel
theorem d_MD_finishRecord_141 : decode c_MD_finishRecord 141 = .ok (.istore_n 2, 1) := by decide +kernel
theorem d_MD_finishRecord_142 : decode c_MD_finishRecord 142 = .ok (.iload_n 2, 1) := by decide +kernel
theorem d_MD_finishRecord_143 : decode c_MD_finishRecord 143 = .ok (.bipush 40, 2) := by decide +kernel
theorem d_MD_finishRecord_145 : decode c_MD_finishRecord 145 = .ok (.aload_n 0, 1) := by decide +kernel
theorem d_MD_finishRecord_146 : decode c_MD_finishRecord 146 = .ok (.getfield 112, 3) := by decide +kernel
theorem d_MD_finishRecord_149 : decode c_MD_finishRecord 149 = .ok (.imul, 1) := by decide +kernel
theorem d_MD_finishRecord_150 : decode c_MD_finishRecord 150 = .ok (.if_icmp .ge 24, 3) := by decide +kernel
theorem d_MD_finishRecord_153 : decode c_MD_finishRecord 153 = .ok (.aload_n 0, 1) := by decide +kernel
theorem d_MD_finishRecord_154 : decode c_MD_finishRecord 154 = .ok (.getfield 59, 3) := by decide +kernel
theorem d_MD_finishRecord_157 : decode c_MD_finishRecord 157 = .ok (.iload_n 2, 1) := by decide +kernel
theorem d_MD_finishRecord_158 : decode c_MD_finishRecord 158 = .ok (.aload_n 0, 1) := by decide +kernel
theorem d_MD_finishRecord_159 : decode c_MD_finishRecord 159 = .ok (.getfield 59, 3) := by decide +kernel
theorem d_MD_finishRecord_162 : decode c_MD_finishRecord 162 = .ok (.iload_n 2, 1) := by decide +kernel
theorem d_MD_finishRecord_163 : decode c_MD_finishRecord 163 = .ok (.bipush 40, 2) := by decide +kernel
theorem d_MD_finishRecord_165 : decode c_MD_finishRecord 165 = .ok (.iadd, 1) := by decide +kernel
theorem d_MD_finishRecord_166 : decode c_MD_finishRecord 166 = .ok (.iaload, 1) := by decide +kernel
theorem d_MD_finishRecord_167 : decode c_MD_finishRecord 167 = .ok (.iastore, 1) := by decide +kernel
theorem d_MD_finishRecord_168 : decode c_MD_finishRecord 168 = .ok (.iinc 2 1, 3) := by decide +kernel
theorem d_MD_finishRecord_171 : decode c_MD_finishRecord 171 = .ok (.goto (-29), 3) := by decide +kernel
theorem d_MD_finishRecord_174 : decode c_MD_finishRecord 174 = .ok (.aload_n 0, 1) := by decide +kernel
theorem d_MD_finishRecord_175 : decode c_MD_finishRecord 175 = .ok (.bipush 7, 2) := by decide +kernel
theorem d_MD_finishRecord_177 : decode c_MD_finishRecord 177 = .ok (.invokevirtual 115, 3) := by decide +kernel
theorem d_MD_finishRecord_180 : decode c_MD_finishRecord 180 = .ok (.return_, 1) := by decide +kernel
theorem d_MD_finishAll_0 : decode c_MD_finishAll 0 = .ok (.aload_n 0, 1) := by decide +kernel
theorem d_MD_finishAll_1 : decode c_MD_finishAll 1 = .ok (.getfield 112, 3) := by decide +kernel
theorem d_MD_finishAll_4 : decode c_MD_finishAll 4 = .ok (.istore_n 1, 1) := by decide +kernel
theorem d_MD_finishAll_5 : decode c_MD_finishAll 5 = .ok (.iload_n 1, 1) := by decide +kernel
theorem d_MD_finishAll_6 : decode c_MD_finishAll 6 = .ok (.ifCond .le 13, 3) := by decide +kernel
theorem d_MD_finishAll_9 : decode c_MD_finishAll 9 = .ok (.aload_n 0, 1) := by decide +kernel
theorem d_MD_finishAll_10 : decode c_MD_finishAll 10 = .ok (.invokevirtual 118, 3) := by decide +kernel
theorem d_MD_finishAll_13 : decode c_MD_finishAll 13 = .ok (.iinc 1 (-1), 3) := by decide +kernel
theorem d_MD_finishAll_16 : decode c_MD_finishAll 16 = .ok (.goto (-11), 3) := by decide +kernel
theorem d_MD_finishAll_19 : decode c_MD_finishAll 19 = .ok (.return_, 1) := by decide +kernel
theorem d_MD_begin_0 : decode c_MD_begin 0 = .ok (.aload_n 0, 1) := by decide +kernel
theorem d_MD_begin_1 : decode c_MD_begin 1 = .ok (.getfield 121, 3) := by decide +kernel
theorem d_MD_begin_4 : decode c_MD_begin 4 = .ok (.ifCond .ne 14, 3) := by decide +kernel
theorem d_MD_begin_7 : decode c_MD_begin 7 = .ok (.iload_n 1, 1) := by decide +kernel
theorem d_MD_begin_8 : decode c_MD_begin 8 = .ok (.iconst 1, 1) := by decide +kernel
theorem d_MD_begin_9 : decode c_MD_begin 9 = .ok (.if_icmp .lt 9, 3) := by decide +kernel
theorem d_MD_begin_12 : decode c_MD_begin 12 = .ok (.iload_n 1, 1) := by decide +kernel
theorem d_MD_begin_13 : decode c_MD_begin 13 = .ok (.bipush 8, 2) := by decide +kernel
theorem d_MD_begin_15 : decode c_MD_begin 15 = .ok (.if_icmp .le 5, 3) := by decide +kernel
theorem d_MD_begin_18 : decode c_MD_begin 18 = .ok (.iconst 0, 1) := by decide +kernel
theorem d_MD_begin_19 : decode c_MD_begin 19 = .ok (.ireturn, 1) := by decide +kernel
theorem d_MD_begin_20 : decode c_MD_begin 20 = .ok (.aload_n 0, 1) := by decide +kernel
theorem d_MD_begin_21 : decode c_MD_begin 21 = .ok (.iconst 1, 1) := by decide +kernel
theorem d_MD_begin_22 : decode c_MD_begin 22 = .ok (.putfield 121, 3) := by decide +kernel
theorem d_MD_begin_25 : decode c_MD_begin 25 = .ok (.aload_n 0, 1) := by decide +kernel
theorem d_MD_begin_26 : decode c_MD_begin 26 = .ok (.iload_n 1, 1) := by decide +kernel
theorem d_MD_begin_27 : decode c_MD_begin 27 = .ok (.putfield 99, 3) := by decide +kernel
theorem d_MD_begin_30 : decode c_MD_begin 30 = .ok (.aload_n 0, 1) := by decide +kernel
theorem d_MD_begin_31 : decode c_MD_begin 31 = .ok (.iload_n 2, 1) := by decide +kernel
theorem d_MD_begin_32 : decode c_MD_begin 32 = .ok (.putfield 125, 3) := by decide +kernel
theorem d_MD_begin_35 : decode c_MD_begin 35 = .ok (.aload_n 0, 1) := by decide +kernel
theorem d_MD_begin_36 : decode c_MD_begin 36 = .ok (.iconst 0, 1) := by decide +kernel
theorem d_MD_begin_37 : decode c_MD_begin 37 = .ok (.putfield 128, 3) := by decide +kernel
theorem d_MD_begin_40 : decode c_MD_begin 40 = .ok (.aload_n 0, 1) := by decide +kernel
theorem d_MD_begin_41 : decode c_MD_begin 41 = .ok (.invokevirtual 131, 3) := by decide +kernel
theorem d_MD_begin_44 : decode c_MD_begin 44 = .ok (.iconst 0, 1) := by decide +kernel
theorem d_MD_begin_45 : decode c_MD_begin 45 = .ok (.istore_n 3, 1) := by decide +kernel
theorem d_MD_begin_46 : decode c_MD_begin 46 = .ok (.iload_n 3, 1) := by decide +kernel
theorem d_MD_begin_47 : decode c_MD_begin 47 = .ok (.bipush 12, 2) := by decide +kernel
theorem d_MD_begin_49 : decode c_MD_begin 49 = .ok (.if_icmp .ge 46, 3) := by decide +kernel
theorem d_MD_begin_52 : decode c_MD_begin 52 = .ok (.aload_n 0, 1) := by decide +kernel
theorem d_MD_begin_53 : decode c_MD_begin 53 = .ok (.iload_n 3, 1) := by decide +kernel
theorem d_MD_begin_54 : decode c_MD_begin 54 = .ok (.invokevirtual 76, 3) := by decide +kernel
theorem d_MD_begin_57 : decode c_MD_begin 57 = .ok (.ifCond .eq 32, 3) := by decide +kernel
theorem d_MD_begin_60 : decode c_MD_begin 60 = .ok (.aload_n 0, 1) := by decide +kernel
theorem d_MD_begin_61 : decode c_MD_begin 61 = .ok (.getfield 7, 3) := by decide +kernel
theorem d_MD_begin_64 : decode c_MD_begin 64 = .ok (.iload_n 3, 1) := by decide +kernel
theorem d_MD_begin_65 : decode c_MD_begin 65 = .ok (.baload, 1) := by decide +kernel
theorem d_MD_begin_66 : decode c_MD_begin 66 = .ok (.ifCond .eq 23, 3) := by decide +kernel
theorem d_MD_begin_69 : decode c_MD_begin 69 = .ok (.aload_n 0, 1) := by decide +kernel
theorem d_MD_begin_70 : decode c_MD_begin 70 = .ok (.iconst 1, 1) := by decide +kernel
theorem d_MD_begin_71 : decode c_MD_begin 71 = .ok (.iconst 1, 1) := by decide +kernel
theorem d_MD_begin_72 : decode c_MD_begin 72 = .ok (.iload_n 3, 1) := by decide +kernel
theorem d_MD_begin_73 : decode c_MD_begin 73 = .ok (.iconst 0, 1) := by decide +kernel
theorem d_MD_begin_74 : decode c_MD_begin 74 = .ok (.aload_n 0, 1) := by decide +kernel
theorem d_MD_begin_75 : decode c_MD_begin 75 = .ok (.getfield 13, 3) := by decide +kernel
theorem d_MD_begin_78 : decode c_MD_begin 78 = .ok (.iload_n 3, 1) := by decide +kernel
theorem d_MD_begin_79 : decode c_MD_begin 79 = .ok (.iaload, 1) := by decide +kernel
theorem d_MD_begin_80 : decode c_MD_begin 80 = .ok (.aload_n 0, 1) := by decide +kernel
theorem d_MD_begin_81 : decode c_MD_begin 81 = .ok (.getfield 17, 3) := by decide +kernel
theorem d_MD_begin_84 : decode c_MD_begin 84 = .ok (.iload_n 3, 1) := by decide +kernel
theorem d_MD_begin_85 : decode c_MD_begin 85 = .ok (.iaload, 1) := by decide +kernel
theorem d_MD_begin_86 : decode c_MD_begin 86 = .ok (.invokevirtual 95, 3) := by decide +kernel
theorem d_MD_begin_89 : decode c_MD_begin 89 = .ok (.iinc 3 1, 3) := by decide +kernel
theorem d_MD_begin_92 : decode c_MD_begin 92 = .ok (.goto (-46), 3) := by decide +kernel
theorem d_MD_begin_95 : decode c_MD_begin 95 = .ok (.aload_n 0, 1) := by decide +kernel
theorem d_MD_begin_96 : decode c_MD_begin 96 = .ok (.iconst 1, 1) := by decide +kernel
theorem d_MD_begin_97 : decode c_MD_begin 97 = .ok (.iconst 2, 1) := by decide +kernel
theorem d_MD_begin_98 : decode c_MD_begin 98 = .ok (.iconst 0, 1) := by decide +kernel
theorem d_MD_begin_99 : decode c_MD_begin 99 = .ok (.iconst 0, 1) := by decide +kernel
theorem d_MD_begin_100 : decode c_MD_begin 100 = .ok (.iconst 0, 1) := by decide +kernel
theorem d_MD_begin_101 : decode c_MD_begin 101 = .ok (.iconst 0, 1) := by decide +kernel
theorem d_MD_begin_102 : decode c_MD_begin 102 = .ok (.invokevirtual 95, 3) := by decide +kernel
theorem d_MD_begin_105 : decode c_MD_begin 105 = .ok (.iconst 1, 1) := by decide +kernel
theorem d_MD_begin_106 : decode c_MD_begin 106 = .ok (.ireturn, 1) := by decide +kernel
theorem d_MD_over_0 : decode c_MD_over 0 = .ok (.aload_n 0, 1) := by decide +kernel
theorem d_MD_over_1 : decode c_MD_over 1 = .ok (.iconst 0, 1) := by decide +kernel
theorem d_MD_over_2 : decode c_MD_over 2 = .ok (.putfield 121, 3) := by decide +kernel
theorem d_MD_over_5 : decode c_MD_over 5 = .ok (.aload_n 0, 1) := by decide +kernel
theorem d_MD_over_6 : decode c_MD_over 6 = .ok (.iconst 0, 1) := by decide +kernel
theorem d_MD_over_7 : decode c_MD_over 7 = .ok (.putfield 128, 3) := by decide +kernel
theorem d_MD_over_10 : decode c_MD_over 10 = .ok (.aload_n 0, 1) := by decide +kernel
theorem d_MD_over_11 : decode c_MD_over 11 = .ok (.getfield 44, 3) := by decide +kernel
theorem d_MD_over_14 : decode c_MD_over 14 = .ok (.iconst 0, 1) := by decide +kernel
theorem d_MD_over_15 : decode c_MD_over 15 = .ok (.iconst 0, 1) := by decide +kernel
theorem d_MD_over_16 : decode c_MD_over 16 = .ok (.iastore, 1) := by decide +kernel
theorem d_MD_over_17 : decode c_MD_over 17 = .ok (.aload_n 0, 1) := by decide +kernel
theorem d_MD_over_18 : decode c_MD_over 18 = .ok (.getfield 44, 3) := by decide +kernel
theorem d_MD_over_21 : decode c_MD_over 21 = .ok (.iconst 1, 1) := by decide +kernel
theorem d_MD_over_22 : decode c_MD_over 22 = .ok (.iconst 0, 1) := by decide +kernel
theorem d_MD_over_23 : decode c_MD_over 23 = .ok (.iastore, 1) := by decide +kernel
theorem d_MD_over_24 : decode c_MD_over 24 = .ok (.return_, 1) := by decide +kernel
theorem d_MD_crash_0 : decode c_MD_crash 0 = .ok (.aload_n 0, 1) := by decide +kernel
theorem d_MD_crash_1 : decode c_MD_crash 1 = .ok (.getfield 121, 3) := by decide +kernel
theorem d_MD_crash_4 : decode c_MD_crash 4 = .ok (.ifCond .ne 5, 3) := by decide +kernel
theorem d_MD_crash_7 : decode c_MD_crash 7 = .ok (.iconst 0, 1) := by decide +kernel
theorem d_MD_crash_8 : decode c_MD_crash 8 = .ok (.ireturn, 1) := by decide +kernel
theorem d_MD_crash_9 : decode c_MD_crash 9 = .ok (.aload_n 0, 1) := by decide +kernel
theorem d_MD_crash_10 : decode c_MD_crash 10 = .ok (.invokevirtual 134, 3) := by decide +kernel
theorem d_MD_crash_13 : decode c_MD_crash 13 = .ok (.iconst 1, 1) := by decide +kernel
theorem d_MD_crash_14 : decode c_MD_crash 14 = .ok (.ireturn, 1) := by decide +kernel
theorem d_MD_concludeIfDone_0 : decode c_MD_concludeIfDone 0 = .ok (.iconst 1, 1) := by decide +kernel
theorem d_MD_concludeIfDone_1 : decode c_MD_concludeIfDone 1 = .ok (.istore_n 1, 1) := by decide +kernel
theorem d_MD_concludeIfDone_2 : decode c_MD_concludeIfDone 2 = .ok (.iconst 0, 1) := by decide +kernel
theorem d_MD_concludeIfDone_3 : decode c_MD_concludeIfDone 3 = .ok (.istore_n 2, 1) := by decide +kernel
theorem d_MD_concludeIfDone_4 : decode c_MD_concludeIfDone 4 = .ok (.iload_n 2, 1) := by decide +kernel
theorem d_MD_concludeIfDone_5 : decode c_MD_concludeIfDone 5 = .ok (.aload_n 0, 1) := by decide +kernel
theorem d_MD_concludeIfDone_6 : decode c_MD_concludeIfDone 6 = .ok (.getfield 128, 3) := by decide +kernel
theorem d_MD_concludeIfDone_9 : decode c_MD_concludeIfDone 9 = .ok (.if_icmp .ge 28, 3) := by decide +kernel
theorem d_MD_concludeIfDone_12 : decode c_MD_concludeIfDone 12 = .ok (.iload_n 1, 1) := by decide +kernel
theorem d_MD_concludeIfDone_13 : decode c_MD_concludeIfDone 13 = .ok (.ifCond .eq 16, 3) := by decide +kernel
theorem d_MD_concludeIfDone_16 : decode c_MD_concludeIfDone 16 = .ok (.aload_n 0, 1) := by decide +kernel
theorem d_MD_concludeIfDone_17 : decode c_MD_concludeIfDone 17 = .ok (.getfield 41, 3) := by decide +kernel
theorem d_MD_concludeIfDone_20 : decode c_MD_concludeIfDone 20 = .ok (.iload_n 2, 1) := by decide +kernel
theorem d_MD_concludeIfDone_21 : decode c_MD_concludeIfDone 21 = .ok (.baload, 1) := by decide +kernel
theorem d_MD_concludeIfDone_22 : decode c_MD_concludeIfDone 22 = .ok (.ifCond .ne 7, 3) := by decide +kernel
theorem d_MD_concludeIfDone_25 : decode c_MD_concludeIfDone 25 = .ok (.iconst 1, 1) := by decide +kernel
theorem d_MD_concludeIfDone_26 : decode c_MD_concludeIfDone 26 = .ok (.goto 4, 3) := by decide +kernel
theorem d_MD_concludeIfDone_29 : decode c_MD_concludeIfDone 29 = .ok (.iconst 0, 1) := by decide +kernel
theorem d_MD_concludeIfDone_30 : decode c_MD_concludeIfDone 30 = .ok (.istore_n 1, 1) := by decide +kernel
theorem d_MD_concludeIfDone_31 : decode c_MD_concludeIfDone 31 = .ok (.iinc 2 1, 3) := by decide +kernel
theorem d_MD_concludeIfDone_34 : decode c_MD_concludeIfDone 34 = .ok (.goto (-30), 3) := by decide +kernel
theorem d_MD_concludeIfDone_37 : decode c_MD_concludeIfDone 37 = .ok (.iload_n 1, 1) := by decide +kernel
theorem d_MD_concludeIfDone_38 : decode c_MD_concludeIfDone 38 = .ok (.ifCond .ne 4, 3) := by decide +kernel
theorem d_MD_concludeIfDone_41 : decode c_MD_concludeIfDone 41 = .ok (.return_, 1) := by decide +kernel
theorem d_MD_concludeIfDone_42 : decode c_MD_concludeIfDone 42 = .ok (.aload_n 0, 1) := by decide +kernel
theorem d_MD_concludeIfDone_43 : decode c_MD_concludeIfDone 43 = .ok (.invokevirtual 131, 3) := by decide +kernel
theorem d_MD_concludeIfDone_46 : decode c_MD_concludeIfDone 46 = .ok (.iconst 0, 1) := by decide +kernel
theorem d_MD_concludeIfDone_47 : decode c_MD_concludeIfDone 47 = .ok (.istore_n 2, 1) := by decide +kernel
theorem d_MD_concludeIfDone_48 : decode c_MD_concludeIfDone 48 = .ok (.iload_n 2, 1) := by decide +kernel
theorem d_MD_concludeIfDone_49 : decode c_MD_concludeIfDone 49 = .ok (.bipush 12, 2) := by decide +kernel
theorem d_MD_concludeIfDone_51 : decode c_MD_concludeIfDone 51 = .ok (.if_icmp .ge 97, 3) := by decide +kernel
theorem d_MD_concludeIfDone_54 : decode c_MD_concludeIfDone 54 = .ok (.iconst 0, 1) := by decide +kernel
theorem d_MD_concludeIfDone_55 : decode c_MD_concludeIfDone 55 = .ok (.istore_n 3, 1) := by decide +kernel
theorem d_MD_concludeIfDone_56 : decode c_MD_concludeIfDone 56 = .ok (.iconst 0, 1) := by decide +kernel
theorem d_MD_concludeIfDone_57 : decode c_MD_concludeIfDone 57 = .ok (.istore 4, 2) := by decide +kernel
theorem d_MD_concludeIfDone_59 : decode c_MD_concludeIfDone 59 = .ok (.iload 4, 2) := by decide +kernel
theorem d_MD_concludeIfDone_61 : decode c_MD_concludeIfDone 61 = .ok (.aload_n 0, 1) := by decide +kernel
theorem d_MD_concludeIfDone_62 : decode c_MD_concludeIfDone 62 = .ok (.getfield 128, 3) := by decide +kernel
theorem d_MD_concludeIfDone_65 : decode c_MD_concludeIfDone 65 = .ok (.if_icmp .ge 30, 3) := by decide +kernel
theorem d_MD_concludeIfDone_68 : decode c_MD_concludeIfDone 68 = .ok (.iload_n 3, 1) := by decide +kernel
theorem d_MD_concludeIfDone_69 : decode c_MD_concludeIfDone 69 = .ok (.ifCond .ne 14, 3) := by decide +kernel
theorem d_MD_concludeIfDone_72 : decode c_MD_concludeIfDone 72 = .ok (.aload_n 0, 1) := by decide +kernel
theorem d_MD_concludeIfDone_73 : decode c_MD_concludeIfDone 73 = .ok (.getfield 32, 3) := by decide +kernel
theorem d_MD_concludeIfDone_76 : decode c_MD_concludeIfDone 76 = .ok (.iload 4, 2) := by decide +kernel
theorem d_MD_concludeIfDone_78 : decode c_MD_concludeIfDone 78 = .ok (.iaload, 1) := by decide +kernel
theorem d_MD_concludeIfDone_79 : decode c_MD_concludeIfDone 79 = .ok (.iload_n 2, 1) := by decide +kernel
theorem d_MD_concludeIfDone_80 : decode c_MD_concludeIfDone 80 = .ok (.if_icmp .ne 7, 3) := by decide +kernel
theorem d_MD_concludeIfDone_83 : decode c_MD_concludeIfDone 83 = .ok (.iconst 1, 1) := by decide +kernel
theorem d_MD_concludeIfDone_84 : decode c_MD_concludeIfDone 84 = .ok (.goto 4, 3) := by decide +kernel
theorem d_MD_concludeIfDone_87 : decode c_MD_concludeIfDone 87 = .ok (.iconst 0, 1) := by decide +kernel
theorem d_MD_concludeIfDone_88 : decode c_MD_concludeIfDone 88 = .ok (.istore_n 3, 1) := by decide +kernel
theorem d_MD_concludeIfDone_89 : decode c_MD_concludeIfDone 89 = .ok (.iinc 4 1, 3) := by decide +kernel
theorem d_MD_concludeIfDone_92 : decode c_MD_concludeIfDone 92 = .ok (.goto (-33), 3) := by decide +kernel
theorem d_MD_concludeIfDone_95 : decode c_MD_concludeIfDone 95 = .ok (.aload_n 0, 1) := by decide +kernel
theorem d_MD_concludeIfDone_96 : decode c_MD_concludeIfDone 96 = .ok (.getfield 125, 3) := by decide +kernel
theorem d_MD_concludeIfDone_99 : decode c_MD_concludeIfDone 99 = .ok (.ifCond .eq 43, 3) := by decide +kernel
theorem d_MD_concludeIfDone_102 : decode c_MD_concludeIfDone 102 = .ok (.aload_n 0, 1) := by decide +kernel
theorem d_MD_concludeIfDone_103 : decode c_MD_concludeIfDone 103 = .ok (.getfield 7, 3) := by decide +kernel
theorem d_MD_concludeIfDone_106 : decode c_MD_concludeIfDone 106 = .ok (.bipush 12, 2) := by decide +kernel
theorem d_MD_concludeIfDone_108 : decode c_MD_concludeIfDone 108 = .ok (.iload_n 2, 1) := by decide +kernel
theorem d_MD_concludeIfDone_109 : decode c_MD_concludeIfDone 109 = .ok (.iadd, 1) := by decide +kernel
theorem d_MD_concludeIfDone_110 : decode c_MD_concludeIfDone 110 = .ok (.baload, 1) := by decide +kernel
theorem d_MD_concludeIfDone_111 : decode c_MD_concludeIfDone 111 = .ok (.ifCond .eq 31, 3) := by decide +kernel
theorem d_MD_concludeIfDone_114 : decode c_MD_concludeIfDone 114 = .ok (.aload_n 0, 1) := by decide +kernel
theorem d_MD_concludeIfDone_115 : decode c_MD_concludeIfDone 115 = .ok (.iload_n 2, 1) := by decide +kernel
theorem d_MD_concludeIfDone_116 : decode c_MD_concludeIfDone 116 = .ok (.invokevirtual 76, 3) := by decide +kernel
theorem d_MD_concludeIfDone_119 : decode c_MD_concludeIfDone 119 = .ok (.ifCond .eq 23, 3) := by decide +kernel
theorem d_MD_concludeIfDone_122 : decode c_MD_concludeIfDone 122 = .ok (.iload_n 3, 1) := by decide +kernel
theorem d_MD_concludeIfDone_123 : decode c_MD_concludeIfDone 123 = .ok (.ifCond .ne 19, 3) := by decide +kernel
theorem d_MD_concludeIfDone_126 : decode c_MD_concludeIfDone 126 = .ok (.aload_n 0, 1) := by decide +kernel
theorem d_MD_concludeIfDone_127 : decode c_MD_concludeIfDone 127 = .ok (.getfield 7, 3) := by decide +kernel
theorem d_MD_concludeIfDone_130 : decode c_MD_concludeIfDone 130 = .ok (.bipush 12, 2) := by decide +kernel
theorem d_MD_concludeIfDone_132 : decode c_MD_concludeIfDone 132 = .ok (.iload_n 2, 1) := by decide +kernel
theorem d_MD_concludeIfDone_133 : decode c_MD_concludeIfDone 133 = .ok (.iadd, 1) := by decide +kernel
theorem d_MD_concludeIfDone_134 : decode c_MD_concludeIfDone 134 = .ok (.iconst 0, 1) := by decide +kernel
theorem d_MD_concludeIfDone_135 : decode c_MD_concludeIfDone 135 = .ok (.bastore, 1) := by decide +kernel
theorem d_MD_concludeIfDone_136 : decode c_MD_concludeIfDone 136 = .ok (.aload_n 0, 1) := by decide +kernel
theorem d_MD_concludeIfDone_137 : decode c_MD_concludeIfDone 137 = .ok (.bipush 6, 2) := by decide +kernel
theorem d_MD_concludeIfDone_139 : decode c_MD_concludeIfDone 139 = .ok (.invokevirtual 115, 3) := by decide +kernel
theorem d_MD_concludeIfDone_142 : decode c_MD_concludeIfDone 142 = .ok (.iinc 2 1, 3) := by decide +kernel
theorem d_MD_concludeIfDone_145 : decode c_MD_concludeIfDone 145 = .ok (.goto (-97), 3) := by decide +kernel
theorem d_MD_concludeIfDone_148 : decode c_MD_concludeIfDone 148 = .ok (.aload_n 0, 1) := by decide +kernel
theorem d_MD_concludeIfDone_149 : decode c_MD_concludeIfDone 149 = .ok (.invokevirtual 134, 3) := by decide +kernel
theorem d_MD_concludeIfDone_152 : decode c_MD_concludeIfDone 152 = .ok (.aload_n 0, 1) := by decide +kernel
theorem d_MD_concludeIfDone_153 : decode c_MD_concludeIfDone 153 = .ok (.iconst 4, 1) := by decide +kernel
theorem d_MD_concludeIfDone_154 : decode c_MD_concludeIfDone 154 = .ok (.invokevirtual 115, 3) := by decide +kernel
theorem d_MD_concludeIfDone_157 : decode c_MD_concludeIfDone 157 = .ok (.return_, 1) := by decide +kernel
theorem d_MD_entryOf_0 : decode c_MD_entryOf 0 = .ok (.iconst 0, 1) := by decide +kernel
theorem d_MD_entryOf_1 : decode c_MD_entryOf 1 = .ok (.istore_n 2, 1) := by decide +kernel
theorem d_MD_entryOf_2 : decode c_MD_entryOf 2 = .ok (.iconst 0, 1) := by decide +kernel
theorem d_MD_entryOf_3 : decode c_MD_entryOf 3 = .ok (.istore_n 3, 1) := by decide +kernel
theorem d_MD_entryOf_4 : decode c_MD_entryOf 4 = .ok (.iload_n 3, 1) := by decide +kernel
theorem d_MD_entryOf_5 : decode c_MD_entryOf 5 = .ok (.aload_n 0, 1) := by decide +kernel
theorem d_MD_entryOf_6 : decode c_MD_entryOf 6 = .ok (.getfield 128, 3) := by decide +kernel
theorem d_MD_entryOf_9 : decode c_MD_entryOf 9 = .ok (.if_icmp .ge 25, 3) := by decide +kernel
theorem d_MD_entryOf_12 : decode c_MD_entryOf 12 = .ok (.aload_n 0, 1) := by decide +kernel
theorem d_MD_entryOf_13 : decode c_MD_entryOf 13 = .ok (.getfield 32, 3) := by decide +kernel
theorem d_MD_entryOf_16 : decode c_MD_entryOf 16 = .ok (.iload_n 3, 1) := by decide +kernel
theorem d_MD_entryOf_17 : decode c_MD_entryOf 17 = .ok (.iaload, 1) := by decide +kernel
theorem d_MD_entryOf_18 : decode c_MD_entryOf 18 = .ok (.iload_n 1, 1) := by decide +kernel
theorem d_MD_entryOf_19 : decode c_MD_entryOf 19 = .ok (.if_icmp .ne 7, 3) := by decide +kernel
theorem d_MD_entryOf_22 : decode c_MD_entryOf 22 = .ok (.iload_n 3, 1) := by decide +kernel
theorem d_MD_entryOf_23 : decode c_MD_entryOf 23 = .ok (.goto 4, 3) := by decide +kernel
theorem d_MD_entryOf_26 : decode c_MD_entryOf 26 = .ok (.iload_n 2, 1) := by decide +kernel
theorem d_MD_entryOf_27 : decode c_MD_entryOf 27 = .ok (.istore_n 2, 1) := by decide +kernel
theorem d_MD_entryOf_28 : decode c_MD_entryOf 28 = .ok (.iinc 3 1, 3) := by decide +kernel
theorem d_MD_entryOf_31 : decode c_MD_entryOf 31 = .ok (.goto (-27), 3) := by decide +kernel
theorem d_MD_entryOf_34 : decode c_MD_entryOf 34 = .ok (.iload_n 2, 1) := by decide +kernel
theorem d_MD_entryOf_35 : decode c_MD_entryOf 35 = .ok (.ireturn, 1) := by decide +kernel
theorem d_MD_end_0 : decode c_MD_end 0 = .ok (.iconst 0, 1) := by decide +kernel
theorem d_MD_end_1 : decode c_MD_end 1 = .ok (.istore_n 1, 1) := by decide +kernel
theorem d_MD_end_2 : decode c_MD_end 2 = .ok (.iload_n 1, 1) := by decide +kernel
theorem d_MD_end_3 : decode c_MD_end 3 = .ok (.aload_n 0, 1) := by decide +kernel
theorem d_MD_end_4 : decode c_MD_end 4 = .ok (.getfield 128, 3) := by decide +kernel
theorem d_MD_end_7 : decode c_MD_end 7 = .ok (.if_icmp .ge 99, 3) := by decide +kernel
theorem d_MD_end_10 : decode c_MD_end 10 = .ok (.aload_n 0, 1) := by decide +kernel
theorem d_MD_end_11 : decode c_MD_end 11 = .ok (.iconst 1, 1) := by decide +kernel
theorem d_MD_end_12 : decode c_MD_end 12 = .ok (.aload_n 0, 1) := by decide +kernel
theorem d_MD_end_13 : decode c_MD_end 13 = .ok (.getfield 32, 3) := by decide +kernel
theorem d_MD_end_16 : decode c_MD_end 16 = .ok (.iload_n 1, 1) := by decide +kernel
theorem d_MD_end_17 : decode c_MD_end 17 = .ok (.iaload, 1) := by decide +kernel
theorem d_MD_end_18 : decode c_MD_end 18 = .ok (.invokevirtual 87, 3) := by decide +kernel
theorem d_MD_end_21 : decode c_MD_end 21 = .ok (.istore_n 2, 1) := by decide +kernel
theorem d_MD_end_22 : decode c_MD_end 22 = .ok (.iload_n 2, 1) := by decide +kernel
theorem d_MD_end_23 : decode c_MD_end 23 = .ok (.ifCond .lt 37, 3) := by decide +kernel
theorem d_MD_end_26 : decode c_MD_end 26 = .ok (.aload_n 0, 1) := by decide +kernel
theorem d_MD_end_27 : decode c_MD_end 27 = .ok (.getfield 13, 3) := by decide +kernel
theorem d_MD_end_30 : decode c_MD_end 30 = .ok (.iload_n 2, 1) := by decide +kernel
theorem d_MD_end_31 : decode c_MD_end 31 = .ok (.iaload, 1) := by decide +kernel
theorem d_MD_end_32 : decode c_MD_end 32 = .ok (.aload_n 0, 1) := by decide +kernel
theorem d_MD_end_33 : decode c_MD_end 33 = .ok (.getfield 35, 3) := by decide +kernel
theorem d_MD_end_36 : decode c_MD_end 36 = .ok (.iload_n 1, 1) := by decide +kernel
theorem d_MD_end_37 : decode c_MD_end 37 = .ok (.iaload, 1) := by decide +kernel
theorem d_MD_end_38 : decode c_MD_end 38 = .ok (.if_icmp .ne 22, 3) := by decide +kernel
theorem d_MD_end_41 : decode c_MD_end 41 = .ok (.aload_n 0, 1) := by decide +kernel
theorem d_MD_end_42 : decode c_MD_end 42 = .ok (.getfield 17, 3) := by decide +kernel
theorem d_MD_end_45 : decode c_MD_end 45 = .ok (.iload_n 2, 1) := by decide +kernel
theorem d_MD_end_46 : decode c_MD_end 46 = .ok (.iaload, 1) := by decide +kernel
theorem d_MD_end_47 : decode c_MD_end 47 = .ok (.aload_n 0, 1) := by decide +kernel
theorem d_MD_end_48 : decode c_MD_end 48 = .ok (.getfield 38, 3) := by decide +kernel
theorem d_MD_end_51 : decode c_MD_end 51 = .ok (.iload_n 1, 1) := by decide +kernel
theorem d_MD_end_52 : decode c_MD_end 52 = .ok (.iaload, 1) := by decide +kernel
theorem d_MD_end_53 : decode c_MD_end 53 = .ok (.if_icmp .ne 7, 3) := by decide +kernel
theorem d_MD_end_56 : decode c_MD_end 56 = .ok (.iconst 1, 1) := by decide +kernel
theorem d_MD_end_57 : decode c_MD_end 57 = .ok (.goto 4, 3) := by decide +kernel
theorem d_MD_end_60 : decode c_MD_end 60 = .ok (.iconst 0, 1) := by decide +kernel
theorem d_MD_end_61 : decode c_MD_end 61 = .ok (.istore_n 3, 1) := by decide +kernel
theorem d_MD_end_62 : decode c_MD_end 62 = .ok (.aload_n 0, 1) := by decide +kernel
theorem d_MD_end_63 : decode c_MD_end 63 = .ok (.getfield 41, 3) := by decide +kernel
theorem d_MD_end_66 : decode c_MD_end 66 = .ok (.iload_n 1, 1) := by decide +kernel
theorem d_MD_end_67 : decode c_MD_end 67 = .ok (.iload_n 3, 1) := by decide +kernel
theorem d_MD_end_68 : decode c_MD_end 68 = .ok (.ifCond .ne 7, 3) := by decide +kernel
theorem d_MD_end_71 : decode c_MD_end 71 = .ok (.iconst 1, 1) := by decide +kernel
theorem d_MD_end_72 : decode c_MD_end 72 = .ok (.goto 4, 3) := by decide +kernel
theorem d_MD_end_75 : decode c_MD_end 75 = .ok (.iconst 0, 1) := by decide +kernel
theorem d_MD_end_76 : decode c_MD_end 76 = .ok (.bastore, 1) := by decide +kernel
theorem d_MD_end_77 : decode c_MD_end 77 = .ok (.iload_n 3, 1) := by decide +kernel
theorem d_MD_end_78 : decode c_MD_end 78 = .ok (.ifCond .eq 11, 3) := by decide +kernel
theorem d_MD_end_81 : decode c_MD_end 81 = .ok (.aload_n 0, 1) := by decide +kernel
theorem d_MD_end_82 : decode c_MD_end 82 = .ok (.iconst 5, 1) := by decide +kernel
theorem d_MD_end_83 : decode c_MD_end 83 = .ok (.invokevirtual 115, 3) := by decide +kernel
theorem d_MD_end_86 : decode c_MD_end 86 = .ok (.goto 14, 3) := by decide +kernel
theorem d_MD_end_89 : decode c_MD_end 89 = .ok (.aload_n 0, 1) := by decide +kernel
theorem d_MD_end_90 : decode c_MD_end 90 = .ok (.aload_n 0, 1) := by decide +kernel
theorem d_MD_end_91 : decode c_MD_end 91 = .ok (.getfield 32, 3) := by decide +kernel
theorem d_MD_end_94 : decode c_MD_end 94 = .ok (.iload_n 1, 1) := by decide +kernel
theorem d_MD_end_95 : decode c_MD_end 95 = .ok (.iaload, 1) := by decide +kernel
theorem d_MD_end_96 : decode c_MD_end 96 = .ok (.iconst 1, 1) := by decide +kernel
theorem d_MD_end_97 : decode c_MD_end 97 = .ok (.invokevirtual 137, 3) := by decide +kernel
theorem d_MD_end_100 : decode c_MD_end 100 = .ok (.iinc 1 1, 3) := by decide +kernel
theorem d_MD_end_103 : decode c_MD_end 103 = .ok (.goto (-101), 3) := by decide +kernel
theorem d_MD_end_106 : decode c_MD_end 106 = .ok (.aload_n 0, 1) := by decide +kernel
theorem d_MD_end_107 : decode c_MD_end 107 = .ok (.invokevirtual 141, 3) := by decide +kernel
theorem d_MD_end_110 : decode c_MD_end 110 = .ok (.return_, 1) := by decide +kernel
theorem d_MD_match_0 : decode c_MD_match 0 = .ok (.aload_n 0, 1) := by decide +kernel
theorem d_MD_match_1 : decode c_MD_match 1 = .ok (.iload_n 2, 1) := by decide +kernel
theorem d_MD_match_2 : decode c_MD_match 2 = .ok (.aload_n 0, 1) := by decide +kernel
theorem d_MD_match_3 : decode c_MD_match 3 = .ok (.getfield 99, 3) := by decide +kernel
theorem d_MD_match_6 : decode c_MD_match 6 = .ok (.invokevirtual 102, 3) := by decide +kernel
theorem d_MD_match_9 : decode c_MD_match 9 = .ok (.istore 4, 2) := by decide +kernel
theorem d_MD_match_11 : decode c_MD_match 11 = .ok (.aload_n 0, 1) := by decide +kernel
theorem d_MD_match_12 : decode c_MD_match 12 = .ok (.iload_n 2, 1) := by decide +kernel
theorem d_MD_match_13 : decode c_MD_match 13 = .ok (.aload_n 0, 1) := by decide +kernel
theorem d_MD_match_14 : decode c_MD_match 14 = .ok (.getfield 99, 3) := by decide +kernel
theorem d_MD_match_17 : decode c_MD_match 17 = .ok (.iload_n 3, 1) := by decide +kernel
theorem d_MD_match_18 : decode c_MD_match 18 = .ok (.invokevirtual 108, 3) := by decide +kernel
theorem d_MD_match_21 : decode c_MD_match 21 = .ok (.istore 5, 2) := by decide +kernel
theorem d_MD_match_23 : decode c_MD_match 23 = .ok (.iconst (-1), 1) := by decide +kernel
theorem d_MD_match_24 : decode c_MD_match 24 = .ok (.istore 6, 2) := by decide +kernel
theorem d_MD_match_26 : decode c_MD_match 26 = .ok (.aload_n 0, 1) := by decide +kernel
theorem d_MD_match_27 : decode c_MD_match 27 = .ok (.getfield 47, 3) := by decide +kernel
theorem d_MD_match_30 : decode c_MD_match 30 = .ok (.iload_n 1, 1) := by decide +kernel
theorem d_MD_match_31 : decode c_MD_match 31 = .ok (.iconst 5, 1) := by decide +kernel
theorem d_MD_match_32 : decode c_MD_match 32 = .ok (.iadd, 1) := by decide +kernel
theorem d_MD_match_33 : decode c_MD_match 33 = .ok (.iaload, 1) := by decide +kernel
theorem d_MD_match_34 : decode c_MD_match 34 = .ok (.iconst 2, 1) := by decide +kernel
theorem d_MD_match_35 : decode c_MD_match 35 = .ok (.idiv, 1) := by decide +kernel
theorem d_MD_match_36 : decode c_MD_match 36 = .ok (.iconst 1, 1) := by decide +kernel
theorem d_MD_match_37 : decode c_MD_match 37 = .ok (.isub, 1) := by decide +kernel
theorem d_MD_match_38 : decode c_MD_match 38 = .ok (.istore 7, 2) := by decide +kernel
theorem d_MD_match_40 : decode c_MD_match 40 = .ok (.iload 7, 2) := by decide +kernel
theorem d_MD_match_42 : decode c_MD_match 42 = .ok (.ifCond .lt 56, 3) := by decide +kernel
theorem d_MD_match_45 : decode c_MD_match 45 = .ok (.aload_n 0, 1) := by decide +kernel
theorem d_MD_match_46 : decode c_MD_match 46 = .ok (.getfield 47, 3) := by decide +kernel
theorem d_MD_match_49 : decode c_MD_match 49 = .ok (.iload_n 1, 1) := by decide +kernel
theorem d_MD_match_50 : decode c_MD_match 50 = .ok (.bipush 6, 2) := by decide +kernel
theorem d_MD_match_52 : decode c_MD_match 52 = .ok (.iadd, 1) := by decide +kernel
theorem d_MD_match_53 : decode c_MD_match 53 = .ok (.iconst 2, 1) := by decide +kernel
theorem d_MD_match_54 : decode c_MD_match 54 = .ok (.iload 7, 2) := by decide +kernel
theorem d_MD_match_56 : decode c_MD_match 56 = .ok (.imul, 1) := by decide +kernel
theorem d_MD_match_57 : decode c_MD_match 57 = .ok (.iadd, 1) := by decide +kernel
theorem d_MD_match_58 : decode c_MD_match 58 = .ok (.iaload, 1) := by decide +kernel
theorem d_MD_match_59 : decode c_MD_match 59 = .ok (.iload 4, 2) := by decide +kernel
theorem d_MD_match_61 : decode c_MD_match 61 = .ok (.if_icmp .ne 27, 3) := by decide +kernel
theorem d_MD_match_64 : decode c_MD_match 64 = .ok (.aload_n 0, 1) := by decide +kernel
theorem d_MD_match_65 : decode c_MD_match 65 = .ok (.getfield 47, 3) := by decide +kernel
theorem d_MD_match_68 : decode c_MD_match 68 = .ok (.iload_n 1, 1) := by decide +kernel
theorem d_MD_match_69 : decode c_MD_match 69 = .ok (.bipush 7, 2) := by decide +kernel
theorem d_MD_match_71 : decode c_MD_match 71 = .ok (.iadd, 1) := by decide +kernel
theorem d_MD_match_72 : decode c_MD_match 72 = .ok (.iconst 2, 1) := by decide +kernel
theorem d_MD_match_73 : decode c_MD_match 73 = .ok (.iload 7, 2) := by decide +kernel
theorem d_MD_match_75 : decode c_MD_match 75 = .ok (.imul, 1) := by decide +kernel
theorem d_MD_match_76 : decode c_MD_match 76 = .ok (.iadd, 1) := by decide +kernel
theorem d_MD_match_77 : decode c_MD_match 77 = .ok (.iaload, 1) := by decide +kernel
theorem d_MD_match_78 : decode c_MD_match 78 = .ok (.iload 5, 2) := by decide +kernel
theorem d_MD_match_80 : decode c_MD_match 80 = .ok (.if_icmp .ne 8, 3) := by decide +kernel
theorem d_MD_match_83 : decode c_MD_match 83 = .ok (.iload 7, 2) := by decide +kernel
theorem d_MD_match_85 : decode c_MD_match 85 = .ok (.goto 5, 3) := by decide +kernel
theorem d_MD_match_88 : decode c_MD_match 88 = .ok (.iload 6, 2) := by decide +kernel
theorem d_MD_match_90 : decode c_MD_match 90 = .ok (.istore 6, 2) := by decide +kernel
theorem d_MD_match_92 : decode c_MD_match 92 = .ok (.iinc 7 (-1), 3) := by decide +kernel
theorem d_MD_match_95 : decode c_MD_match 95 = .ok (.goto (-55), 3) := by decide +kernel
theorem d_MD_match_98 : decode c_MD_match 98 = .ok (.iload 6, 2) := by decide +kernel
theorem d_MD_match_100 : decode c_MD_match 100 = .ok (.ireturn, 1) := by decide +kernel
theorem d_MD_answer_0 : decode c_MD_answer 0 = .ok (.aload_n 0, 1) := by decide +kernel
theorem d_MD_answer_1 : decode c_MD_answer 1 = .ok (.getfield 47, 3) := by decide +kernel
theorem d_MD_answer_4 : decode c_MD_answer 4 = .ok (.iload_n 1, 1) := by decide +kernel
theorem d_MD_answer_5 : decode c_MD_answer 5 = .ok (.iconst 1, 1) := by decide +kernel
theorem d_MD_answer_6 : decode c_MD_answer 6 = .ok (.iadd, 1) := by decide +kernel
theorem d_MD_answer_7 : decode c_MD_answer 7 = .ok (.iaload, 1) := by decide +kernel
theorem d_MD_answer_8 : decode c_MD_answer 8 = .ok (.istore_n 2, 1) := by decide +kernel
theorem d_MD_answer_9 : decode c_MD_answer 9 = .ok (.aload_n 0, 1) := by decide +kernel
theorem d_MD_answer_10 : decode c_MD_answer 10 = .ok (.getfield 47, 3) := by decide +kernel
theorem d_MD_answer_13 : decode c_MD_answer 13 = .ok (.iload_n 1, 1) := by decide +kernel
theorem d_MD_answer_14 : decode c_MD_answer 14 = .ok (.iconst 2, 1) := by decide +kernel
theorem d_MD_answer_15 : decode c_MD_answer 15 = .ok (.iadd, 1) := by decide +kernel
theorem d_MD_answer_16 : decode c_MD_answer 16 = .ok (.iaload, 1) := by decide +kernel
theorem d_MD_answer_17 : decode c_MD_answer 17 = .ok (.istore_n 3, 1) := by decide +kernel
theorem d_MD_answer_18 : decode c_MD_answer 18 = .ok (.aload_n 0, 1) := by decide +kernel
theorem d_MD_answer_19 : decode c_MD_answer 19 = .ok (.iconst 0, 1) := by decide +kernel
theorem d_MD_answer_20 : decode c_MD_answer 20 = .ok (.iload_n 2, 1) := by decide +kernel
theorem d_MD_answer_21 : decode c_MD_answer 21 = .ok (.invokevirtual 87, 3) := by decide +kernel
theorem d_MD_answer_24 : decode c_MD_answer 24 = .ok (.istore 4, 2) := by decide +kernel
theorem d_MD_answer_26 : decode c_MD_answer 26 = .ok (.iload 4, 2) := by decide +kernel
theorem d_MD_answer_28 : decode c_MD_answer 28 = .ok (.ifCond .ge 14, 3) := by decide +kernel
theorem d_MD_answer_31 : decode c_MD_answer 31 = .ok (.aload_n 0, 1) := by decide +kernel
theorem d_MD_answer_32 : decode c_MD_answer 32 = .ok (.iconst 1, 1) := by decide +kernel
theorem d_MD_answer_33 : decode c_MD_answer 33 = .ok (.iconst 5, 1) := by decide +kernel
theorem d_MD_answer_34 : decode c_MD_answer 34 = .ok (.iload_n 2, 1) := by decide +kernel
theorem d_MD_answer_35 : decode c_MD_answer 35 = .ok (.iload_n 3, 1) := by decide +kernel
theorem d_MD_answer_36 : decode c_MD_answer 36 = .ok (.iconst 0, 1) := by decide +kernel
theorem d_MD_answer_37 : decode c_MD_answer 37 = .ok (.iconst 0, 1) := by decide +kernel
theorem d_MD_answer_38 : decode c_MD_answer 38 = .ok (.invokevirtual 95, 3) := by decide +kernel
theorem d_MD_answer_41 : decode c_MD_answer 41 = .ok (.return_, 1) := by decide +kernel
theorem d_MD_answer_42 : decode c_MD_answer 42 = .ok (.ldc 144, 2) := by decide +kernel
theorem d_MD_answer_44 : decode c_MD_answer 44 = .ok (.istore 5, 2) := by decide +kernel
theorem d_MD_answer_46 : decode c_MD_answer 46 = .ok (.iconst 0, 1) := by decide +kernel
theorem d_MD_answer_47 : decode c_MD_answer 47 = .ok (.istore 6, 2) := by decide +kernel
theorem d_MD_answer_49 : decode c_MD_answer 49 = .ok (.iload 6, 2) := by decide +kernel
theorem d_MD_answer_51 : decode c_MD_answer 51 = .ok (.aload_n 0, 1) := by decide +kernel
theorem d_MD_answer_52 : decode c_MD_answer 52 = .ok (.getfield 13, 3) := by decide +kernel
theorem d_MD_answer_55 : decode c_MD_answer 55 = .ok (.iload 4, 2) := by decide +kernel
theorem d_MD_answer_57 : decode c_MD_answer 57 = .ok (.iaload, 1) := by decide +kernel
theorem d_MD_answer_58 : decode c_MD_answer 58 = .ok (.if_icmp .ge 30, 3) := by decide +kernel
theorem d_MD_answer_61 : decode c_MD_answer 61 = .ok (.iload 5, 2) := by decide +kernel
theorem d_MD_answer_63 : decode c_MD_answer 63 = .ok (.aload_n 0, 1) := by decide +kernel
theorem d_MD_answer_64 : decode c_MD_answer 64 = .ok (.getfield 20, 3) := by decide +kernel
theorem d_MD_answer_67 : decode c_MD_answer 67 = .ok (.bipush 40, 2) := by decide +kernel
theorem d_MD_answer_69 : decode c_MD_answer 69 = .ok (.iload 4, 2) := by decide +kernel
theorem d_MD_answer_71 : decode c_MD_answer 71 = .ok (.imul, 1) := by decide +kernel
theorem d_MD_answer_72 : decode c_MD_answer 72 = .ok (.iload 6, 2) := by decide +kernel
theorem d_MD_answer_74 : decode c_MD_answer 74 = .ok (.iadd, 1) := by decide +kernel
theorem d_MD_answer_75 : decode c_MD_answer 75 = .ok (.iaload, 1) := by decide +kernel
theorem d_MD_answer_76 : decode c_MD_answer 76 = .ok (.ixor, 1) := by decide +kernel
theorem d_MD_answer_77 : decode c_MD_answer 77 = .ok (.ldc 145, 2) := by decide +kernel
theorem d_MD_answer_79 : decode c_MD_answer 79 = .ok (.imul, 1) := by decide +kernel
theorem d_MD_answer_80 : decode c_MD_answer 80 = .ok (.istore 5, 2) := by decide +kernel
theorem d_MD_answer_82 : decode c_MD_answer 82 = .ok (.iinc 6 1, 3) := by decide +kernel
theorem d_MD_answer_85 : decode c_MD_answer 85 = .ok (.goto (-36), 3) := by decide +kernel
theorem d_MD_answer_88 : decode c_MD_answer 88 = .ok (.aload_n 0, 1) := by decide +kernel
theorem d_MD_answer_89 : decode c_MD_answer 89 = .ok (.iconst 1, 1) := by decide +kernel
theorem d_MD_answer_90 : decode c_MD_answer 90 = .ok (.iconst 4, 1) := by decide +kernel
theorem d_MD_answer_91 : decode c_MD_answer 91 = .ok (.iload_n 2, 1) := by decide +kernel
theorem d_MD_answer_92 : decode c_MD_answer 92 = .ok (.iload_n 3, 1) := by decide +kernel
theorem d_MD_answer_93 : decode c_MD_answer 93 = .ok (.iload 5, 2) := by decide +kernel
theorem d_MD_answer_95 : decode c_MD_answer 95 = .ok (.iconst 0, 1) := by decide +kernel
theorem d_MD_answer_96 : decode c_MD_answer 96 = .ok (.invokevirtual 95, 3) := by decide +kernel
theorem d_MD_answer_99 : decode c_MD_answer 99 = .ok (.iconst 0, 1) := by decide +kernel
theorem d_MD_answer_100 : decode c_MD_answer 100 = .ok (.istore 6, 2) := by decide +kernel
theorem d_MD_answer_102 : decode c_MD_answer 102 = .ok (.iload 6, 2) := by decide +kernel
theorem d_MD_answer_104 : decode c_MD_answer 104 = .ok (.aload_n 0, 1) := by decide +kernel
theorem d_MD_answer_105 : decode c_MD_answer 105 = .ok (.getfield 13, 3) := by decide +kernel
theorem d_MD_answer_108 : decode c_MD_answer 108 = .ok (.iload 4, 2) := by decide +kernel
theorem d_MD_answer_110 : decode c_MD_answer 110 = .ok (.iaload, 1) := by decide +kernel
theorem d_MD_answer_111 : decode c_MD_answer 111 = .ok (.if_icmp .ge 109, 3) := by decide +kernel
theorem d_MD_answer_114 : decode c_MD_answer 114 = .ok (.iload 6, 2) := by decide +kernel
theorem d_MD_answer_116 : decode c_MD_answer 116 = .ok (.aload_n 0, 1) := by decide +kernel
theorem d_MD_answer_117 : decode c_MD_answer 117 = .ok (.getfield 99, 3) := by decide +kernel
theorem d_MD_answer_120 : decode c_MD_answer 120 = .ok (.iadd, 1) := by decide +kernel
theorem d_MD_answer_121 : decode c_MD_answer 121 = .ok (.aload_n 0, 1) := by decide +kernel
theorem d_MD_answer_122 : decode c_MD_answer 122 = .ok (.getfield 13, 3) := by decide +kernel
theorem d_MD_answer_125 : decode c_MD_answer 125 = .ok (.iload 4, 2) := by decide +kernel
theorem d_MD_answer_127 : decode c_MD_answer 127 = .ok (.iaload, 1) := by decide +kernel
theorem d_MD_answer_128 : decode c_MD_answer 128 = .ok (.if_icmp .gt 20, 3) := by decide +kernel
theorem d_MD_answer_131 : decode c_MD_answer 131 = .ok (.aload_n 0, 1) := by decide +kernel
theorem d_MD_answer_132 : decode c_MD_answer 132 = .ok (.iload_n 1, 1) := by decide +kernel
theorem d_MD_answer_133 : decode c_MD_answer 133 = .ok (.bipush 40, 2) := by decide +kernel
theorem d_MD_answer_135 : decode c_MD_answer 135 = .ok (.iload 4, 2) := by decide +kernel
theorem d_MD_answer_137 : decode c_MD_answer 137 = .ok (.imul, 1) := by decide +kernel
theorem d_MD_answer_138 : decode c_MD_answer 138 = .ok (.iload 6, 2) := by decide +kernel
theorem d_MD_answer_140 : decode c_MD_answer 140 = .ok (.iadd, 1) := by decide +kernel
theorem d_MD_answer_141 : decode c_MD_answer 141 = .ok (.iload_n 3, 1) := by decide +kernel
theorem d_MD_answer_142 : decode c_MD_answer 142 = .ok (.invokevirtual 146, 3) := by decide +kernel
theorem d_MD_answer_145 : decode c_MD_answer 145 = .ok (.goto 4, 3) := by decide +kernel
theorem d_MD_answer_148 : decode c_MD_answer 148 = .ok (.iconst (-1), 1) := by decide +kernel
theorem d_MD_answer_149 : decode c_MD_answer 149 = .ok (.istore 7, 2) := by decide +kernel
theorem d_MD_answer_151 : decode c_MD_answer 151 = .ok (.aload_n 0, 1) := by decide +kernel
theorem d_MD_answer_152 : decode c_MD_answer 152 = .ok (.iload 7, 2) := by decide +kernel
theorem d_MD_answer_154 : decode c_MD_answer 154 = .ok (.ifCond .lt 12, 3) := by decide +kernel
theorem d_MD_answer_157 : decode c_MD_answer 157 = .ok (.sipush 256, 3) := by decide +kernel
theorem d_MD_answer_160 : decode c_MD_answer 160 = .ok (.iload 7, 2) := by decide +kernel
theorem d_MD_answer_162 : decode c_MD_answer 162 = .ok (.iadd, 1) := by decide +kernel
theorem d_MD_answer_163 : decode c_MD_answer 163 = .ok (.goto 16, 3) := by decide +kernel
theorem d_MD_answer_166 : decode c_MD_answer 166 = .ok (.aload_n 0, 1) := by decide +kernel
theorem d_MD_answer_167 : decode c_MD_answer 167 = .ok (.getfield 20, 3) := by decide +kernel
theorem d_MD_answer_170 : decode c_MD_answer 170 = .ok (.bipush 40, 2) := by decide +kernel
theorem d_MD_answer_172 : decode c_MD_answer 172 = .ok (.iload 4, 2) := by decide +kernel
theorem d_MD_answer_174 : decode c_MD_answer 174 = .ok (.imul, 1) := by decide +kernel
theorem d_MD_answer_175 : decode c_MD_answer 175 = .ok (.iload 6, 2) := by decide +kernel
theorem d_MD_answer_177 : decode c_MD_answer 177 = .ok (.iadd, 1) := by decide +kernel
theorem d_MD_answer_178 : decode c_MD_answer 178 = .ok (.iaload, 1) := by decide +kernel
theorem d_MD_answer_179 : decode c_MD_answer 179 = .ok (.invokevirtual 105, 3) := by decide +kernel
theorem d_MD_answer_182 : decode c_MD_answer 182 = .ok (.aload_n 0, 1) := by decide +kernel
theorem d_MD_answer_183 : decode c_MD_answer 183 = .ok (.iload 7, 2) := by decide +kernel
theorem d_MD_answer_185 : decode c_MD_answer 185 = .ok (.ifCond .lt 7, 3) := by decide +kernel
theorem d_MD_answer_188 : decode c_MD_answer 188 = .ok (.iconst 1, 1) := by decide +kernel
theorem d_MD_answer_189 : decode c_MD_answer 189 = .ok (.goto 4, 3) := by decide +kernel
theorem d_MD_answer_192 : decode c_MD_answer 192 = .ok (.iconst 0, 1) := by decide +kernel
theorem d_MD_answer_193 : decode c_MD_answer 193 = .ok (.invokevirtual 115, 3) := by decide +kernel
theorem d_MD_answer_196 : decode c_MD_answer 196 = .ok (.iload 7, 2) := by decide +kernel
theorem d_MD_answer_198 : decode c_MD_answer 198 = .ok (.ifCond .lt 13, 3) := by decide +kernel
theorem d_MD_answer_201 : decode c_MD_answer 201 = .ok (.iload 6, 2) := by decide +kernel
theorem d_MD_answer_203 : decode c_MD_answer 203 = .ok (.aload_n 0, 1) := by decide +kernel
theorem d_MD_answer_204 : decode c_MD_answer 204 = .ok (.getfield 99, 3) := by decide +kernel
theorem d_MD_answer_207 : decode c_MD_answer 207 = .ok (.iadd, 1) := by decide +kernel
theorem d_MD_answer_208 : decode c_MD_answer 208 = .ok (.goto 7, 3) := by decide +kernel
theorem d_MD_answer_211 : decode c_MD_answer 211 = .ok (.iload 6, 2) := by decide +kernel
theorem d_MD_answer_213 : decode c_MD_answer 213 = .ok (.iconst 1, 1) := by decide +kernel
theorem d_MD_answer_214 : decode c_MD_answer 214 = .ok (.iadd, 1) := by decide +kernel
theorem d_MD_answer_215 : decode c_MD_answer 215 = .ok (.istore 6, 2) := by decide +kernel
theorem d_MD_answer_217 : decode c_MD_answer 217 = .ok (.goto (-115), 3) := by decide +kernel
theorem d_MD_answer_220 : decode c_MD_answer 220 = .ok (.return_, 1) := by decide +kernel
theorem d_MD_rebuild_0 : decode c_MD_rebuild 0 = .ok (.aload_n 0, 1) := by decide +kernel
theorem d_MD_rebuild_1 : decode c_MD_rebuild 1 = .ok (.iconst 1, 1) := by decide +kernel
theorem d_MD_rebuild_2 : decode c_MD_rebuild 2 = .ok (.aload_n 0, 1) := by decide +kernel
theorem d_MD_rebuild_3 : decode c_MD_rebuild 3 = .ok (.getfield 47, 3) := by decide +kernel
theorem d_MD_rebuild_6 : decode c_MD_rebuild 6 = .ok (.iload_n 1, 1) := by decide +kernel
theorem d_MD_rebuild_7 : decode c_MD_rebuild 7 = .ok (.iconst 1, 1) := by decide +kernel
theorem d_MD_rebuild_8 : decode c_MD_rebuild 8 = .ok (.iadd, 1) := by decide +kernel
theorem d_MD_rebuild_9 : decode c_MD_rebuild 9 = .ok (.iaload, 1) := by decide +kernel
theorem d_MD_rebuild_10 : decode c_MD_rebuild 10 = .ok (.invokevirtual 87, 3) := by decide +kernel
theorem d_MD_rebuild_13 : decode c_MD_rebuild 13 = .ok (.istore_n 2, 1) := by decide +kernel
theorem d_MD_rebuild_14 : decode c_MD_rebuild 14 = .ok (.aload_n 0, 1) := by decide +kernel
theorem d_MD_rebuild_15 : decode c_MD_rebuild 15 = .ok (.iconst 0, 1) := by decide +kernel
theorem d_MD_rebuild_16 : decode c_MD_rebuild 16 = .ok (.putfield 149, 3) := by decide +kernel
theorem d_MD_rebuild_19 : decode c_MD_rebuild 19 = .ok (.iconst 0, 1) := by decide +kernel
theorem d_MD_rebuild_20 : decode c_MD_rebuild 20 = .ok (.istore_n 3, 1) := by decide +kernel
theorem d_MD_rebuild_21 : decode c_MD_rebuild 21 = .ok (.iload_n 3, 1) := by decide +kernel
theorem d_MD_rebuild_22 : decode c_MD_rebuild 22 = .ok (.aload_n 0, 1) := by decide +kernel
theorem d_MD_rebuild_23 : decode c_MD_rebuild 23 = .ok (.getfield 47, 3) := by decide +kernel
theorem d_MD_rebuild_26 : decode c_MD_rebuild 26 = .ok (.iload_n 1, 1) := by decide +kernel
theorem d_MD_rebuild_27 : decode c_MD_rebuild 27 = .ok (.iconst 5, 1) := by decide +kernel
theorem d_MD_rebuild_28 : decode c_MD_rebuild 28 = .ok (.iadd, 1) := by decide +kernel
theorem d_MD_rebuild_29 : decode c_MD_rebuild 29 = .ok (.iaload, 1) := by decide +kernel
theorem d_MD_rebuild_30 : decode c_MD_rebuild 30 = .ok (.if_icmp .ge 160, 3) := by decide +kernel
theorem d_MD_rebuild_33 : decode c_MD_rebuild 33 = .ok (.aload_n 0, 1) := by decide +kernel
theorem d_MD_rebuild_34 : decode c_MD_rebuild 34 = .ok (.getfield 47, 3) := by decide +kernel
theorem d_MD_rebuild_37 : decode c_MD_rebuild 37 = .ok (.iload_n 1, 1) := by decide +kernel
theorem d_MD_rebuild_38 : decode c_MD_rebuild 38 = .ok (.bipush 6, 2) := by decide +kernel
theorem d_MD_rebuild_40 : decode c_MD_rebuild 40 = .ok (.iadd, 1) := by decide +kernel
theorem d_MD_rebuild_41 : decode c_MD_rebuild 41 = .ok (.iload_n 3, 1) := by decide +kernel
theorem d_MD_rebuild_42 : decode c_MD_rebuild 42 = .ok (.iadd, 1) := by decide +kernel
theorem d_MD_rebuild_43 : decode c_MD_rebuild 43 = .ok (.iaload, 1) := by decide +kernel
theorem d_MD_rebuild_44 : decode c_MD_rebuild 44 = .ok (.istore 4, 2) := by decide +kernel
theorem d_MD_rebuild_46 : decode c_MD_rebuild 46 = .ok (.iload 4, 2) := by decide +kernel
theorem d_MD_rebuild_48 : decode c_MD_rebuild 48 = .ok (.sipush 256, 3) := by decide +kernel
theorem d_MD_rebuild_51 : decode c_MD_rebuild 51 = .ok (.if_icmp .ge 7, 3) := by decide +kernel
theorem d_MD_rebuild_54 : decode c_MD_rebuild 54 = .ok (.iconst 0, 1) := by decide +kernel
theorem d_MD_rebuild_55 : decode c_MD_rebuild 55 = .ok (.goto 14, 3) := by decide +kernel
theorem d_MD_rebuild_58 : decode c_MD_rebuild 58 = .ok (.iload 4, 2) := by decide +kernel
theorem d_MD_rebuild_60 : decode c_MD_rebuild 60 = .ok (.sipush 256, 3) := by decide +kernel
theorem d_MD_rebuild_63 : decode c_MD_rebuild 63 = .ok (.isub, 1) := by decide +kernel
theorem d_MD_rebuild_64 : decode c_MD_rebuild 64 = .ok (.aload_n 0, 1) := by decide +kernel
theorem d_MD_rebuild_65 : decode c_MD_rebuild 65 = .ok (.getfield 99, 3) := by decide +kernel
theorem d_MD_rebuild_68 : decode c_MD_rebuild 68 = .ok (.imul, 1) := by decide +kernel
theorem d_MD_rebuild_69 : decode c_MD_rebuild 69 = .ok (.istore 5, 2) := by decide +kernel
theorem d_MD_rebuild_71 : decode c_MD_rebuild 71 = .ok (.iload 5, 2) := by decide +kernel
theorem d_MD_rebuild_73 : decode c_MD_rebuild 73 = .ok (.istore 6, 2) := by decide +kernel
theorem d_MD_rebuild_75 : decode c_MD_rebuild 75 = .ok (.iload 6, 2) := by decide +kernel
theorem d_MD_rebuild_77 : decode c_MD_rebuild 77 = .ok (.iload 5, 2) := by decide +kernel
theorem d_MD_rebuild_79 : decode c_MD_rebuild 79 = .ok (.iload 4, 2) := by decide +kernel
theorem d_MD_rebuild_81 : decode c_MD_rebuild 81 = .ok (.sipush 256, 3) := by decide +kernel
theorem d_MD_rebuild_84 : decode c_MD_rebuild 84 = .ok (.if_icmp .ge 7, 3) := by decide +kernel
theorem d_MD_rebuild_87 : decode c_MD_rebuild 87 = .ok (.iconst 1, 1) := by decide +kernel
theorem d_MD_rebuild_88 : decode c_MD_rebuild 88 = .ok (.goto 7, 3) := by decide +kernel
theorem d_MD_rebuild_91 : decode c_MD_rebuild 91 = .ok (.aload_n 0, 1) := by decide +kernel
theorem d_MD_rebuild_92 : decode c_MD_rebuild 92 = .ok (.getfield 99, 3) := by decide +kernel
theorem d_MD_rebuild_95 : decode c_MD_rebuild 95 = .ok (.iadd, 1) := by decide +kernel
theorem d_MD_rebuild_96 : decode c_MD_rebuild 96 = .ok (.if_icmp .ge 88, 3) := by decide +kernel
theorem d_MD_rebuild_99 : decode c_MD_rebuild 99 = .ok (.iload 4, 2) := by decide +kernel
theorem d_MD_rebuild_101 : decode c_MD_rebuild 101 = .ok (.sipush 256, 3) := by decide +kernel
theorem d_MD_rebuild_104 : decode c_MD_rebuild 104 = .ok (.if_icmp .lt 18, 3) := by decide +kernel
theorem d_MD_rebuild_107 : decode c_MD_rebuild 107 = .ok (.iload_n 2, 1) := by decide +kernel
theorem d_MD_rebuild_108 : decode c_MD_rebuild 108 = .ok (.ifCond .lt 18, 3) := by decide +kernel
theorem d_MD_rebuild_111 : decode c_MD_rebuild 111 = .ok (.iload 6, 2) := by decide +kernel
theorem d_MD_rebuild_113 : decode c_MD_rebuild 113 = .ok (.aload_n 0, 1) := by decide +kernel
theorem d_MD_rebuild_114 : decode c_MD_rebuild 114 = .ok (.getfield 13, 3) := by decide +kernel
theorem d_MD_rebuild_117 : decode c_MD_rebuild 117 = .ok (.iload_n 2, 1) := by decide +kernel
theorem d_MD_rebuild_118 : decode c_MD_rebuild 118 = .ok (.iaload, 1) := by decide +kernel
theorem d_MD_rebuild_119 : decode c_MD_rebuild 119 = .ok (.if_icmp .ge 7, 3) := by decide +kernel
theorem d_MD_rebuild_122 : decode c_MD_rebuild 122 = .ok (.iconst 1, 1) := by decide +kernel
theorem d_MD_rebuild_123 : decode c_MD_rebuild 123 = .ok (.goto 4, 3) := by decide +kernel
theorem d_MD_rebuild_126 : decode c_MD_rebuild 126 = .ok (.iconst 0, 1) := by decide +kernel
theorem d_MD_rebuild_127 : decode c_MD_rebuild 127 = .ok (.istore 7, 2) := by decide +kernel
theorem d_MD_rebuild_129 : decode c_MD_rebuild 129 = .ok (.iload 7, 2) := by decide +kernel
theorem d_MD_rebuild_131 : decode c_MD_rebuild 131 = .ok (.ifCond .eq 47, 3) := by decide +kernel
theorem d_MD_rebuild_134 : decode c_MD_rebuild 134 = .ok (.aload_n 0, 1) := by decide +kernel
theorem d_MD_rebuild_135 : decode c_MD_rebuild 135 = .ok (.getfield 62, 3) := by decide +kernel
theorem d_MD_rebuild_138 : decode c_MD_rebuild 138 = .ok (.aload_n 0, 1) := by decide +kernel
theorem d_MD_rebuild_139 : decode c_MD_rebuild 139 = .ok (.getfield 149, 3) := by decide +kernel
theorem d_MD_rebuild_142 : decode c_MD_rebuild 142 = .ok (.iload 4, 2) := by decide +kernel
theorem d_MD_rebuild_144 : decode c_MD_rebuild 144 = .ok (.sipush 256, 3) := by decide +kernel
theorem d_MD_rebuild_147 : decode c_MD_rebuild 147 = .ok (.if_icmp .ge 8, 3) := by decide +kernel
theorem d_MD_rebuild_150 : decode c_MD_rebuild 150 = .ok (.iload 4, 2) := by decide +kernel
theorem d_MD_rebuild_152 : decode c_MD_rebuild 152 = .ok (.goto 15, 3) := by decide +kernel
theorem d_MD_rebuild_155 : decode c_MD_rebuild 155 = .ok (.aload_n 0, 1) := by decide +kernel
theorem d_MD_rebuild_156 : decode c_MD_rebuild 156 = .ok (.getfield 20, 3) := by decide +kernel
theorem d_MD_rebuild_159 : decode c_MD_rebuild 159 = .ok (.bipush 40, 2) := by decide +kernel
theorem d_MD_rebuild_161 : decode c_MD_rebuild 161 = .ok (.iload_n 2, 1) := by decide +kernel
theorem d_MD_rebuild_162 : decode c_MD_rebuild 162 = .ok (.imul, 1) := by decide +kernel
theorem d_MD_rebuild_163 : decode c_MD_rebuild 163 = .ok (.iload 6, 2) := by decide +kernel
theorem d_MD_rebuild_165 : decode c_MD_rebuild 165 = .ok (.iadd, 1) := by decide +kernel
theorem d_MD_rebuild_166 : decode c_MD_rebuild 166 = .ok (.iaload, 1) := by decide +kernel
theorem d_MD_rebuild_167 : decode c_MD_rebuild 167 = .ok (.iastore, 1) := by decide +kernel
theorem d_MD_rebuild_168 : decode c_MD_rebuild 168 = .ok (.aload_n 0, 1) := by decide +kernel
theorem d_MD_rebuild_169 : decode c_MD_rebuild 169 = .ok (.aload_n 0, 1) := by decide +kernel
theorem d_MD_rebuild_170 : decode c_MD_rebuild 170 = .ok (.getfield 149, 3) := by decide +kernel
theorem d_MD_rebuild_173 : decode c_MD_rebuild 173 = .ok (.iconst 1, 1) := by decide +kernel
theorem d_MD_rebuild_174 : decode c_MD_rebuild 174 = .ok (.iadd, 1) := by decide +kernel
theorem d_MD_rebuild_175 : decode c_MD_rebuild 175 = .ok (.putfield 149, 3) := by decide +kernel
theorem d_MD_rebuild_178 : decode c_MD_rebuild 178 = .ok (.iinc 6 1, 3) := by decide +kernel
theorem d_MD_rebuild_181 : decode c_MD_rebuild 181 = .ok (.goto (-106), 3) := by decide +kernel
theorem d_MD_rebuild_184 : decode c_MD_rebuild 184 = .ok (.iinc 3 1, 3) := by decide +kernel
theorem d_MD_rebuild_187 : decode c_MD_rebuild 187 = .ok (.goto (-166), 3) := by decide +kernel
theorem d_MD_rebuild_190 : decode c_MD_rebuild 190 = .ok (.ldc 144, 2) := by decide +kernel
theorem d_MD_rebuild_192 : decode c_MD_rebuild 192 = .ok (.istore_n 3, 1) := by decide +kernel
theorem d_MD_rebuild_193 : decode c_MD_rebuild 193 = .ok (.iconst 0, 1) := by decide +kernel
theorem d_MD_rebuild_194 : decode c_MD_rebuild 194 = .ok (.istore 4, 2) := by decide +kernel
theorem d_MD_rebuild_196 : decode c_MD_rebuild 196 = .ok (.iload 4, 2) := by decide +kernel
theorem d_MD_rebuild_198 : decode c_MD_rebuild 198 = .ok (.aload_n 0, 1) := by decide +kernel
theorem d_MD_rebuild_199 : decode c_MD_rebuild 199 = .ok (.getfield 149, 3) := by decide +kernel
theorem d_MD_rebuild_202 : decode c_MD_rebuild 202 = .ok (.if_icmp .ge 22, 3) := by decide +kernel
theorem d_MD_rebuild_205 : decode c_MD_rebuild 205 = .ok (.iload_n 3, 1) := by decide +kernel
theorem d_MD_rebuild_206 : decode c_MD_rebuild 206 = .ok (.aload_n 0, 1) := by decide +kernel
theorem d_MD_rebuild_207 : decode c_MD_rebuild 207 = .ok (.getfield 62, 3) := by decide +kernel
theorem d_MD_rebuild_210 : decode c_MD_rebuild 210 = .ok (.iload 4, 2) := by decide +kernel
theorem d_MD_rebuild_212 : decode c_MD_rebuild 212 = .ok (.iaload, 1) := by decide +kernel
theorem d_MD_rebuild_213 : decode c_MD_rebuild 213 = .ok (.ixor, 1) := by decide +kernel
theorem d_MD_rebuild_214 : decode c_MD_rebuild 214 = .ok (.ldc 145, 2) := by decide +kernel
theorem d_MD_rebuild_216 : decode c_MD_rebuild 216 = .ok (.imul, 1) := by decide +kernel
theorem d_MD_rebuild_217 : decode c_MD_rebuild 217 = .ok (.istore_n 3, 1) := by decide +kernel
theorem d_MD_rebuild_218 : decode c_MD_rebuild 218 = .ok (.iinc 4 1, 3) := by decide +kernel
theorem d_MD_rebuild_221 : decode c_MD_rebuild 221 = .ok (.goto (-25), 3) := by decide +kernel
theorem d_MD_rebuild_224 : decode c_MD_rebuild 224 = .ok (.iload_n 3, 1) := by decide +kernel
theorem d_MD_rebuild_225 : decode c_MD_rebuild 225 = .ok (.ireturn, 1) := by decide +kernel
theorem d_MD_delta_0 : decode c_MD_delta 0 = .ok (.aload_n 0, 1) := by decide +kernel
theorem d_MD_delta_1 : decode c_MD_delta 1 = .ok (.getfield 47, 3) := by decide +kernel
theorem d_MD_delta_4 : decode c_MD_delta 4 = .ok (.iload_n 1, 1) := by decide +kernel
theorem d_MD_delta_5 : decode c_MD_delta 5 = .ok (.iconst 1, 1) := by decide +kernel
theorem d_MD_delta_6 : decode c_MD_delta 6 = .ok (.iadd, 1) := by decide +kernel
theorem d_MD_delta_7 : decode c_MD_delta 7 = .ok (.iaload, 1) := by decide +kernel
theorem d_MD_delta_8 : decode c_MD_delta 8 = .ok (.istore_n 2, 1) := by decide +kernel
theorem d_MD_delta_9 : decode c_MD_delta 9 = .ok (.aload_n 0, 1) := by decide +kernel
theorem d_MD_delta_10 : decode c_MD_delta 10 = .ok (.iload_n 2, 1) := by decide +kernel
theorem d_MD_delta_11 : decode c_MD_delta 11 = .ok (.invokevirtual 152, 3) := by decide +kernel
theorem d_MD_delta_14 : decode c_MD_delta 14 = .ok (.istore_n 3, 1) := by decide +kernel
theorem d_MD_delta_15 : decode c_MD_delta 15 = .ok (.aload_n 0, 1) := by decide +kernel
theorem d_MD_delta_16 : decode c_MD_delta 16 = .ok (.iload_n 1, 1) := by decide +kernel
theorem d_MD_delta_17 : decode c_MD_delta 17 = .ok (.invokevirtual 156, 3) := by decide +kernel
theorem d_MD_delta_20 : decode c_MD_delta 20 = .ok (.istore 4, 2) := by decide +kernel
theorem d_MD_delta_22 : decode c_MD_delta 22 = .ok (.iload 4, 2) := by decide +kernel
theorem d_MD_delta_24 : decode c_MD_delta 24 = .ok (.aload_n 0, 1) := by decide +kernel
theorem d_MD_delta_25 : decode c_MD_delta 25 = .ok (.getfield 47, 3) := by decide +kernel
theorem d_MD_delta_28 : decode c_MD_delta 28 = .ok (.iload_n 1, 1) := by decide +kernel
theorem d_MD_delta_29 : decode c_MD_delta 29 = .ok (.iconst 3, 1) := by decide +kernel
theorem d_MD_delta_30 : decode c_MD_delta 30 = .ok (.iadd, 1) := by decide +kernel
theorem d_MD_delta_31 : decode c_MD_delta 31 = .ok (.iaload, 1) := by decide +kernel
theorem d_MD_delta_32 : decode c_MD_delta 32 = .ok (.if_icmp .ne 101, 3) := by decide +kernel
theorem d_MD_delta_35 : decode c_MD_delta 35 = .ok (.aload_n 0, 1) := by decide +kernel
theorem d_MD_delta_36 : decode c_MD_delta 36 = .ok (.getfield 50, 3) := by decide +kernel
theorem d_MD_delta_39 : decode c_MD_delta 39 = .ok (.aload_n 0, 1) := by decide +kernel
theorem d_MD_delta_40 : decode c_MD_delta 40 = .ok (.getfield 112, 3) := by decide +kernel
theorem d_MD_delta_43 : decode c_MD_delta 43 = .ok (.iload_n 2, 1) := by decide +kernel
theorem d_MD_delta_44 : decode c_MD_delta 44 = .ok (.iastore, 1) := by decide +kernel
theorem d_MD_delta_45 : decode c_MD_delta 45 = .ok (.aload_n 0, 1) := by decide +kernel
theorem d_MD_delta_46 : decode c_MD_delta 46 = .ok (.getfield 53, 3) := by decide +kernel
theorem d_MD_delta_49 : decode c_MD_delta 49 = .ok (.aload_n 0, 1) := by decide +kernel
theorem d_MD_delta_50 : decode c_MD_delta 50 = .ok (.getfield 112, 3) := by decide +kernel
theorem d_MD_delta_53 : decode c_MD_delta 53 = .ok (.aload_n 0, 1) := by decide +kernel
theorem d_MD_delta_54 : decode c_MD_delta 54 = .ok (.getfield 38, 3) := by decide +kernel
theorem d_MD_delta_57 : decode c_MD_delta 57 = .ok (.iload_n 3, 1) := by decide +kernel
theorem d_MD_delta_58 : decode c_MD_delta 58 = .ok (.iaload, 1) := by decide +kernel
theorem d_MD_delta_59 : decode c_MD_delta 59 = .ok (.iastore, 1) := by decide +kernel
theorem d_MD_delta_60 : decode c_MD_delta 60 = .ok (.aload_n 0, 1) := by decide +kernel
theorem d_MD_delta_61 : decode c_MD_delta 61 = .ok (.getfield 56, 3) := by decide +kernel
theorem d_MD_delta_64 : decode c_MD_delta 64 = .ok (.aload_n 0, 1) := by decide +kernel
theorem d_MD_delta_65 : decode c_MD_delta 65 = .ok (.getfield 112, 3) := by decide +kernel
theorem d_MD_delta_68 : decode c_MD_delta 68 = .ok (.aload_n 0, 1) := by decide +kernel
theorem d_MD_delta_69 : decode c_MD_delta 69 = .ok (.getfield 149, 3) := by decide +kernel
theorem d_MD_delta_72 : decode c_MD_delta 72 = .ok (.iastore, 1) := by decide +kernel
theorem d_MD_delta_73 : decode c_MD_delta 73 = .ok (.iconst 0, 1) := by decide +kernel
theorem d_MD_delta_74 : decode c_MD_delta 74 = .ok (.istore 5, 2) := by decide +kernel
theorem d_MD_delta_76 : decode c_MD_delta 76 = .ok (.iload 5, 2) := by decide +kernel
theorem d_MD_delta_78 : decode c_MD_delta 78 = .ok (.aload_n 0, 1) := by decide +kernel
theorem d_MD_delta_79 : decode c_MD_delta 79 = .ok (.getfield 149, 3) := by decide +kernel
theorem d_MD_delta_82 : decode c_MD_delta 82 = .ok (.if_icmp .ge 31, 3) := by decide +kernel
theorem d_MD_delta_85 : decode c_MD_delta 85 = .ok (.aload_n 0, 1) := by decide +kernel
theorem d_MD_delta_86 : decode c_MD_delta 86 = .ok (.getfield 59, 3) := by decide +kernel
theorem d_MD_delta_89 : decode c_MD_delta 89 = .ok (.bipush 40, 2) := by decide +kernel
theorem d_MD_delta_91 : decode c_MD_delta 91 = .ok (.aload_n 0, 1) := by decide +kernel
theorem d_MD_delta_92 : decode c_MD_delta 92 = .ok (.getfield 112, 3) := by decide +kernel
theorem d_MD_delta_95 : decode c_MD_delta 95 = .ok (.imul, 1) := by decide +kernel
theorem d_MD_delta_96 : decode c_MD_delta 96 = .ok (.iload 5, 2) := by decide +kernel
theorem d_MD_delta_98 : decode c_MD_delta 98 = .ok (.iadd, 1) := by decide +kernel
theorem d_MD_delta_99 : decode c_MD_delta 99 = .ok (.aload_n 0, 1) := by decide +kernel
theorem d_MD_delta_100 : decode c_MD_delta 100 = .ok (.getfield 62, 3) := by decide +kernel
theorem d_MD_delta_103 : decode c_MD_delta 103 = .ok (.iload 5, 2) := by decide +kernel
theorem d_MD_delta_105 : decode c_MD_delta 105 = .ok (.iaload, 1) := by decide +kernel
theorem d_MD_delta_106 : decode c_MD_delta 106 = .ok (.iastore, 1) := by decide +kernel
theorem d_MD_delta_107 : decode c_MD_delta 107 = .ok (.iinc 5 1, 3) := by decide +kernel
theorem d_MD_delta_110 : decode c_MD_delta 110 = .ok (.goto (-34), 3) := by decide +kernel
theorem d_MD_delta_113 : decode c_MD_delta 113 = .ok (.aload_n 0, 1) := by decide +kernel
theorem d_MD_delta_114 : decode c_MD_delta 114 = .ok (.aload_n 0, 1) := by decide +kernel
theorem d_MD_delta_115 : decode c_MD_delta 115 = .ok (.getfield 112, 3) := by decide +kernel
theorem d_MD_delta_118 : decode c_MD_delta 118 = .ok (.iconst 1, 1) := by decide +kernel
theorem d_MD_delta_119 : decode c_MD_delta 119 = .ok (.iadd, 1) := by decide +kernel
theorem d_MD_delta_120 : decode c_MD_delta 120 = .ok (.putfield 112, 3) := by decide +kernel
theorem d_MD_delta_123 : decode c_MD_delta 123 = .ok (.aload_n 0, 1) := by decide +kernel
theorem d_MD_delta_124 : decode c_MD_delta 124 = .ok (.getfield 41, 3) := by decide +kernel
theorem d_MD_delta_127 : decode c_MD_delta 127 = .ok (.iload_n 3, 1) := by decide +kernel
theorem d_MD_delta_128 : decode c_MD_delta 128 = .ok (.iconst 0, 1) := by decide +kernel
theorem d_MD_delta_129 : decode c_MD_delta 129 = .ok (.bastore, 1) := by decide +kernel
theorem d_MD_delta_130 : decode c_MD_delta 130 = .ok (.goto 41, 3) := by decide +kernel
theorem d_MD_delta_133 : decode c_MD_delta 133 = .ok (.aload_n 0, 1) := by decide +kernel
theorem d_MD_delta_134 : decode c_MD_delta 134 = .ok (.getfield 47, 3) := by decide +kernel
theorem d_MD_delta_137 : decode c_MD_delta 137 = .ok (.iload_n 1, 1) := by decide +kernel
theorem d_MD_delta_138 : decode c_MD_delta 138 = .ok (.iconst 2, 1) := by decide +kernel
theorem d_MD_delta_139 : decode c_MD_delta 139 = .ok (.iadd, 1) := by decide +kernel
theorem d_MD_delta_140 : decode c_MD_delta 140 = .ok (.iaload, 1) := by decide +kernel
theorem d_MD_delta_141 : decode c_MD_delta 141 = .ok (.iconst 1, 1) := by decide +kernel
theorem d_MD_delta_142 : decode c_MD_delta 142 = .ok (.if_icmp .ne 17, 3) := by decide +kernel
theorem d_MD_delta_145 : decode c_MD_delta 145 = .ok (.aload_n 0, 1) := by decide +kernel
theorem d_MD_delta_146 : decode c_MD_delta 146 = .ok (.iload_n 2, 1) := by decide +kernel
theorem d_MD_delta_147 : decode c_MD_delta 147 = .ok (.iconst 2, 1) := by decide +kernel
theorem d_MD_delta_148 : decode c_MD_delta 148 = .ok (.invokevirtual 137, 3) := by decide +kernel
theorem d_MD_delta_151 : decode c_MD_delta 151 = .ok (.aload_n 0, 1) := by decide +kernel
theorem d_MD_delta_152 : decode c_MD_delta 152 = .ok (.iconst 2, 1) := by decide +kernel
theorem d_MD_delta_153 : decode c_MD_delta 153 = .ok (.invokevirtual 115, 3) := by decide +kernel
theorem d_MD_delta_156 : decode c_MD_delta 156 = .ok (.goto 15, 3) := by decide +kernel
theorem d_MD_delta_159 : decode c_MD_delta 159 = .ok (.aload_n 0, 1) := by decide +kernel
theorem d_MD_delta_160 : decode c_MD_delta 160 = .ok (.iconst 3, 1) := by decide +kernel
theorem d_MD_delta_161 : decode c_MD_delta 161 = .ok (.invokevirtual 115, 3) := by decide +kernel
theorem d_MD_delta_164 : decode c_MD_delta 164 = .ok (.aload_n 0, 1) := by decide +kernel
theorem d_MD_delta_165 : decode c_MD_delta 165 = .ok (.getfield 41, 3) := by decide +kernel
theorem d_MD_delta_168 : decode c_MD_delta 168 = .ok (.iload_n 3, 1) := by decide +kernel
theorem d_MD_delta_169 : decode c_MD_delta 169 = .ok (.iconst 0, 1) := by decide +kernel
theorem d_MD_delta_170 : decode c_MD_delta 170 = .ok (.bastore, 1) := by decide +kernel
theorem d_MD_delta_171 : decode c_MD_delta 171 = .ok (.aload_n 0, 1) := by decide +kernel
theorem d_MD_delta_172 : decode c_MD_delta 172 = .ok (.invokevirtual 141, 3) := by decide +kernel
theorem d_MD_delta_175 : decode c_MD_delta 175 = .ok (.return_, 1) := by decide +kernel
theorem d_MD_note_0 : decode c_MD_note 0 = .ok (.aload_n 0, 1) := by decide +kernel
theorem d_MD_note_1 : decode c_MD_note 1 = .ok (.getfield 32, 3) := by decide +kernel
theorem d_MD_note_4 : decode c_MD_note 4 = .ok (.aload_n 0, 1) := by decide +kernel
theorem d_MD_note_5 : decode c_MD_note 5 = .ok (.getfield 128, 3) := by decide +kernel
theorem d_MD_note_8 : decode c_MD_note 8 = .ok (.aload_n 0, 1) := by decide +kernel
theorem d_MD_note_9 : decode c_MD_note 9 = .ok (.getfield 47, 3) := by decide +kernel
theorem d_MD_note_12 : decode c_MD_note 12 = .ok (.iload_n 1, 1) := by decide +kernel
theorem d_MD_note_13 : decode c_MD_note 13 = .ok (.iconst 1, 1) := by decide +kernel
theorem d_MD_note_14 : decode c_MD_note 14 = .ok (.iadd, 1) := by decide +kernel
theorem d_MD_note_15 : decode c_MD_note 15 = .ok (.iaload, 1) := by decide +kernel
theorem d_MD_note_16 : decode c_MD_note 16 = .ok (.iastore, 1) := by decide +kernel
theorem d_MD_note_17 : decode c_MD_note 17 = .ok (.aload_n 0, 1) := by decide +kernel
theorem d_MD_note_18 : decode c_MD_note 18 = .ok (.getfield 35, 3) := by decide +kernel
theorem d_MD_note_21 : decode c_MD_note 21 = .ok (.aload_n 0, 1) := by decide +kernel
theorem d_MD_note_22 : decode c_MD_note 22 = .ok (.getfield 128, 3) := by decide +kernel
theorem d_MD_note_25 : decode c_MD_note 25 = .ok (.aload_n 0, 1) := by decide +kernel
theorem d_MD_note_26 : decode c_MD_note 26 = .ok (.getfield 47, 3) := by decide +kernel
theorem d_MD_note_29 : decode c_MD_note 29 = .ok (.iload_n 1, 1) := by decide +kernel
theorem d_MD_note_30 : decode c_MD_note 30 = .ok (.iconst 3, 1) := by decide +kernel
theorem d_MD_note_31 : decode c_MD_note 31 = .ok (.iadd, 1) := by decide +kernel
theorem d_MD_note_32 : decode c_MD_note 32 = .ok (.iaload, 1) := by decide +kernel
theorem d_MD_note_33 : decode c_MD_note 33 = .ok (.iastore, 1) := by decide +kernel
theorem d_MD_note_34 : decode c_MD_note 34 = .ok (.aload_n 0, 1) := by decide +kernel
theorem d_MD_note_35 : decode c_MD_note 35 = .ok (.getfield 38, 3) := by decide +kernel
theorem d_MD_note_38 : decode c_MD_note 38 = .ok (.aload_n 0, 1) := by decide +kernel
theorem d_MD_note_39 : decode c_MD_note 39 = .ok (.getfield 128, 3) := by decide +kernel
theorem d_MD_note_42 : decode c_MD_note 42 = .ok (.aload_n 0, 1) := by decide +kernel
theorem d_MD_note_43 : decode c_MD_note 43 = .ok (.getfield 47, 3) := by decide +kernel
theorem d_MD_note_46 : decode c_MD_note 46 = .ok (.iload_n 1, 1) := by decide +kernel
theorem d_MD_note_47 : decode c_MD_note 47 = .ok (.iconst 4, 1) := by decide +kernel
theorem d_MD_note_48 : decode c_MD_note 48 = .ok (.iadd, 1) := by decide +kernel
theorem d_MD_note_49 : decode c_MD_note 49 = .ok (.iaload, 1) := by decide +kernel
theorem d_MD_note_50 : decode c_MD_note 50 = .ok (.iastore, 1) := by decide +kernel
theorem d_MD_note_51 : decode c_MD_note 51 = .ok (.aload_n 0, 1) := by decide +kernel
theorem d_MD_note_52 : decode c_MD_note 52 = .ok (.getfield 41, 3) := by decide +kernel
theorem d_MD_note_55 : decode c_MD_note 55 = .ok (.aload_n 0, 1) := by decide +kernel
theorem d_MD_note_56 : decode c_MD_note 56 = .ok (.getfield 128, 3) := by decide +kernel
theorem d_MD_note_59 : decode c_MD_note 59 = .ok (.iconst 1, 1) := by decide +kernel
theorem d_MD_note_60 : decode c_MD_note 60 = .ok (.bastore, 1) := by decide +kernel
theorem d_MD_note_61 : decode c_MD_note 61 = .ok (.aload_n 0, 1) := by decide +kernel
theorem d_MD_note_62 : decode c_MD_note 62 = .ok (.aload_n 0, 1) := by decide +kernel
theorem d_MD_note_63 : decode c_MD_note 63 = .ok (.getfield 128, 3) := by decide +kernel
theorem d_MD_note_66 : decode c_MD_note 66 = .ok (.iconst 1, 1) := by decide +kernel
theorem d_MD_note_67 : decode c_MD_note 67 = .ok (.iadd, 1) := by decide +kernel
theorem d_MD_note_68 : decode c_MD_note 68 = .ok (.putfield 128, 3) := by decide +kernel
theorem d_MD_note_71 : decode c_MD_note 71 = .ok (.return_, 1) := by decide +kernel
theorem d_MD_take_0 : decode c_MD_take 0 = .ok (.sipush 1440, 3) := by decide +kernel
theorem d_MD_take_3 : decode c_MD_take 3 = .ok (.iload_n 1, 1) := by decide +kernel
theorem d_MD_take_4 : decode c_MD_take 4 = .ok (.imul, 1) := by decide +kernel
theorem d_MD_take_5 : decode c_MD_take 5 = .ok (.istore_n 2, 1) := by decide +kernel
theorem d_MD_take_6 : decode c_MD_take 6 = .ok (.sipush 2790, 3) := by decide +kernel
theorem d_MD_take_9 : decode c_MD_take 9 = .ok (.istore_n 3, 1) := by decide +kernel
theorem d_MD_take_10 : decode c_MD_take 10 = .ok (.aload_n 0, 1) := by decide +kernel
theorem d_MD_take_11 : decode c_MD_take 11 = .ok (.getfield 44, 3) := by decide +kernel
theorem d_MD_take_14 : decode c_MD_take 14 = .ok (.iload_n 1, 1) := by decide +kernel
theorem d_MD_take_15 : decode c_MD_take 15 = .ok (.aload_n 0, 1) := by decide +kernel
theorem d_MD_take_16 : decode c_MD_take 16 = .ok (.getfield 44, 3) := by decide +kernel
theorem d_MD_take_19 : decode c_MD_take 19 = .ok (.iload_n 1, 1) := by decide +kernel
theorem d_MD_take_20 : decode c_MD_take 20 = .ok (.iaload, 1) := by decide +kernel
theorem d_MD_take_21 : decode c_MD_take 21 = .ok (.iconst 1, 1) := by decide +kernel
theorem d_MD_take_22 : decode c_MD_take 22 = .ok (.isub, 1) := by decide +kernel
theorem d_MD_take_23 : decode c_MD_take 23 = .ok (.iastore, 1) := by decide +kernel
theorem d_MD_take_24 : decode c_MD_take 24 = .ok (.iconst 0, 1) := by decide +kernel
theorem d_MD_take_25 : decode c_MD_take 25 = .ok (.istore 4, 2) := by decide +kernel
theorem d_MD_take_27 : decode c_MD_take 27 = .ok (.iload 4, 2) := by decide +kernel
theorem d_MD_take_29 : decode c_MD_take 29 = .ok (.bipush 90, 2) := by decide +kernel
theorem d_MD_take_31 : decode c_MD_take 31 = .ok (.if_icmp .ge 27, 3) := by decide +kernel
theorem d_MD_take_34 : decode c_MD_take 34 = .ok (.aload_n 0, 1) := by decide +kernel
theorem d_MD_take_35 : decode c_MD_take 35 = .ok (.getfield 47, 3) := by decide +kernel
theorem d_MD_take_38 : decode c_MD_take 38 = .ok (.iload_n 3, 1) := by decide +kernel
theorem d_MD_take_39 : decode c_MD_take 39 = .ok (.iload 4, 2) := by decide +kernel
theorem d_MD_take_41 : decode c_MD_take 41 = .ok (.iadd, 1) := by decide +kernel
theorem d_MD_take_42 : decode c_MD_take 42 = .ok (.aload_n 0, 1) := by decide +kernel
theorem d_MD_take_43 : decode c_MD_take 43 = .ok (.getfield 47, 3) := by decide +kernel
theorem d_MD_take_46 : decode c_MD_take 46 = .ok (.iload_n 2, 1) := by decide +kernel
theorem d_MD_take_47 : decode c_MD_take 47 = .ok (.iload 4, 2) := by decide +kernel
theorem d_MD_take_49 : decode c_MD_take 49 = .ok (.iadd, 1) := by decide +kernel
theorem d_MD_take_50 : decode c_MD_take 50 = .ok (.iaload, 1) := by decide +kernel
theorem d_MD_take_51 : decode c_MD_take 51 = .ok (.iastore, 1) := by decide +kernel
theorem d_MD_take_52 : decode c_MD_take 52 = .ok (.iinc 4 1, 3) := by decide +kernel
theorem d_MD_take_55 : decode c_MD_take 55 = .ok (.goto (-28), 3) := by decide +kernel
theorem d_MD_take_58 : decode c_MD_take 58 = .ok (.iload_n 2, 1) := by decide +kernel
theorem d_MD_take_59 : decode c_MD_take 59 = .ok (.istore 4, 2) := by decide +kernel
theorem d_MD_take_61 : decode c_MD_take 61 = .ok (.iload 4, 2) := by decide +kernel
theorem d_MD_take_63 : decode c_MD_take 63 = .ok (.iload_n 2, 1) := by decide +kernel
theorem d_MD_take_64 : decode c_MD_take 64 = .ok (.bipush 90, 2) := by decide +kernel
theorem d_MD_take_66 : decode c_MD_take 66 = .ok (.aload_n 0, 1) := by decide +kernel
theorem d_MD_take_67 : decode c_MD_take 67 = .ok (.getfield 44, 3) := by decide +kernel
theorem d_MD_take_70 : decode c_MD_take 70 = .ok (.iload_n 1, 1) := by decide +kernel
theorem d_MD_take_71 : decode c_MD_take 71 = .ok (.iaload, 1) := by decide +kernel
theorem d_MD_take_72 : decode c_MD_take 72 = .ok (.imul, 1) := by decide +kernel
theorem d_MD_take_73 : decode c_MD_take 73 = .ok (.iadd, 1) := by decide +kernel
theorem d_MD_take_74 : decode c_MD_take 74 = .ok (.if_icmp .ge 26, 3) := by decide +kernel
theorem d_MD_take_77 : decode c_MD_take 77 = .ok (.aload_n 0, 1) := by decide +kernel
theorem d_MD_take_78 : decode c_MD_take 78 = .ok (.getfield 47, 3) := by decide +kernel
theorem d_MD_take_81 : decode c_MD_take 81 = .ok (.iload 4, 2) := by decide +kernel
theorem d_MD_take_83 : decode c_MD_take 83 = .ok (.aload_n 0, 1) := by decide +kernel
theorem d_MD_take_84 : decode c_MD_take 84 = .ok (.getfield 47, 3) := by decide +kernel
theorem d_MD_take_87 : decode c_MD_take 87 = .ok (.iload 4, 2) := by decide +kernel
theorem d_MD_take_89 : decode c_MD_take 89 = .ok (.bipush 90, 2) := by decide +kernel
theorem d_MD_take_91 : decode c_MD_take 91 = .ok (.iadd, 1) := by decide +kernel
theorem d_MD_take_92 : decode c_MD_take 92 = .ok (.iaload, 1) := by decide +kernel
theorem d_MD_take_93 : decode c_MD_take 93 = .ok (.iastore, 1) := by decide +kernel
theorem d_MD_take_94 : decode c_MD_take 94 = .ok (.iinc 4 1, 3) := by decide +kernel
theorem d_MD_take_97 : decode c_MD_take 97 = .ok (.goto (-36), 3) := by decide +kernel
theorem d_MD_take_100 : decode c_MD_take 100 = .ok (.iload_n 3, 1) := by decide +kernel
theorem d_MD_take_101 : decode c_MD_take 101 = .ok (.ireturn, 1) := by decide +kernel
theorem d_MD_deliver_0 : decode c_MD_deliver 0 = .ok (.iload_n 1, 1) := by decide +kernel
theorem d_MD_deliver_1 : decode c_MD_deliver 1 = .ok (.iconst 1, 1) := by decide +kernel
theorem d_MD_deliver_2 : decode c_MD_deliver 2 = .ok (.invokestatic 68, 3) := by decide +kernel
theorem d_MD_deliver_5 : decode c_MD_deliver 5 = .ok (.ifCond .eq 12, 3) := by decide +kernel
theorem d_MD_deliver_8 : decode c_MD_deliver 8 = .ok (.aload_n 0, 1) := by decide +kernel
theorem d_MD_deliver_9 : decode c_MD_deliver 9 = .ok (.getfield 44, 3) := by decide +kernel
theorem d_MD_deliver_12 : decode c_MD_deliver 12 = .ok (.iload_n 1, 1) := by decide +kernel
theorem d_MD_deliver_13 : decode c_MD_deliver 13 = .ok (.iaload, 1) := by decide +kernel
theorem d_MD_deliver_14 : decode c_MD_deliver 14 = .ok (.ifCond .ne 5, 3) := by decide +kernel
theorem d_MD_deliver_17 : decode c_MD_deliver 17 = .ok (.iconst 0, 1) := by decide +kernel
theorem d_MD_deliver_18 : decode c_MD_deliver 18 = .ok (.ireturn, 1) := by decide +kernel
theorem d_MD_deliver_19 : decode c_MD_deliver 19 = .ok (.iload_n 1, 1) := by decide +kernel
theorem d_MD_deliver_20 : decode c_MD_deliver 20 = .ok (.iconst 1, 1) := by decide +kernel
theorem d_MD_deliver_21 : decode c_MD_deliver 21 = .ok (.if_icmp .ne 14, 3) := by decide +kernel
theorem d_MD_deliver_24 : decode c_MD_deliver 24 = .ok (.aload_n 0, 1) := by decide +kernel
theorem d_MD_deliver_25 : decode c_MD_deliver 25 = .ok (.getfield 112, 3) := by decide +kernel
theorem d_MD_deliver_28 : decode c_MD_deliver 28 = .ok (.ifCond .le 7, 3) := by decide +kernel
theorem d_MD_deliver_31 : decode c_MD_deliver 31 = .ok (.aload_n 0, 1) := by decide +kernel
theorem d_MD_deliver_32 : decode c_MD_deliver 32 = .ok (.invokevirtual 118, 3) := by decide +kernel
theorem d_MD_deliver_35 : decode c_MD_deliver 35 = .ok (.aload_n 0, 1) := by decide +kernel
theorem d_MD_deliver_36 : decode c_MD_deliver 36 = .ok (.iload_n 1, 1) := by decide +kernel
theorem d_MD_deliver_37 : decode c_MD_deliver 37 = .ok (.invokevirtual 159, 3) := by decide +kernel
theorem d_MD_deliver_40 : decode c_MD_deliver 40 = .ok (.istore_n 2, 1) := by decide +kernel
theorem d_MD_deliver_41 : decode c_MD_deliver 41 = .ok (.aload_n 0, 1) := by decide +kernel
theorem d_MD_deliver_42 : decode c_MD_deliver 42 = .ok (.getfield 47, 3) := by decide +kernel
theorem d_MD_deliver_45 : decode c_MD_deliver 45 = .ok (.iload_n 2, 1) := by decide +kernel
theorem d_MD_deliver_46 : decode c_MD_deliver 46 = .ok (.iaload, 1) := by decide +kernel
theorem d_MD_deliver_47 : decode c_MD_deliver 47 = .ok (.istore_n 3, 1) := by decide +kernel
theorem d_MD_deliver_48 : decode c_MD_deliver 48 = .ok (.iload_n 3, 1) := by decide +kernel
theorem d_MD_deliver_49 : decode c_MD_deliver 49 = .ok (.iconst 1, 1) := by decide +kernel
theorem d_MD_deliver_50 : decode c_MD_deliver 50 = .ok (.if_icmp .ne 11, 3) := by decide +kernel
theorem d_MD_deliver_53 : decode c_MD_deliver 53 = .ok (.aload_n 0, 1) := by decide +kernel
theorem d_MD_deliver_54 : decode c_MD_deliver 54 = .ok (.iload_n 2, 1) := by decide +kernel
theorem d_MD_deliver_55 : decode c_MD_deliver 55 = .ok (.invokevirtual 162, 3) := by decide +kernel
theorem d_MD_deliver_58 : decode c_MD_deliver 58 = .ok (.goto 68, 3) := by decide +kernel
theorem d_MD_deliver_61 : decode c_MD_deliver 61 = .ok (.iload_n 3, 1) := by decide +kernel
theorem d_MD_deliver_62 : decode c_MD_deliver 62 = .ok (.iconst 2, 1) := by decide +kernel
theorem d_MD_deliver_63 : decode c_MD_deliver 63 = .ok (.if_icmp .ne 10, 3) := by decide +kernel
theorem d_MD_deliver_66 : decode c_MD_deliver 66 = .ok (.aload_n 0, 1) := by decide +kernel
theorem d_MD_deliver_67 : decode c_MD_deliver 67 = .ok (.invokevirtual 165, 3) := by decide +kernel
theorem d_MD_deliver_70 : decode c_MD_deliver 70 = .ok (.goto 56, 3) := by decide +kernel
theorem d_MD_deliver_73 : decode c_MD_deliver 73 = .ok (.iload_n 3, 1) := by decide +kernel
theorem d_MD_deliver_74 : decode c_MD_deliver 74 = .ok (.iconst 3, 1) := by decide +kernel
theorem d_MD_deliver_75 : decode c_MD_deliver 75 = .ok (.if_icmp .ne 11, 3) := by decide +kernel
theorem d_MD_deliver_78 : decode c_MD_deliver 78 = .ok (.aload_n 0, 1) := by decide +kernel
theorem d_MD_deliver_79 : decode c_MD_deliver 79 = .ok (.iload_n 2, 1) := by decide +kernel
theorem d_MD_deliver_80 : decode c_MD_deliver 80 = .ok (.invokevirtual 168, 3) := by decide +kernel
theorem d_MD_deliver_83 : decode c_MD_deliver 83 = .ok (.goto 43, 3) := by decide +kernel
theorem d_MD_deliver_86 : decode c_MD_deliver 86 = .ok (.iload_n 3, 1) := by decide +kernel
theorem d_MD_deliver_87 : decode c_MD_deliver 87 = .ok (.iconst 4, 1) := by decide +kernel
theorem d_MD_deliver_88 : decode c_MD_deliver 88 = .ok (.if_icmp .ne 11, 3) := by decide +kernel
theorem d_MD_deliver_91 : decode c_MD_deliver 91 = .ok (.aload_n 0, 1) := by decide +kernel
theorem d_MD_deliver_92 : decode c_MD_deliver 92 = .ok (.iload_n 2, 1) := by decide +kernel
theorem d_MD_deliver_93 : decode c_MD_deliver 93 = .ok (.invokevirtual 171, 3) := by decide +kernel
theorem d_MD_deliver_96 : decode c_MD_deliver 96 = .ok (.goto 30, 3) := by decide +kernel
theorem d_MD_deliver_99 : decode c_MD_deliver 99 = .ok (.aload_n 0, 1) := by decide +kernel
theorem d_MD_deliver_100 : decode c_MD_deliver 100 = .ok (.getfield 41, 3) := by decide +kernel
theorem d_MD_deliver_103 : decode c_MD_deliver 103 = .ok (.aload_n 0, 1) := by decide +kernel
theorem d_MD_deliver_104 : decode c_MD_deliver 104 = .ok (.aload_n 0, 1) := by decide +kernel
theorem d_MD_deliver_105 : decode c_MD_deliver 105 = .ok (.getfield 47, 3) := by decide +kernel
theorem d_MD_deliver_108 : decode c_MD_deliver 108 = .ok (.iload_n 2, 1) := by decide +kernel
theorem d_MD_deliver_109 : decode c_MD_deliver 109 = .ok (.iconst 1, 1) := by decide +kernel
theorem d_MD_deliver_110 : decode c_MD_deliver 110 = .ok (.iadd, 1) := by decide +kernel
theorem d_MD_deliver_111 : decode c_MD_deliver 111 = .ok (.iaload, 1) := by decide +kernel
theorem d_MD_deliver_112 : decode c_MD_deliver 112 = .ok (.invokevirtual 152, 3) := by decide +kernel
theorem d_MD_deliver_115 : decode c_MD_deliver 115 = .ok (.iconst 0, 1) := by decide +kernel
theorem d_MD_deliver_116 : decode c_MD_deliver 116 = .ok (.bastore, 1) := by decide +kernel
theorem d_MD_deliver_117 : decode c_MD_deliver 117 = .ok (.aload_n 0, 1) := by decide +kernel
theorem d_MD_deliver_118 : decode c_MD_deliver 118 = .ok (.iconst 3, 1) := by decide +kernel
theorem d_MD_deliver_119 : decode c_MD_deliver 119 = .ok (.invokevirtual 115, 3) := by decide +kernel
theorem d_MD_deliver_122 : decode c_MD_deliver 122 = .ok (.aload_n 0, 1) := by decide +kernel
theorem d_MD_deliver_123 : decode c_MD_deliver 123 = .ok (.invokevirtual 141, 3) := by decide +kernel
theorem d_MD_deliver_126 : decode c_MD_deliver 126 = .ok (.iload_n 3, 1) := by decide +kernel
theorem d_MD_deliver_127 : decode c_MD_deliver 127 = .ok (.ireturn, 1) := by decide +kernel
theorem d_MD_on_0 : decode c_MD_on 0 = .ok (.aload_n 0, 1) := by decide +kernel
theorem d_MD_on_1 : decode c_MD_on 1 = .ok (.getfield 121, 3) := by decide +kernel
theorem d_MD_on_4 : decode c_MD_on 4 = .ok (.ireturn, 1) := by decide +kernel
theorem d_MD_waiting_0 : decode c_MD_waiting 0 = .ok (.iload_n 1, 1) := by decide +kernel
theorem d_MD_waiting_1 : decode c_MD_waiting 1 = .ok (.iconst 1, 1) := by decide +kernel
theorem d_MD_waiting_2 : decode c_MD_waiting 2 = .ok (.invokestatic 68, 3) := by decide +kernel
theorem d_MD_waiting_5 : decode c_MD_waiting 5 = .ok (.ifCond .eq 12, 3) := by decide +kernel
theorem d_MD_waiting_8 : decode c_MD_waiting 8 = .ok (.aload_n 0, 1) := by decide +kernel
theorem d_MD_waiting_9 : decode c_MD_waiting 9 = .ok (.getfield 44, 3) := by decide +kernel
theorem d_MD_waiting_12 : decode c_MD_waiting 12 = .ok (.iload_n 1, 1) := by decide +kernel
theorem d_MD_waiting_13 : decode c_MD_waiting 13 = .ok (.iaload, 1) := by decide +kernel
theorem d_MD_waiting_14 : decode c_MD_waiting 14 = .ok (.goto 4, 3) := by decide +kernel
theorem d_MD_waiting_17 : decode c_MD_waiting 17 = .ok (.iconst (-1), 1) := by decide +kernel
theorem d_MD_waiting_18 : decode c_MD_waiting 18 = .ok (.ireturn, 1) := by decide +kernel
theorem d_MD_next_0 : decode c_MD_next 0 = .ok (.iload_n 1, 1) := by decide +kernel
theorem d_MD_next_1 : decode c_MD_next 1 = .ok (.iconst 1, 1) := by decide +kernel
theorem d_MD_next_2 : decode c_MD_next 2 = .ok (.invokestatic 68, 3) := by decide +kernel
theorem d_MD_next_5 : decode c_MD_next 5 = .ok (.ifCond .eq 25, 3) := by decide +kernel
theorem d_MD_next_8 : decode c_MD_next 8 = .ok (.aload_n 0, 1) := by decide +kernel
theorem d_MD_next_9 : decode c_MD_next 9 = .ok (.getfield 44, 3) := by decide +kernel
theorem d_MD_next_12 : decode c_MD_next 12 = .ok (.iload_n 1, 1) := by decide +kernel
theorem d_MD_next_13 : decode c_MD_next 13 = .ok (.iaload, 1) := by decide +kernel
theorem d_MD_next_14 : decode c_MD_next 14 = .ok (.ifCond .le 16, 3) := by decide +kernel
theorem d_MD_next_17 : decode c_MD_next 17 = .ok (.aload_n 0, 1) := by decide +kernel
theorem d_MD_next_18 : decode c_MD_next 18 = .ok (.getfield 47, 3) := by decide +kernel
theorem d_MD_next_21 : decode c_MD_next 21 = .ok (.sipush 1440, 3) := by decide +kernel
theorem d_MD_next_24 : decode c_MD_next 24 = .ok (.iload_n 1, 1) := by decide +kernel
theorem d_MD_next_25 : decode c_MD_next 25 = .ok (.imul, 1) := by decide +kernel
theorem d_MD_next_26 : decode c_MD_next 26 = .ok (.iaload, 1) := by decide +kernel
theorem d_MD_next_27 : decode c_MD_next 27 = .ok (.goto 4, 3) := by decide +kernel
theorem d_MD_next_30 : decode c_MD_next 30 = .ok (.iconst 0, 1) := by decide +kernel
theorem d_MD_next_31 : decode c_MD_next 31 = .ok (.ireturn, 1) := by decide +kernel
theorem d_MD_journal_0 : decode c_MD_journal 0 = .ok (.aload_n 0, 1) := by decide +kernel
theorem d_MD_journal_1 : decode c_MD_journal 1 = .ok (.getfield 112, 3) := by decide +kernel
theorem d_MD_journal_4 : decode c_MD_journal 4 = .ok (.ireturn, 1) := by decide +kernel
theorem d_MD_count_0 : decode c_MD_count 0 = .ok (.iload_n 1, 1) := by decide +kernel
theorem d_MD_count_1 : decode c_MD_count 1 = .ok (.bipush 7, 2) := by decide +kernel
theorem d_MD_count_3 : decode c_MD_count 3 = .ok (.invokestatic 68, 3) := by decide +kernel
theorem d_MD_count_6 : decode c_MD_count 6 = .ok (.ifCond .eq 12, 3) := by decide +kernel
theorem d_MD_count_9 : decode c_MD_count 9 = .ok (.aload_n 0, 1) := by decide +kernel
theorem d_MD_count_10 : decode c_MD_count 10 = .ok (.getfield 65, 3) := by decide +kernel
theorem d_MD_count_13 : decode c_MD_count 13 = .ok (.iload_n 1, 1) := by decide +kernel
theorem d_MD_count_14 : decode c_MD_count 14 = .ok (.iaload, 1) := by decide +kernel
theorem d_MD_count_15 : decode c_MD_count 15 = .ok (.goto 4, 3) := by decide +kernel
theorem d_MD_count_18 : decode c_MD_count 18 = .ok (.iconst (-1), 1) := by decide +kernel
theorem d_MD_count_19 : decode c_MD_count 19 = .ok (.ireturn, 1) := by decide +kernel
