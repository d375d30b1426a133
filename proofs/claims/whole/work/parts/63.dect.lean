theorem d_TC_init_0 : decode c_TC_init 0 = .ok (.aload_n 0, 1) := by decide +kernel
theorem d_TC_init_1 : decode c_TC_init 1 = .ok (.invokespecial 3, 3) := by decide +kernel
theorem d_TC_init_4 : decode c_TC_init 4 = .ok (.aload_n 0, 1) := by decide +kernel
theorem d_TC_init_5 : decode c_TC_init 5 = .ok (.bipush 24, 2) := by decide +kernel
theorem d_TC_init_7 : decode c_TC_init 7 = .ok (.anewarray 9, 3) := by decide +kernel
theorem d_TC_init_10 : decode c_TC_init 10 = .ok (.putfield 11, 3) := by decide +kernel
theorem d_TC_init_13 : decode c_TC_init 13 = .ok (.aload_n 0, 1) := by decide +kernel
theorem d_TC_init_14 : decode c_TC_init 14 = .ok (.new 15, 3) := by decide +kernel
theorem d_TC_init_17 : decode c_TC_init 17 = .ok (.dup, 1) := by decide +kernel
theorem d_TC_init_18 : decode c_TC_init 18 = .ok (.invokespecial 17, 3) := by decide +kernel
theorem d_TC_init_21 : decode c_TC_init 21 = .ok (.putfield 18, 3) := by decide +kernel
theorem d_TC_init_24 : decode c_TC_init 24 = .ok (.aload_n 0, 1) := by decide +kernel
theorem d_TC_init_25 : decode c_TC_init 25 = .ok (.new 22, 3) := by decide +kernel
theorem d_TC_init_28 : decode c_TC_init 28 = .ok (.dup, 1) := by decide +kernel
theorem d_TC_init_29 : decode c_TC_init 29 = .ok (.invokespecial 24, 3) := by decide +kernel
theorem d_TC_init_32 : decode c_TC_init 32 = .ok (.putfield 25, 3) := by decide +kernel
theorem d_TC_init_35 : decode c_TC_init 35 = .ok (.aload_n 0, 1) := by decide +kernel
theorem d_TC_init_36 : decode c_TC_init 36 = .ok (.new 22, 3) := by decide +kernel
theorem d_TC_init_39 : decode c_TC_init 39 = .ok (.dup, 1) := by decide +kernel
theorem d_TC_init_40 : decode c_TC_init 40 = .ok (.invokespecial 24, 3) := by decide +kernel
theorem d_TC_init_43 : decode c_TC_init 43 = .ok (.putfield 29, 3) := by decide +kernel
theorem d_TC_init_46 : decode c_TC_init 46 = .ok (.aload_n 0, 1) := by decide +kernel
theorem d_TC_init_47 : decode c_TC_init 47 = .ok (.bipush 12, 2) := by decide +kernel
theorem d_TC_init_49 : decode c_TC_init 49 = .ok (.anewarray 32, 3) := by decide +kernel
theorem d_TC_init_52 : decode c_TC_init 52 = .ok (.putfield 34, 3) := by decide +kernel
theorem d_TC_init_55 : decode c_TC_init 55 = .ok (.aload_n 0, 1) := by decide +kernel
theorem d_TC_init_56 : decode c_TC_init 56 = .ok (.new 38, 3) := by decide +kernel
theorem d_TC_init_59 : decode c_TC_init 59 = .ok (.dup, 1) := by decide +kernel
theorem d_TC_init_60 : decode c_TC_init 60 = .ok (.invokespecial 40, 3) := by decide +kernel
theorem d_TC_init_63 : decode c_TC_init 63 = .ok (.putfield 41, 3) := by decide +kernel
theorem d_TC_init_66 : decode c_TC_init 66 = .ok (.aload_n 0, 1) := by decide +kernel
theorem d_TC_init_67 : decode c_TC_init 67 = .ok (.new 45, 3) := by decide +kernel
theorem d_TC_init_70 : decode c_TC_init 70 = .ok (.dup, 1) := by decide +kernel
theorem d_TC_init_71 : decode c_TC_init 71 = .ok (.invokespecial 47, 3) := by decide +kernel
theorem d_TC_init_74 : decode c_TC_init 74 = .ok (.putfield 48, 3) := by decide +kernel
theorem d_TC_init_77 : decode c_TC_init 77 = .ok (.aload_n 0, 1) := by decide +kernel
theorem d_TC_init_78 : decode c_TC_init 78 = .ok (.bipush 8, 2) := by decide +kernel
theorem d_TC_init_80 : decode c_TC_init 80 = .ok (.newarray .int, 2) := by decide +kernel
theorem d_TC_init_82 : decode c_TC_init 82 = .ok (.putfield 52, 3) := by decide +kernel
theorem d_TC_init_85 : decode c_TC_init 85 = .ok (.aload_n 0, 1) := by decide +kernel
theorem d_TC_init_86 : decode c_TC_init 86 = .ok (.iconst 0, 1) := by decide +kernel
theorem d_TC_init_87 : decode c_TC_init 87 = .ok (.putfield 56, 3) := by decide +kernel
theorem d_TC_init_90 : decode c_TC_init 90 = .ok (.aload_n 0, 1) := by decide +kernel
theorem d_TC_init_91 : decode c_TC_init 91 = .ok (.iconst 0, 1) := by decide +kernel
theorem d_TC_init_92 : decode c_TC_init 92 = .ok (.putfield 60, 3) := by decide +kernel
theorem d_TC_init_95 : decode c_TC_init 95 = .ok (.aload_n 0, 1) := by decide +kernel
theorem d_TC_init_96 : decode c_TC_init 96 = .ok (.iconst 0, 1) := by decide +kernel
theorem d_TC_init_97 : decode c_TC_init 97 = .ok (.putfield 64, 3) := by decide +kernel
theorem d_TC_init_100 : decode c_TC_init 100 = .ok (.aload_n 0, 1) := by decide +kernel
theorem d_TC_init_101 : decode c_TC_init 101 = .ok (.iconst 1, 1) := by decide +kernel
theorem d_TC_init_102 : decode c_TC_init 102 = .ok (.putfield 67, 3) := by decide +kernel
theorem d_TC_init_105 : decode c_TC_init 105 = .ok (.iconst 0, 1) := by decide +kernel
theorem d_TC_init_106 : decode c_TC_init 106 = .ok (.istore_n 1, 1) := by decide +kernel
theorem d_TC_init_107 : decode c_TC_init 107 = .ok (.iload_n 1, 1) := by decide +kernel
theorem d_TC_init_108 : decode c_TC_init 108 = .ok (.aload_n 0, 1) := by decide +kernel
theorem d_TC_init_109 : decode c_TC_init 109 = .ok (.getfield 11, 3) := by decide +kernel
theorem d_TC_init_112 : decode c_TC_init 112 = .ok (.arraylength, 1) := by decide +kernel
theorem d_TC_init_113 : decode c_TC_init 113 = .ok (.if_icmp .ge 22, 3) := by decide +kernel
theorem d_TC_init_116 : decode c_TC_init 116 = .ok (.aload_n 0, 1) := by decide +kernel
theorem d_TC_init_117 : decode c_TC_init 117 = .ok (.getfield 11, 3) := by decide +kernel
theorem d_TC_init_120 : decode c_TC_init 120 = .ok (.iload_n 1, 1) := by decide +kernel
theorem d_TC_init_121 : decode c_TC_init 121 = .ok (.new 9, 3) := by decide +kernel
theorem d_TC_init_124 : decode c_TC_init 124 = .ok (.dup, 1) := by decide +kernel
theorem d_TC_init_125 : decode c_TC_init 125 = .ok (.invokespecial 70, 3) := by decide +kernel
theorem d_TC_init_128 : decode c_TC_init 128 = .ok (.aastore, 1) := by decide +kernel
theorem d_TC_init_129 : decode c_TC_init 129 = .ok (.iinc 1 1, 3) := by decide +kernel
theorem d_TC_init_132 : decode c_TC_init 132 = .ok (.goto (-25), 3) := by decide +kernel
theorem d_TC_init_135 : decode c_TC_init 135 = .ok (.iconst 0, 1) := by decide +kernel
theorem d_TC_init_136 : decode c_TC_init 136 = .ok (.istore_n 1, 1) := by decide +kernel
theorem d_TC_init_137 : decode c_TC_init 137 = .ok (.iload_n 1, 1) := by decide +kernel
theorem d_TC_init_138 : decode c_TC_init 138 = .ok (.bipush 12, 2) := by decide +kernel
theorem d_TC_init_140 : decode c_TC_init 140 = .ok (.if_icmp .ge 22, 3) := by decide +kernel
theorem d_TC_init_143 : decode c_TC_init 143 = .ok (.aload_n 0, 1) := by decide +kernel
theorem d_TC_init_144 : decode c_TC_init 144 = .ok (.getfield 34, 3) := by decide +kernel
theorem d_TC_init_147 : decode c_TC_init 147 = .ok (.iload_n 1, 1) := by decide +kernel
theorem d_TC_init_148 : decode c_TC_init 148 = .ok (.new 32, 3) := by decide +kernel
theorem d_TC_init_151 : decode c_TC_init 151 = .ok (.dup, 1) := by decide +kernel
theorem d_TC_init_152 : decode c_TC_init 152 = .ok (.invokespecial 71, 3) := by decide +kernel
theorem d_TC_init_155 : decode c_TC_init 155 = .ok (.aastore, 1) := by decide +kernel
theorem d_TC_init_156 : decode c_TC_init 156 = .ok (.iinc 1 1, 3) := by decide +kernel
theorem d_TC_init_159 : decode c_TC_init 159 = .ok (.goto (-22), 3) := by decide +kernel
theorem d_TC_init_162 : decode c_TC_init 162 = .ok (.return_, 1) := by decide +kernel
theorem d_TC_rule_0 : decode c_TC_rule 0 = .ok (.iload_n 2, 1) := by decide +kernel
theorem d_TC_rule_1 : decode c_TC_rule 1 = .ok (.invokestatic 72, 3) := by decide +kernel
theorem d_TC_rule_4 : decode c_TC_rule 4 = .ok (.ifCond .eq 10, 3) := by decide +kernel
theorem d_TC_rule_7 : decode c_TC_rule 7 = .ok (.iload_n 3, 1) := by decide +kernel
theorem d_TC_rule_8 : decode c_TC_rule 8 = .ok (.invokestatic 72, 3) := by decide +kernel
theorem d_TC_rule_11 : decode c_TC_rule 11 = .ok (.ifCond .ne 5, 3) := by decide +kernel
theorem d_TC_rule_14 : decode c_TC_rule 14 = .ok (.iconst 0, 1) := by decide +kernel
theorem d_TC_rule_15 : decode c_TC_rule 15 = .ok (.ireturn, 1) := by decide +kernel
theorem d_TC_rule_16 : decode c_TC_rule 16 = .ok (.aload_n 0, 1) := by decide +kernel
theorem d_TC_rule_17 : decode c_TC_rule 17 = .ok (.getfield 18, 3) := by decide +kernel
theorem d_TC_rule_20 : decode c_TC_rule 20 = .ok (.iload_n 1, 1) := by decide +kernel
theorem d_TC_rule_21 : decode c_TC_rule 21 = .ok (.iload_n 2, 1) := by decide +kernel
theorem d_TC_rule_22 : decode c_TC_rule 22 = .ok (.iload_n 3, 1) := by decide +kernel
theorem d_TC_rule_23 : decode c_TC_rule 23 = .ok (.invokevirtual 76, 3) := by decide +kernel
theorem d_TC_rule_26 : decode c_TC_rule 26 = .ok (.ireturn, 1) := by decide +kernel
theorem d_TC_put_0 : decode c_TC_put 0 = .ok (.aload_n 0, 1) := by decide +kernel
theorem d_TC_put_1 : decode c_TC_put 1 = .ok (.iload_n 1, 1) := by decide +kernel
theorem d_TC_put_2 : decode c_TC_put 2 = .ok (.iload_n 2, 1) := by decide +kernel
theorem d_TC_put_3 : decode c_TC_put 3 = .ok (.invokevirtual 80, 3) := by decide +kernel
theorem d_TC_put_6 : decode c_TC_put 6 = .ok (.astore 4, 2) := by decide +kernel
theorem d_TC_put_8 : decode c_TC_put 8 = .ok (.aload 4, 2) := by decide +kernel
theorem d_TC_put_10 : decode c_TC_put 10 = .ok (.ifnull 21, 3) := by decide +kernel
theorem d_TC_put_13 : decode c_TC_put 13 = .ok (.iload_n 3, 1) := by decide +kernel
theorem d_TC_put_14 : decode c_TC_put 14 = .ok (.invokestatic 84, 3) := by decide +kernel
theorem d_TC_put_17 : decode c_TC_put 17 = .ok (.ifCond .eq 14, 3) := by decide +kernel
theorem d_TC_put_20 : decode c_TC_put 20 = .ok (.aload 4, 2) := by decide +kernel
theorem d_TC_put_22 : decode c_TC_put 22 = .ok (.getfield 87, 3) := by decide +kernel
theorem d_TC_put_25 : decode c_TC_put 25 = .ok (.invokevirtual 90, 3) := by decide +kernel
theorem d_TC_put_28 : decode c_TC_put 28 = .ok (.ifCond .eq 5, 3) := by decide +kernel
theorem d_TC_put_31 : decode c_TC_put 31 = .ok (.iconst 0, 1) := by decide +kernel
theorem d_TC_put_32 : decode c_TC_put 32 = .ok (.ireturn, 1) := by decide +kernel
theorem d_TC_put_33 : decode c_TC_put 33 = .ok (.aload 4, 2) := by decide +kernel
theorem d_TC_put_35 : decode c_TC_put 35 = .ok (.iconst 1, 1) := by decide +kernel
theorem d_TC_put_36 : decode c_TC_put 36 = .ok (.putfield 94, 3) := by decide +kernel
theorem d_TC_put_39 : decode c_TC_put 39 = .ok (.aload 4, 2) := by decide +kernel
theorem d_TC_put_41 : decode c_TC_put 41 = .ok (.getfield 87, 3) := by decide +kernel
theorem d_TC_put_44 : decode c_TC_put 44 = .ok (.iload_n 3, 1) := by decide +kernel
theorem d_TC_put_45 : decode c_TC_put 45 = .ok (.invokevirtual 97, 3) := by decide +kernel
theorem d_TC_put_48 : decode c_TC_put 48 = .ok (.aload 4, 2) := by decide +kernel
theorem d_TC_put_50 : decode c_TC_put 50 = .ok (.aload_n 0, 1) := by decide +kernel
theorem d_TC_put_51 : decode c_TC_put 51 = .ok (.invokevirtual 100, 3) := by decide +kernel
theorem d_TC_put_54 : decode c_TC_put 54 = .ok (.putfield 104, 3) := by decide +kernel
theorem d_TC_put_57 : decode c_TC_put 57 = .ok (.iconst 1, 1) := by decide +kernel
theorem d_TC_put_58 : decode c_TC_put 58 = .ok (.ireturn, 1) := by decide +kernel
theorem d_TC_set_0 : decode c_TC_set 0 = .ok (.aload_n 0, 1) := by decide +kernel
theorem d_TC_set_1 : decode c_TC_set 1 = .ok (.iload_n 1, 1) := by decide +kernel
theorem d_TC_set_2 : decode c_TC_set 2 = .ok (.iload_n 2, 1) := by decide +kernel
theorem d_TC_set_3 : decode c_TC_set 3 = .ok (.invokevirtual 107, 3) := by decide +kernel
theorem d_TC_set_6 : decode c_TC_set 6 = .ok (.astore 5, 2) := by decide +kernel
theorem d_TC_set_8 : decode c_TC_set 8 = .ok (.aload 5, 2) := by decide +kernel
theorem d_TC_set_10 : decode c_TC_set 10 = .ok (.ifnull 23, 3) := by decide +kernel
theorem d_TC_set_13 : decode c_TC_set 13 = .ok (.aload 5, 2) := by decide +kernel
theorem d_TC_set_15 : decode c_TC_set 15 = .ok (.getfield 87, 3) := by decide +kernel
theorem d_TC_set_18 : decode c_TC_set 18 = .ok (.iload_n 3, 1) := by decide +kernel
theorem d_TC_set_19 : decode c_TC_set 19 = .ok (.invokevirtual 110, 3) := by decide +kernel
theorem d_TC_set_22 : decode c_TC_set 22 = .ok (.ifCond .eq 11, 3) := by decide +kernel
theorem d_TC_set_25 : decode c_TC_set 25 = .ok (.iload 4, 2) := by decide +kernel
theorem d_TC_set_27 : decode c_TC_set 27 = .ok (.invokestatic 84, 3) := by decide +kernel
theorem d_TC_set_30 : decode c_TC_set 30 = .ok (.ifCond .ne 5, 3) := by decide +kernel
theorem d_TC_set_33 : decode c_TC_set 33 = .ok (.iconst 0, 1) := by decide +kernel
theorem d_TC_set_34 : decode c_TC_set 34 = .ok (.ireturn, 1) := by decide +kernel
theorem d_TC_set_35 : decode c_TC_set 35 = .ok (.aload 5, 2) := by decide +kernel
theorem d_TC_set_37 : decode c_TC_set 37 = .ok (.getfield 87, 3) := by decide +kernel
theorem d_TC_set_40 : decode c_TC_set 40 = .ok (.iload_n 3, 1) := by decide +kernel
theorem d_TC_set_41 : decode c_TC_set 41 = .ok (.iload 4, 2) := by decide +kernel
theorem d_TC_set_43 : decode c_TC_set 43 = .ok (.invokevirtual 113, 3) := by decide +kernel
theorem d_TC_set_46 : decode c_TC_set 46 = .ok (.aload 5, 2) := by decide +kernel
theorem d_TC_set_48 : decode c_TC_set 48 = .ok (.aload_n 0, 1) := by decide +kernel
theorem d_TC_set_49 : decode c_TC_set 49 = .ok (.invokevirtual 100, 3) := by decide +kernel
theorem d_TC_set_52 : decode c_TC_set 52 = .ok (.putfield 104, 3) := by decide +kernel
theorem d_TC_set_55 : decode c_TC_set 55 = .ok (.iconst 1, 1) := by decide +kernel
theorem d_TC_set_56 : decode c_TC_set 56 = .ok (.ireturn, 1) := by decide +kernel
theorem d_TC_remove_0 : decode c_TC_remove 0 = .ok (.aload_n 0, 1) := by decide +kernel
theorem d_TC_remove_1 : decode c_TC_remove 1 = .ok (.iload_n 1, 1) := by decide +kernel
theorem d_TC_remove_2 : decode c_TC_remove 2 = .ok (.iload_n 2, 1) := by decide +kernel
theorem d_TC_remove_3 : decode c_TC_remove 3 = .ok (.invokevirtual 107, 3) := by decide +kernel
theorem d_TC_remove_6 : decode c_TC_remove 6 = .ok (.astore_n 3, 1) := by decide +kernel
theorem d_TC_remove_7 : decode c_TC_remove 7 = .ok (.aload_n 3, 1) := by decide +kernel
theorem d_TC_remove_8 : decode c_TC_remove 8 = .ok (.ifnonnull 5, 3) := by decide +kernel
theorem d_TC_remove_11 : decode c_TC_remove 11 = .ok (.iconst 0, 1) := by decide +kernel
theorem d_TC_remove_12 : decode c_TC_remove 12 = .ok (.ireturn, 1) := by decide +kernel
theorem d_TC_remove_13 : decode c_TC_remove 13 = .ok (.aload_n 3, 1) := by decide +kernel
theorem d_TC_remove_14 : decode c_TC_remove 14 = .ok (.invokevirtual 117, 3) := by decide +kernel
theorem d_TC_remove_17 : decode c_TC_remove 17 = .ok (.aload_n 0, 1) := by decide +kernel
theorem d_TC_remove_18 : decode c_TC_remove 18 = .ok (.invokevirtual 100, 3) := by decide +kernel
theorem d_TC_remove_21 : decode c_TC_remove 21 = .ok (.pop, 1) := by decide +kernel
theorem d_TC_remove_22 : decode c_TC_remove 22 = .ok (.iconst 1, 1) := by decide +kernel
theorem d_TC_remove_23 : decode c_TC_remove 23 = .ok (.ireturn, 1) := by decide +kernel
theorem d_TC_begin_0 : decode c_TC_begin 0 = .ok (.aload_n 0, 1) := by decide +kernel
theorem d_TC_begin_1 : decode c_TC_begin 1 = .ok (.getfield 60, 3) := by decide +kernel
theorem d_TC_begin_4 : decode c_TC_begin 4 = .ok (.ifCond .ne 14, 3) := by decide +kernel
theorem d_TC_begin_7 : decode c_TC_begin 7 = .ok (.iload_n 1, 1) := by decide +kernel
theorem d_TC_begin_8 : decode c_TC_begin 8 = .ok (.iconst 1, 1) := by decide +kernel
theorem d_TC_begin_9 : decode c_TC_begin 9 = .ok (.if_icmp .lt 9, 3) := by decide +kernel
theorem d_TC_begin_12 : decode c_TC_begin 12 = .ok (.iload_n 1, 1) := by decide +kernel
theorem d_TC_begin_13 : decode c_TC_begin 13 = .ok (.bipush 8, 2) := by decide +kernel
theorem d_TC_begin_15 : decode c_TC_begin 15 = .ok (.if_icmp .le 5, 3) := by decide +kernel
theorem d_TC_begin_18 : decode c_TC_begin 18 = .ok (.iconst 0, 1) := by decide +kernel
theorem d_TC_begin_19 : decode c_TC_begin 19 = .ok (.ireturn, 1) := by decide +kernel
theorem d_TC_begin_20 : decode c_TC_begin 20 = .ok (.aload_n 0, 1) := by decide +kernel
theorem d_TC_begin_21 : decode c_TC_begin 21 = .ok (.invokevirtual 120, 3) := by decide +kernel
theorem d_TC_begin_24 : decode c_TC_begin 24 = .ok (.aload_n 0, 1) := by decide +kernel
theorem d_TC_begin_25 : decode c_TC_begin 25 = .ok (.iconst 1, 1) := by decide +kernel
theorem d_TC_begin_26 : decode c_TC_begin 26 = .ok (.putfield 60, 3) := by decide +kernel
theorem d_TC_begin_29 : decode c_TC_begin 29 = .ok (.aload_n 0, 1) := by decide +kernel
theorem d_TC_begin_30 : decode c_TC_begin 30 = .ok (.iload_n 2, 1) := by decide +kernel
theorem d_TC_begin_31 : decode c_TC_begin 31 = .ok (.putfield 64, 3) := by decide +kernel
theorem d_TC_begin_34 : decode c_TC_begin 34 = .ok (.aload_n 0, 1) := by decide +kernel
theorem d_TC_begin_35 : decode c_TC_begin 35 = .ok (.iload_n 1, 1) := by decide +kernel
theorem d_TC_begin_36 : decode c_TC_begin 36 = .ok (.putfield 67, 3) := by decide +kernel
theorem d_TC_begin_39 : decode c_TC_begin 39 = .ok (.aload_n 0, 1) := by decide +kernel
theorem d_TC_begin_40 : decode c_TC_begin 40 = .ok (.invokevirtual 123, 3) := by decide +kernel
theorem d_TC_begin_43 : decode c_TC_begin 43 = .ok (.iconst 1, 1) := by decide +kernel
theorem d_TC_begin_44 : decode c_TC_begin 44 = .ok (.ireturn, 1) := by decide +kernel
theorem d_TC_deliver_0 : decode c_TC_deliver 0 = .ok (.aload_n 0, 1) := by decide +kernel
theorem d_TC_deliver_1 : decode c_TC_deliver 1 = .ok (.iload_n 1, 1) := by decide +kernel
theorem d_TC_deliver_2 : decode c_TC_deliver 2 = .ok (.invokevirtual 126, 3) := by decide +kernel
theorem d_TC_deliver_5 : decode c_TC_deliver 5 = .ok (.astore_n 2, 1) := by decide +kernel
theorem d_TC_deliver_6 : decode c_TC_deliver 6 = .ok (.aload_n 2, 1) := by decide +kernel
theorem d_TC_deliver_7 : decode c_TC_deliver 7 = .ok (.ifnonnull 7, 3) := by decide +kernel
theorem d_TC_deliver_10 : decode c_TC_deliver 10 = .ok (.aconst_null, 1) := by decide +kernel
theorem d_TC_deliver_11 : decode c_TC_deliver 11 = .ok (.goto 7, 3) := by decide +kernel
theorem d_TC_deliver_14 : decode c_TC_deliver 14 = .ok (.aload_n 2, 1) := by decide +kernel
theorem d_TC_deliver_15 : decode c_TC_deliver 15 = .ok (.invokevirtual 130, 3) := by decide +kernel
theorem d_TC_deliver_18 : decode c_TC_deliver 18 = .ok (.astore_n 3, 1) := by decide +kernel
theorem d_TC_deliver_19 : decode c_TC_deliver 19 = .ok (.aload_n 3, 1) := by decide +kernel
theorem d_TC_deliver_20 : decode c_TC_deliver 20 = .ok (.ifnonnull 5, 3) := by decide +kernel
theorem d_TC_deliver_23 : decode c_TC_deliver 23 = .ok (.iconst 0, 1) := by decide +kernel
theorem d_TC_deliver_24 : decode c_TC_deliver 24 = .ok (.ireturn, 1) := by decide +kernel
theorem d_TC_deliver_25 : decode c_TC_deliver 25 = .ok (.aload_n 3, 1) := by decide +kernel
theorem d_TC_deliver_26 : decode c_TC_deliver 26 = .ok (.getfield 134, 3) := by decide +kernel
theorem d_TC_deliver_29 : decode c_TC_deliver 29 = .ok (.istore 4, 2) := by decide +kernel
theorem d_TC_deliver_31 : decode c_TC_deliver 31 = .ok (.aload_n 2, 1) := by decide +kernel
theorem d_TC_deliver_32 : decode c_TC_deliver 32 = .ok (.aload_n 0, 1) := by decide +kernel
theorem d_TC_deliver_33 : decode c_TC_deliver 33 = .ok (.getfield 29, 3) := by decide +kernel
theorem d_TC_deliver_36 : decode c_TC_deliver 36 = .ok (.if_acmp .ne 15, 3) := by decide +kernel
theorem d_TC_deliver_39 : decode c_TC_deliver 39 = .ok (.aload_n 0, 1) := by decide +kernel
theorem d_TC_deliver_40 : decode c_TC_deliver 40 = .ok (.invokevirtual 139, 3) := by decide +kernel
theorem d_TC_deliver_43 : decode c_TC_deliver 43 = .ok (.aload_n 0, 1) := by decide +kernel
theorem d_TC_deliver_44 : decode c_TC_deliver 44 = .ok (.aload_n 3, 1) := by decide +kernel
theorem d_TC_deliver_45 : decode c_TC_deliver 45 = .ok (.invokevirtual 142, 3) := by decide +kernel
theorem d_TC_deliver_48 : decode c_TC_deliver 48 = .ok (.goto 8, 3) := by decide +kernel
theorem d_TC_deliver_51 : decode c_TC_deliver 51 = .ok (.aload_n 0, 1) := by decide +kernel
theorem d_TC_deliver_52 : decode c_TC_deliver 52 = .ok (.aload_n 3, 1) := by decide +kernel
theorem d_TC_deliver_53 : decode c_TC_deliver 53 = .ok (.invokevirtual 146, 3) := by decide +kernel
theorem d_TC_deliver_56 : decode c_TC_deliver 56 = .ok (.iload 4, 2) := by decide +kernel
theorem d_TC_deliver_58 : decode c_TC_deliver 58 = .ok (.ireturn, 1) := by decide +kernel
theorem d_TC_crash_0 : decode c_TC_crash 0 = .ok (.aload_n 0, 1) := by decide +kernel
theorem d_TC_crash_1 : decode c_TC_crash 1 = .ok (.getfield 60, 3) := by decide +kernel
theorem d_TC_crash_4 : decode c_TC_crash 4 = .ok (.ifCond .ne 5, 3) := by decide +kernel
theorem d_TC_crash_7 : decode c_TC_crash 7 = .ok (.iconst 0, 1) := by decide +kernel
theorem d_TC_crash_8 : decode c_TC_crash 8 = .ok (.ireturn, 1) := by decide +kernel
theorem d_TC_crash_9 : decode c_TC_crash 9 = .ok (.aload_n 0, 1) := by decide +kernel
theorem d_TC_crash_10 : decode c_TC_crash 10 = .ok (.invokevirtual 149, 3) := by decide +kernel
theorem d_TC_crash_13 : decode c_TC_crash 13 = .ok (.iconst 1, 1) := by decide +kernel
theorem d_TC_crash_14 : decode c_TC_crash 14 = .ok (.ireturn, 1) := by decide +kernel
theorem d_TC_on_0 : decode c_TC_on 0 = .ok (.aload_n 0, 1) := by decide +kernel
theorem d_TC_on_1 : decode c_TC_on 1 = .ok (.getfield 60, 3) := by decide +kernel
theorem d_TC_on_4 : decode c_TC_on 4 = .ok (.ireturn, 1) := by decide +kernel
theorem d_TC_size_0 : decode c_TC_size 0 = .ok (.aload_n 0, 1) := by decide +kernel
theorem d_TC_size_1 : decode c_TC_size 1 = .ok (.iload_n 1, 1) := by decide +kernel
theorem d_TC_size_2 : decode c_TC_size 2 = .ok (.iload_n 2, 1) := by decide +kernel
theorem d_TC_size_3 : decode c_TC_size 3 = .ok (.invokevirtual 107, 3) := by decide +kernel
theorem d_TC_size_6 : decode c_TC_size 6 = .ok (.astore_n 3, 1) := by decide +kernel
theorem d_TC_size_7 : decode c_TC_size 7 = .ok (.aload_n 3, 1) := by decide +kernel
theorem d_TC_size_8 : decode c_TC_size 8 = .ok (.ifnonnull 7, 3) := by decide +kernel
theorem d_TC_size_11 : decode c_TC_size 11 = .ok (.iconst (-1), 1) := by decide +kernel
theorem d_TC_size_12 : decode c_TC_size 12 = .ok (.goto 10, 3) := by decide +kernel
theorem d_TC_size_15 : decode c_TC_size 15 = .ok (.aload_n 3, 1) := by decide +kernel
theorem d_TC_size_16 : decode c_TC_size 16 = .ok (.getfield 87, 3) := by decide +kernel
theorem d_TC_size_19 : decode c_TC_size 19 = .ok (.getfield 152, 3) := by decide +kernel
theorem d_TC_size_22 : decode c_TC_size 22 = .ok (.ireturn, 1) := by decide +kernel
theorem d_TC_at_0 : decode c_TC_at 0 = .ok (.aload_n 0, 1) := by decide +kernel
theorem d_TC_at_1 : decode c_TC_at 1 = .ok (.iload_n 1, 1) := by decide +kernel
theorem d_TC_at_2 : decode c_TC_at 2 = .ok (.iload_n 2, 1) := by decide +kernel
theorem d_TC_at_3 : decode c_TC_at 3 = .ok (.invokevirtual 107, 3) := by decide +kernel
theorem d_TC_at_6 : decode c_TC_at 6 = .ok (.astore 4, 2) := by decide +kernel
theorem d_TC_at_8 : decode c_TC_at 8 = .ok (.aload 4, 2) := by decide +kernel
theorem d_TC_at_10 : decode c_TC_at 10 = .ok (.ifnonnull 7, 3) := by decide +kernel
theorem d_TC_at_13 : decode c_TC_at 13 = .ok (.iconst (-1), 1) := by decide +kernel
theorem d_TC_at_14 : decode c_TC_at 14 = .ok (.goto 12, 3) := by decide +kernel
theorem d_TC_at_17 : decode c_TC_at 17 = .ok (.aload 4, 2) := by decide +kernel
theorem d_TC_at_19 : decode c_TC_at 19 = .ok (.getfield 87, 3) := by decide +kernel
theorem d_TC_at_22 : decode c_TC_at 22 = .ok (.iload_n 3, 1) := by decide +kernel
theorem d_TC_at_23 : decode c_TC_at 23 = .ok (.invokevirtual 155, 3) := by decide +kernel
theorem d_TC_at_26 : decode c_TC_at 26 = .ok (.ireturn, 1) := by decide +kernel
theorem d_TC_time_0 : decode c_TC_time 0 = .ok (.aload_n 0, 1) := by decide +kernel
theorem d_TC_time_1 : decode c_TC_time 1 = .ok (.iload_n 1, 1) := by decide +kernel
theorem d_TC_time_2 : decode c_TC_time 2 = .ok (.iload_n 2, 1) := by decide +kernel
theorem d_TC_time_3 : decode c_TC_time 3 = .ok (.invokevirtual 107, 3) := by decide +kernel
theorem d_TC_time_6 : decode c_TC_time 6 = .ok (.astore_n 3, 1) := by decide +kernel
theorem d_TC_time_7 : decode c_TC_time 7 = .ok (.aload_n 3, 1) := by decide +kernel
theorem d_TC_time_8 : decode c_TC_time 8 = .ok (.ifnonnull 7, 3) := by decide +kernel
theorem d_TC_time_11 : decode c_TC_time 11 = .ok (.iconst (-1), 1) := by decide +kernel
theorem d_TC_time_12 : decode c_TC_time 12 = .ok (.goto 7, 3) := by decide +kernel
theorem d_TC_time_15 : decode c_TC_time 15 = .ok (.aload_n 3, 1) := by decide +kernel
theorem d_TC_time_16 : decode c_TC_time 16 = .ok (.getfield 104, 3) := by decide +kernel
theorem d_TC_time_19 : decode c_TC_time 19 = .ok (.ireturn, 1) := by decide +kernel
theorem d_TC_selected_0 : decode c_TC_selected 0 = .ok (.iload_n 1, 1) := by decide +kernel
theorem d_TC_selected_1 : decode c_TC_selected 1 = .ok (.invokestatic 159, 3) := by decide +kernel
theorem d_TC_selected_4 : decode c_TC_selected 4 = .ok (.ifCond .eq 18, 3) := by decide +kernel
theorem d_TC_selected_7 : decode c_TC_selected 7 = .ok (.aload_n 0, 1) := by decide +kernel
theorem d_TC_selected_8 : decode c_TC_selected 8 = .ok (.getfield 18, 3) := by decide +kernel
theorem d_TC_selected_11 : decode c_TC_selected 11 = .ok (.iload_n 1, 1) := by decide +kernel
theorem d_TC_selected_12 : decode c_TC_selected 12 = .ok (.invokevirtual 162, 3) := by decide +kernel
theorem d_TC_selected_15 : decode c_TC_selected 15 = .ok (.ifCond .eq 7, 3) := by decide +kernel
theorem d_TC_selected_18 : decode c_TC_selected 18 = .ok (.iconst 1, 1) := by decide +kernel
theorem d_TC_selected_19 : decode c_TC_selected 19 = .ok (.goto 4, 3) := by decide +kernel
theorem d_TC_selected_22 : decode c_TC_selected 22 = .ok (.iconst 0, 1) := by decide +kernel
theorem d_TC_selected_23 : decode c_TC_selected 23 = .ok (.ireturn, 1) := by decide +kernel
theorem d_TC_waiting_0 : decode c_TC_waiting 0 = .ok (.aload_n 0, 1) := by decide +kernel
theorem d_TC_waiting_1 : decode c_TC_waiting 1 = .ok (.iload_n 1, 1) := by decide +kernel
theorem d_TC_waiting_2 : decode c_TC_waiting 2 = .ok (.invokevirtual 126, 3) := by decide +kernel
theorem d_TC_waiting_5 : decode c_TC_waiting 5 = .ok (.astore_n 2, 1) := by decide +kernel
theorem d_TC_waiting_6 : decode c_TC_waiting 6 = .ok (.aload_n 2, 1) := by decide +kernel
theorem d_TC_waiting_7 : decode c_TC_waiting 7 = .ok (.ifnonnull 7, 3) := by decide +kernel
theorem d_TC_waiting_10 : decode c_TC_waiting 10 = .ok (.iconst (-1), 1) := by decide +kernel
theorem d_TC_waiting_11 : decode c_TC_waiting 11 = .ok (.goto 7, 3) := by decide +kernel
theorem d_TC_waiting_14 : decode c_TC_waiting 14 = .ok (.aload_n 2, 1) := by decide +kernel
theorem d_TC_waiting_15 : decode c_TC_waiting 15 = .ok (.getfield 165, 3) := by decide +kernel
theorem d_TC_waiting_18 : decode c_TC_waiting 18 = .ok (.ireturn, 1) := by decide +kernel
theorem d_TC_next_0 : decode c_TC_next 0 = .ok (.aload_n 0, 1) := by decide +kernel
theorem d_TC_next_1 : decode c_TC_next 1 = .ok (.iload_n 1, 1) := by decide +kernel
theorem d_TC_next_2 : decode c_TC_next 2 = .ok (.invokevirtual 126, 3) := by decide +kernel
theorem d_TC_next_5 : decode c_TC_next 5 = .ok (.astore_n 2, 1) := by decide +kernel
theorem d_TC_next_6 : decode c_TC_next 6 = .ok (.aload_n 2, 1) := by decide +kernel
theorem d_TC_next_7 : decode c_TC_next 7 = .ok (.ifnonnull 7, 3) := by decide +kernel
theorem d_TC_next_10 : decode c_TC_next 10 = .ok (.iconst 0, 1) := by decide +kernel
theorem d_TC_next_11 : decode c_TC_next 11 = .ok (.goto 7, 3) := by decide +kernel
theorem d_TC_next_14 : decode c_TC_next 14 = .ok (.aload_n 2, 1) := by decide +kernel
theorem d_TC_next_15 : decode c_TC_next 15 = .ok (.invokevirtual 166, 3) := by decide +kernel
theorem d_TC_next_18 : decode c_TC_next 18 = .ok (.ireturn, 1) := by decide +kernel
theorem d_TC_journal_0 : decode c_TC_journal 0 = .ok (.aload_n 0, 1) := by decide +kernel
theorem d_TC_journal_1 : decode c_TC_journal 1 = .ok (.getfield 41, 3) := by decide +kernel
theorem d_TC_journal_4 : decode c_TC_journal 4 = .ok (.getfield 169, 3) := by decide +kernel
theorem d_TC_journal_7 : decode c_TC_journal 7 = .ok (.ireturn, 1) := by decide +kernel
theorem d_TC_count_0 : decode c_TC_count 0 = .ok (.iload_n 1, 1) := by decide +kernel
theorem d_TC_count_1 : decode c_TC_count 1 = .ok (.ifCond .lt 9, 3) := by decide +kernel
theorem d_TC_count_4 : decode c_TC_count 4 = .ok (.iload_n 1, 1) := by decide +kernel
theorem d_TC_count_5 : decode c_TC_count 5 = .ok (.bipush 8, 2) := by decide +kernel
theorem d_TC_count_7 : decode c_TC_count 7 = .ok (.if_icmp .lt 7, 3) := by decide +kernel
theorem d_TC_count_10 : decode c_TC_count 10 = .ok (.iconst (-1), 1) := by decide +kernel
theorem d_TC_count_11 : decode c_TC_count 11 = .ok (.goto 9, 3) := by decide +kernel
theorem d_TC_count_14 : decode c_TC_count 14 = .ok (.aload_n 0, 1) := by decide +kernel
theorem d_TC_count_15 : decode c_TC_count 15 = .ok (.getfield 52, 3) := by decide +kernel
theorem d_TC_count_18 : decode c_TC_count 18 = .ok (.iload_n 1, 1) := by decide +kernel
theorem d_TC_count_19 : decode c_TC_count 19 = .ok (.iaload, 1) := by decide +kernel
theorem d_TC_count_20 : decode c_TC_count 20 = .ok (.ireturn, 1) := by decide +kernel
theorem d_TC_isName_0 : decode c_TC_isName 0 = .ok (.iload_n 0, 1) := by decide +kernel
theorem d_TC_isName_1 : decode c_TC_isName 1 = .ok (.ifCond .lt 13, 3) := by decide +kernel
theorem d_TC_isName_4 : decode c_TC_isName 4 = .ok (.iload_n 0, 1) := by decide +kernel
theorem d_TC_isName_5 : decode c_TC_isName 5 = .ok (.bipush 12, 2) := by decide +kernel
theorem d_TC_isName_7 : decode c_TC_isName 7 = .ok (.if_icmp .ge 7, 3) := by decide +kernel
theorem d_TC_isName_10 : decode c_TC_isName 10 = .ok (.iconst 1, 1) := by decide +kernel
theorem d_TC_isName_11 : decode c_TC_isName 11 = .ok (.goto 4, 3) := by decide +kernel
theorem d_TC_isName_14 : decode c_TC_isName 14 = .ok (.iconst 0, 1) := by decide +kernel
theorem d_TC_isName_15 : decode c_TC_isName 15 = .ok (.ireturn, 1) := by decide +kernel
theorem d_TC_isByte_0 : decode c_TC_isByte 0 = .ok (.iload_n 0, 1) := by decide +kernel
theorem d_TC_isByte_1 : decode c_TC_isByte 1 = .ok (.ifCond .lt 14, 3) := by decide +kernel
theorem d_TC_isByte_4 : decode c_TC_isByte 4 = .ok (.iload_n 0, 1) := by decide +kernel
theorem d_TC_isByte_5 : decode c_TC_isByte 5 = .ok (.sipush 255, 3) := by decide +kernel
theorem d_TC_isByte_8 : decode c_TC_isByte 8 = .ok (.if_icmp .gt 7, 3) := by decide +kernel
theorem d_TC_isByte_11 : decode c_TC_isByte 11 = .ok (.iconst 1, 1) := by decide +kernel
theorem d_TC_isByte_12 : decode c_TC_isByte 12 = .ok (.goto 4, 3) := by decide +kernel
theorem d_TC_isByte_15 : decode c_TC_isByte 15 = .ok (.iconst 0, 1) := by decide +kernel
theorem d_TC_isByte_16 : decode c_TC_isByte 16 = .ok (.ireturn, 1) := by decide +kernel
theorem d_TC_isMask_0 : decode c_TC_isMask 0 = .ok (.iload_n 0, 1) := by decide +kernel
theorem d_TC_isMask_1 : decode c_TC_isMask 1 = .ok (.ifCond .lt 13, 3) := by decide +kernel
theorem d_TC_isMask_4 : decode c_TC_isMask 4 = .ok (.iload_n 0, 1) := by decide +kernel
theorem d_TC_isMask_5 : decode c_TC_isMask 5 = .ok (.bipush 15, 2) := by decide +kernel
theorem d_TC_isMask_7 : decode c_TC_isMask 7 = .ok (.if_icmp .gt 7, 3) := by decide +kernel
theorem d_TC_isMask_10 : decode c_TC_isMask 10 = .ok (.iconst 1, 1) := by decide +kernel
theorem d_TC_isMask_11 : decode c_TC_isMask 11 = .ok (.goto 4, 3) := by decide +kernel
theorem d_TC_isMask_14 : decode c_TC_isMask 14 = .ok (.iconst 0, 1) := by decide +kernel
theorem d_TC_isMask_15 : decode c_TC_isMask 15 = .ok (.ireturn, 1) := by decide +kernel
theorem d_TC_slotOf_0 : decode c_TC_slotOf 0 = .ok (.iload_n 1, 1) := by decide +kernel
theorem d_TC_slotOf_1 : decode c_TC_slotOf 1 = .ok (.ifCond .lt 15, 3) := by decide +kernel
theorem d_TC_slotOf_4 : decode c_TC_slotOf 4 = .ok (.iload_n 1, 1) := by decide +kernel
theorem d_TC_slotOf_5 : decode c_TC_slotOf 5 = .ok (.iconst 2, 1) := by decide +kernel
theorem d_TC_slotOf_6 : decode c_TC_slotOf 6 = .ok (.if_icmp .ge 10, 3) := by decide +kernel
theorem d_TC_slotOf_9 : decode c_TC_slotOf 9 = .ok (.iload_n 2, 1) := by decide +kernel
theorem d_TC_slotOf_10 : decode c_TC_slotOf 10 = .ok (.invokestatic 159, 3) := by decide +kernel
theorem d_TC_slotOf_13 : decode c_TC_slotOf 13 = .ok (.ifCond .ne 5, 3) := by decide +kernel
theorem d_TC_slotOf_16 : decode c_TC_slotOf 16 = .ok (.aconst_null, 1) := by decide +kernel
theorem d_TC_slotOf_17 : decode c_TC_slotOf 17 = .ok (.areturn, 1) := by decide +kernel
theorem d_TC_slotOf_18 : decode c_TC_slotOf 18 = .ok (.aload_n 0, 1) := by decide +kernel
theorem d_TC_slotOf_19 : decode c_TC_slotOf 19 = .ok (.getfield 11, 3) := by decide +kernel
theorem d_TC_slotOf_22 : decode c_TC_slotOf 22 = .ok (.iload_n 1, 1) := by decide +kernel
theorem d_TC_slotOf_23 : decode c_TC_slotOf 23 = .ok (.bipush 12, 2) := by decide +kernel
theorem d_TC_slotOf_25 : decode c_TC_slotOf 25 = .ok (.imul, 1) := by decide +kernel
theorem d_TC_slotOf_26 : decode c_TC_slotOf 26 = .ok (.iload_n 2, 1) := by decide +kernel
theorem d_TC_slotOf_27 : decode c_TC_slotOf 27 = .ok (.iadd, 1) := by decide +kernel
theorem d_TC_slotOf_28 : decode c_TC_slotOf 28 = .ok (.aaload, 1) := by decide +kernel
theorem d_TC_slotOf_29 : decode c_TC_slotOf 29 = .ok (.areturn, 1) := by decide +kernel
theorem d_TC_fileOf_0 : decode c_TC_fileOf 0 = .ok (.aload_n 0, 1) := by decide +kernel
theorem d_TC_fileOf_1 : decode c_TC_fileOf 1 = .ok (.iload_n 1, 1) := by decide +kernel
theorem d_TC_fileOf_2 : decode c_TC_fileOf 2 = .ok (.iload_n 2, 1) := by decide +kernel
theorem d_TC_fileOf_3 : decode c_TC_fileOf 3 = .ok (.invokevirtual 80, 3) := by decide +kernel
theorem d_TC_fileOf_6 : decode c_TC_fileOf 6 = .ok (.astore_n 3, 1) := by decide +kernel
theorem d_TC_fileOf_7 : decode c_TC_fileOf 7 = .ok (.aload_n 3, 1) := by decide +kernel
theorem d_TC_fileOf_8 : decode c_TC_fileOf 8 = .ok (.ifnull 14, 3) := by decide +kernel
theorem d_TC_fileOf_11 : decode c_TC_fileOf 11 = .ok (.aload_n 3, 1) := by decide +kernel
theorem d_TC_fileOf_12 : decode c_TC_fileOf 12 = .ok (.getfield 94, 3) := by decide +kernel
theorem d_TC_fileOf_15 : decode c_TC_fileOf 15 = .ok (.ifCond .eq 7, 3) := by decide +kernel
theorem d_TC_fileOf_18 : decode c_TC_fileOf 18 = .ok (.aload_n 3, 1) := by decide +kernel
theorem d_TC_fileOf_19 : decode c_TC_fileOf 19 = .ok (.goto 4, 3) := by decide +kernel
theorem d_TC_fileOf_22 : decode c_TC_fileOf 22 = .ok (.aconst_null, 1) := by decide +kernel
theorem d_TC_fileOf_23 : decode c_TC_fileOf 23 = .ok (.areturn, 1) := by decide +kernel
theorem d_TC_lineOf_0 : decode c_TC_lineOf 0 = .ok (.iload_n 1, 1) := by decide +kernel
theorem d_TC_lineOf_1 : decode c_TC_lineOf 1 = .ok (.ifCond .ne 8, 3) := by decide +kernel
theorem d_TC_lineOf_4 : decode c_TC_lineOf 4 = .ok (.aload_n 0, 1) := by decide +kernel
theorem d_TC_lineOf_5 : decode c_TC_lineOf 5 = .ok (.getfield 25, 3) := by decide +kernel
theorem d_TC_lineOf_8 : decode c_TC_lineOf 8 = .ok (.areturn, 1) := by decide +kernel
theorem d_TC_lineOf_9 : decode c_TC_lineOf 9 = .ok (.iload_n 1, 1) := by decide +kernel
theorem d_TC_lineOf_10 : decode c_TC_lineOf 10 = .ok (.iconst 1, 1) := by decide +kernel
theorem d_TC_lineOf_11 : decode c_TC_lineOf 11 = .ok (.if_icmp .ne 10, 3) := by decide +kernel
theorem d_TC_lineOf_14 : decode c_TC_lineOf 14 = .ok (.aload_n 0, 1) := by decide +kernel
theorem d_TC_lineOf_15 : decode c_TC_lineOf 15 = .ok (.getfield 29, 3) := by decide +kernel
theorem d_TC_lineOf_18 : decode c_TC_lineOf 18 = .ok (.goto 4, 3) := by decide +kernel
theorem d_TC_lineOf_21 : decode c_TC_lineOf 21 = .ok (.aconst_null, 1) := by decide +kernel
theorem d_TC_lineOf_22 : decode c_TC_lineOf 22 = .ok (.areturn, 1) := by decide +kernel
theorem d_TC_entryOf_0 : decode c_TC_entryOf 0 = .ok (.iload_n 1, 1) := by decide +kernel
theorem d_TC_entryOf_1 : decode c_TC_entryOf 1 = .ok (.invokestatic 159, 3) := by decide +kernel
theorem d_TC_entryOf_4 : decode c_TC_entryOf 4 = .ok (.ifCond .eq 12, 3) := by decide +kernel
theorem d_TC_entryOf_7 : decode c_TC_entryOf 7 = .ok (.aload_n 0, 1) := by decide +kernel
theorem d_TC_entryOf_8 : decode c_TC_entryOf 8 = .ok (.getfield 34, 3) := by decide +kernel
theorem d_TC_entryOf_11 : decode c_TC_entryOf 11 = .ok (.iload_n 1, 1) := by decide +kernel
theorem d_TC_entryOf_12 : decode c_TC_entryOf 12 = .ok (.aaload, 1) := by decide +kernel
theorem d_TC_entryOf_13 : decode c_TC_entryOf 13 = .ok (.goto 4, 3) := by decide +kernel
theorem d_TC_entryOf_16 : decode c_TC_entryOf 16 = .ok (.aconst_null, 1) := by decide +kernel
theorem d_TC_entryOf_17 : decode c_TC_entryOf 17 = .ok (.areturn, 1) := by decide +kernel
theorem d_TC_tick_0 : decode c_TC_tick 0 = .ok (.aload_n 0, 1) := by decide +kernel
theorem d_TC_tick_1 : decode c_TC_tick 1 = .ok (.dup, 1) := by decide +kernel
theorem d_TC_tick_2 : decode c_TC_tick 2 = .ok (.getfield 56, 3) := by decide +kernel
theorem d_TC_tick_5 : decode c_TC_tick 5 = .ok (.iconst 1, 1) := by decide +kernel
theorem d_TC_tick_6 : decode c_TC_tick 6 = .ok (.iadd, 1) := by decide +kernel
theorem d_TC_tick_7 : decode c_TC_tick 7 = .ok (.putfield 56, 3) := by decide +kernel
theorem d_TC_tick_10 : decode c_TC_tick 10 = .ok (.aload_n 0, 1) := by decide +kernel
theorem d_TC_tick_11 : decode c_TC_tick 11 = .ok (.getfield 56, 3) := by decide +kernel
theorem d_TC_tick_14 : decode c_TC_tick 14 = .ok (.ireturn, 1) := by decide +kernel
theorem d_TC_sendEntries_0 : decode c_TC_sendEntries 0 = .ok (.iconst 0, 1) := by decide +kernel
theorem d_TC_sendEntries_1 : decode c_TC_sendEntries 1 = .ok (.istore_n 1, 1) := by decide +kernel
theorem d_TC_sendEntries_2 : decode c_TC_sendEntries 2 = .ok (.iload_n 1, 1) := by decide +kernel
theorem d_TC_sendEntries_3 : decode c_TC_sendEntries 3 = .ok (.bipush 12, 2) := by decide +kernel
theorem d_TC_sendEntries_5 : decode c_TC_sendEntries 5 = .ok (.if_icmp .ge 60, 3) := by decide +kernel
theorem d_TC_sendEntries_8 : decode c_TC_sendEntries 8 = .ok (.aload_n 0, 1) := by decide +kernel
theorem d_TC_sendEntries_9 : decode c_TC_sendEntries 9 = .ok (.iconst 0, 1) := by decide +kernel
theorem d_TC_sendEntries_10 : decode c_TC_sendEntries 10 = .ok (.iload_n 1, 1) := by decide +kernel
theorem d_TC_sendEntries_11 : decode c_TC_sendEntries 11 = .ok (.invokevirtual 107, 3) := by decide +kernel
theorem d_TC_sendEntries_14 : decode c_TC_sendEntries 14 = .ok (.astore_n 2, 1) := by decide +kernel
theorem d_TC_sendEntries_15 : decode c_TC_sendEntries 15 = .ok (.aload_n 2, 1) := by decide +kernel
theorem d_TC_sendEntries_16 : decode c_TC_sendEntries 16 = .ok (.ifnull 43, 3) := by decide +kernel
theorem d_TC_sendEntries_19 : decode c_TC_sendEntries 19 = .ok (.aload_n 0, 1) := by decide +kernel
theorem d_TC_sendEntries_20 : decode c_TC_sendEntries 20 = .ok (.getfield 18, 3) := by decide +kernel
theorem d_TC_sendEntries_23 : decode c_TC_sendEntries 23 = .ok (.iload_n 1, 1) := by decide +kernel
theorem d_TC_sendEntries_24 : decode c_TC_sendEntries 24 = .ok (.invokevirtual 162, 3) := by decide +kernel
theorem d_TC_sendEntries_27 : decode c_TC_sendEntries 27 = .ok (.ifCond .eq 32, 3) := by decide +kernel
theorem d_TC_sendEntries_30 : decode c_TC_sendEntries 30 = .ok (.aload_n 0, 1) := by decide +kernel
theorem d_TC_sendEntries_31 : decode c_TC_sendEntries 31 = .ok (.getfield 29, 3) := by decide +kernel
theorem d_TC_sendEntries_34 : decode c_TC_sendEntries 34 = .ok (.iconst 1, 1) := by decide +kernel
theorem d_TC_sendEntries_35 : decode c_TC_sendEntries 35 = .ok (.iload_n 1, 1) := by decide +kernel
theorem d_TC_sendEntries_36 : decode c_TC_sendEntries 36 = .ok (.invokevirtual 170, 3) := by decide +kernel
theorem d_TC_sendEntries_39 : decode c_TC_sendEntries 39 = .ok (.astore_n 3, 1) := by decide +kernel
theorem d_TC_sendEntries_40 : decode c_TC_sendEntries 40 = .ok (.aload_n 3, 1) := by decide +kernel
theorem d_TC_sendEntries_41 : decode c_TC_sendEntries 41 = .ok (.aload_n 2, 1) := by decide +kernel
theorem d_TC_sendEntries_42 : decode c_TC_sendEntries 42 = .ok (.getfield 87, 3) := by decide +kernel
theorem d_TC_sendEntries_45 : decode c_TC_sendEntries 45 = .ok (.getfield 152, 3) := by decide +kernel
theorem d_TC_sendEntries_48 : decode c_TC_sendEntries 48 = .ok (.putfield 173, 3) := by decide +kernel
theorem d_TC_sendEntries_51 : decode c_TC_sendEntries 51 = .ok (.aload_n 3, 1) := by decide +kernel
theorem d_TC_sendEntries_52 : decode c_TC_sendEntries 52 = .ok (.aload_n 2, 1) := by decide +kernel
theorem d_TC_sendEntries_53 : decode c_TC_sendEntries 53 = .ok (.getfield 104, 3) := by decide +kernel
theorem d_TC_sendEntries_56 : decode c_TC_sendEntries 56 = .ok (.putfield 176, 3) := by decide +kernel
theorem d_TC_sendEntries_59 : decode c_TC_sendEntries 59 = .ok (.iinc 1 1, 3) := by decide +kernel
theorem d_TC_sendEntries_62 : decode c_TC_sendEntries 62 = .ok (.goto (-60), 3) := by decide +kernel
theorem d_TC_sendEntries_65 : decode c_TC_sendEntries 65 = .ok (.aload_n 0, 1) := by decide +kernel
theorem d_TC_sendEntries_66 : decode c_TC_sendEntries 66 = .ok (.getfield 29, 3) := by decide +kernel
theorem d_TC_sendEntries_69 : decode c_TC_sendEntries 69 = .ok (.iconst 2, 1) := by decide +kernel
theorem d_TC_sendEntries_70 : decode c_TC_sendEntries 70 = .ok (.iconst 0, 1) := by decide +kernel
theorem d_TC_sendEntries_71 : decode c_TC_sendEntries 71 = .ok (.invokevirtual 170, 3) := by decide +kernel
theorem d_TC_sendEntries_74 : decode c_TC_sendEntries 74 = .ok (.pop, 1) := by decide +kernel
theorem d_TC_sendEntries_75 : decode c_TC_sendEntries 75 = .ok (.return_, 1) := by decide +kernel
theorem d_TC_receive_0 : decode c_TC_receive 0 = .ok (.aload_n 1, 1) := by decide +kernel
theorem d_TC_receive_1 : decode c_TC_receive 1 = .ok (.getfield 134, 3) := by decide +kernel
theorem d_TC_receive_4 : decode c_TC_receive 4 = .ok (.tableswitch 70 1 5 #[36, 44, 70, 51, 59], 36) := by decide +kernel
theorem d_TC_receive_40 : decode c_TC_receive 40 = .ok (.aload_n 0, 1) := by decide +kernel
theorem d_TC_receive_41 : decode c_TC_receive 41 = .ok (.aload_n 1, 1) := by decide +kernel
theorem d_TC_receive_42 : decode c_TC_receive 42 = .ok (.invokevirtual 179, 3) := by decide +kernel
theorem d_TC_receive_45 : decode c_TC_receive 45 = .ok (.goto 29, 3) := by decide +kernel
theorem d_TC_receive_48 : decode c_TC_receive 48 = .ok (.aload_n 0, 1) := by decide +kernel
theorem d_TC_receive_49 : decode c_TC_receive 49 = .ok (.invokevirtual 182, 3) := by decide +kernel
theorem d_TC_receive_52 : decode c_TC_receive 52 = .ok (.goto 22, 3) := by decide +kernel
theorem d_TC_receive_55 : decode c_TC_receive 55 = .ok (.aload_n 0, 1) := by decide +kernel
theorem d_TC_receive_56 : decode c_TC_receive 56 = .ok (.aload_n 1, 1) := by decide +kernel
theorem d_TC_receive_57 : decode c_TC_receive 57 = .ok (.invokevirtual 185, 3) := by decide +kernel
theorem d_TC_receive_60 : decode c_TC_receive 60 = .ok (.goto 14, 3) := by decide +kernel
theorem d_TC_receive_63 : decode c_TC_receive 63 = .ok (.aload_n 0, 1) := by decide +kernel
theorem d_TC_receive_64 : decode c_TC_receive 64 = .ok (.aload_n 1, 1) := by decide +kernel
theorem d_TC_receive_65 : decode c_TC_receive 65 = .ok (.getfield 188, 3) := by decide +kernel
theorem d_TC_receive_68 : decode c_TC_receive 68 = .ok (.invokevirtual 191, 3) := by decide +kernel
theorem d_TC_receive_71 : decode c_TC_receive 71 = .ok (.goto 3, 3) := by decide +kernel
theorem d_TC_receive_74 : decode c_TC_receive 74 = .ok (.aload_n 1, 1) := by decide +kernel
theorem d_TC_receive_75 : decode c_TC_receive 75 = .ok (.getfield 134, 3) := by decide +kernel
theorem d_TC_receive_78 : decode c_TC_receive 78 = .ok (.iconst 1, 1) := by decide +kernel
theorem d_TC_receive_79 : decode c_TC_receive 79 = .ok (.if_icmp .eq 14, 3) := by decide +kernel
theorem d_TC_receive_82 : decode c_TC_receive 82 = .ok (.aload_n 0, 1) := by decide +kernel
theorem d_TC_receive_83 : decode c_TC_receive 83 = .ok (.invokevirtual 194, 3) := by decide +kernel
theorem d_TC_receive_86 : decode c_TC_receive 86 = .ok (.ifCond .ne 7, 3) := by decide +kernel
theorem d_TC_receive_89 : decode c_TC_receive 89 = .ok (.aload_n 0, 1) := by decide +kernel
theorem d_TC_receive_90 : decode c_TC_receive 90 = .ok (.invokevirtual 197, 3) := by decide +kernel
theorem d_TC_receive_93 : decode c_TC_receive 93 = .ok (.return_, 1) := by decide +kernel
theorem d_TC_noteEntry_0 : decode c_TC_noteEntry 0 = .ok (.aload_n 0, 1) := by decide +kernel
theorem d_TC_noteEntry_1 : decode c_TC_noteEntry 1 = .ok (.aload_n 1, 1) := by decide +kernel
theorem d_TC_noteEntry_2 : decode c_TC_noteEntry 2 = .ok (.getfield 188, 3) := by decide +kernel
theorem d_TC_noteEntry_5 : decode c_TC_noteEntry 5 = .ok (.invokevirtual 200, 3) := by decide +kernel
theorem d_TC_noteEntry_8 : decode c_TC_noteEntry 8 = .ok (.astore_n 2, 1) := by decide +kernel
theorem d_TC_noteEntry_9 : decode c_TC_noteEntry 9 = .ok (.aload_n 2, 1) := by decide +kernel
theorem d_TC_noteEntry_10 : decode c_TC_noteEntry 10 = .ok (.ifnull 24, 3) := by decide +kernel
theorem d_TC_noteEntry_13 : decode c_TC_noteEntry 13 = .ok (.aload_n 2, 1) := by decide +kernel
theorem d_TC_noteEntry_14 : decode c_TC_noteEntry 14 = .ok (.iconst 1, 1) := by decide +kernel
theorem d_TC_noteEntry_15 : decode c_TC_noteEntry 15 = .ok (.putfield 204, 3) := by decide +kernel
theorem d_TC_noteEntry_18 : decode c_TC_noteEntry 18 = .ok (.aload_n 2, 1) := by decide +kernel
theorem d_TC_noteEntry_19 : decode c_TC_noteEntry 19 = .ok (.aload_n 1, 1) := by decide +kernel
theorem d_TC_noteEntry_20 : decode c_TC_noteEntry 20 = .ok (.getfield 173, 3) := by decide +kernel
theorem d_TC_noteEntry_23 : decode c_TC_noteEntry 23 = .ok (.putfield 207, 3) := by decide +kernel
theorem d_TC_noteEntry_26 : decode c_TC_noteEntry 26 = .ok (.aload_n 2, 1) := by decide +kernel
theorem d_TC_noteEntry_27 : decode c_TC_noteEntry 27 = .ok (.aload_n 1, 1) := by decide +kernel
theorem d_TC_noteEntry_28 : decode c_TC_noteEntry 28 = .ok (.getfield 176, 3) := by decide +kernel
theorem d_TC_noteEntry_31 : decode c_TC_noteEntry 31 = .ok (.putfield 208, 3) := by decide +kernel
theorem d_TC_noteEntry_34 : decode c_TC_noteEntry 34 = .ok (.return_, 1) := by decide +kernel
theorem d_TC_openEntries_0 : decode c_TC_openEntries 0 = .ok (.iconst 0, 1) := by decide +kernel
theorem d_TC_openEntries_1 : decode c_TC_openEntries 1 = .ok (.istore_n 1, 1) := by decide +kernel
theorem d_TC_openEntries_2 : decode c_TC_openEntries 2 = .ok (.iload_n 1, 1) := by decide +kernel
theorem d_TC_openEntries_3 : decode c_TC_openEntries 3 = .ok (.bipush 12, 2) := by decide +kernel
theorem d_TC_openEntries_5 : decode c_TC_openEntries 5 = .ok (.if_icmp .ge 63, 3) := by decide +kernel
theorem d_TC_openEntries_8 : decode c_TC_openEntries 8 = .ok (.aload_n 0, 1) := by decide +kernel
theorem d_TC_openEntries_9 : decode c_TC_openEntries 9 = .ok (.getfield 34, 3) := by decide +kernel
theorem d_TC_openEntries_12 : decode c_TC_openEntries 12 = .ok (.iload_n 1, 1) := by decide +kernel
theorem d_TC_openEntries_13 : decode c_TC_openEntries 13 = .ok (.aaload, 1) := by decide +kernel
theorem d_TC_openEntries_14 : decode c_TC_openEntries 14 = .ok (.astore_n 2, 1) := by decide +kernel
theorem d_TC_openEntries_15 : decode c_TC_openEntries 15 = .ok (.aload_n 2, 1) := by decide +kernel
theorem d_TC_openEntries_16 : decode c_TC_openEntries 16 = .ok (.getfield 204, 3) := by decide +kernel
theorem d_TC_openEntries_19 : decode c_TC_openEntries 19 = .ok (.ifCond .ne 6, 3) := by decide +kernel
theorem d_TC_openEntries_22 : decode c_TC_openEntries 22 = .ok (.goto 40, 3) := by decide +kernel
theorem d_TC_openEntries_25 : decode c_TC_openEntries 25 = .ok (.aload_n 2, 1) := by decide +kernel
theorem d_TC_openEntries_26 : decode c_TC_openEntries 26 = .ok (.aload_n 0, 1) := by decide +kernel
theorem d_TC_openEntries_27 : decode c_TC_openEntries 27 = .ok (.iconst 1, 1) := by decide +kernel
theorem d_TC_openEntries_28 : decode c_TC_openEntries 28 = .ok (.iload_n 1, 1) := by decide +kernel
theorem d_TC_openEntries_29 : decode c_TC_openEntries 29 = .ok (.invokevirtual 107, 3) := by decide +kernel
theorem d_TC_openEntries_32 : decode c_TC_openEntries 32 = .ok (.invokevirtual 209, 3) := by decide +kernel
theorem d_TC_openEntries_35 : decode c_TC_openEntries 35 = .ok (.ifCond .eq 16, 3) := by decide +kernel
theorem d_TC_openEntries_38 : decode c_TC_openEntries 38 = .ok (.aload_n 0, 1) := by decide +kernel
theorem d_TC_openEntries_39 : decode c_TC_openEntries 39 = .ok (.getfield 52, 3) := by decide +kernel
theorem d_TC_openEntries_42 : decode c_TC_openEntries 42 = .ok (.iconst 5, 1) := by decide +kernel
theorem d_TC_openEntries_43 : decode c_TC_openEntries 43 = .ok (.dup2, 1) := by decide +kernel
theorem d_TC_openEntries_44 : decode c_TC_openEntries 44 = .ok (.iaload, 1) := by decide +kernel
theorem d_TC_openEntries_45 : decode c_TC_openEntries 45 = .ok (.iconst 1, 1) := by decide +kernel
theorem d_TC_openEntries_46 : decode c_TC_openEntries 46 = .ok (.iadd, 1) := by decide +kernel
theorem d_TC_openEntries_47 : decode c_TC_openEntries 47 = .ok (.iastore, 1) := by decide +kernel
theorem d_TC_openEntries_48 : decode c_TC_openEntries 48 = .ok (.goto 14, 3) := by decide +kernel
theorem d_TC_openEntries_51 : decode c_TC_openEntries 51 = .ok (.aload_n 2, 1) := by decide +kernel
theorem d_TC_openEntries_52 : decode c_TC_openEntries 52 = .ok (.iconst 1, 1) := by decide +kernel
theorem d_TC_openEntries_53 : decode c_TC_openEntries 53 = .ok (.putfield 213, 3) := by decide +kernel
theorem d_TC_openEntries_56 : decode c_TC_openEntries 56 = .ok (.aload_n 0, 1) := by decide +kernel
theorem d_TC_openEntries_57 : decode c_TC_openEntries 57 = .ok (.iload_n 1, 1) := by decide +kernel
theorem d_TC_openEntries_58 : decode c_TC_openEntries 58 = .ok (.iconst 1, 1) := by decide +kernel
theorem d_TC_openEntries_59 : decode c_TC_openEntries 59 = .ok (.invokevirtual 216, 3) := by decide +kernel
theorem d_TC_openEntries_62 : decode c_TC_openEntries 62 = .ok (.iinc 1 1, 3) := by decide +kernel
theorem d_TC_openEntries_65 : decode c_TC_openEntries 65 = .ok (.goto (-63), 3) := by decide +kernel
theorem d_TC_openEntries_68 : decode c_TC_openEntries 68 = .ok (.return_, 1) := by decide +kernel
theorem d_TC_hasOpenEntry_0 : decode c_TC_hasOpenEntry 0 = .ok (.iconst 0, 1) := by decide +kernel
theorem d_TC_hasOpenEntry_1 : decode c_TC_hasOpenEntry 1 = .ok (.istore_n 1, 1) := by decide +kernel
theorem d_TC_hasOpenEntry_2 : decode c_TC_hasOpenEntry 2 = .ok (.iload_n 1, 1) := by decide +kernel
theorem d_TC_hasOpenEntry_3 : decode c_TC_hasOpenEntry 3 = .ok (.bipush 12, 2) := by decide +kernel
theorem d_TC_hasOpenEntry_5 : decode c_TC_hasOpenEntry 5 = .ok (.if_icmp .ge 23, 3) := by decide +kernel
theorem d_TC_hasOpenEntry_8 : decode c_TC_hasOpenEntry 8 = .ok (.aload_n 0, 1) := by decide +kernel
theorem d_TC_hasOpenEntry_9 : decode c_TC_hasOpenEntry 9 = .ok (.getfield 34, 3) := by decide +kernel
theorem d_TC_hasOpenEntry_12 : decode c_TC_hasOpenEntry 12 = .ok (.iload_n 1, 1) := by decide +kernel
theorem d_TC_hasOpenEntry_13 : decode c_TC_hasOpenEntry 13 = .ok (.aaload, 1) := by decide +kernel
theorem d_TC_hasOpenEntry_14 : decode c_TC_hasOpenEntry 14 = .ok (.getfield 213, 3) := by decide +kernel
theorem d_TC_hasOpenEntry_17 : decode c_TC_hasOpenEntry 17 = .ok (.ifCond .eq 5, 3) := by decide +kernel
theorem d_TC_hasOpenEntry_20 : decode c_TC_hasOpenEntry 20 = .ok (.iconst 1, 1) := by decide +kernel
theorem d_TC_hasOpenEntry_21 : decode c_TC_hasOpenEntry 21 = .ok (.ireturn, 1) := by decide +kernel
theorem d_TC_hasOpenEntry_22 : decode c_TC_hasOpenEntry 22 = .ok (.iinc 1 1, 3) := by decide +kernel
theorem d_TC_hasOpenEntry_25 : decode c_TC_hasOpenEntry 25 = .ok (.goto (-23), 3) := by decide +kernel
theorem d_TC_hasOpenEntry_28 : decode c_TC_hasOpenEntry 28 = .ok (.iconst 0, 1) := by decide +kernel
theorem d_TC_hasOpenEntry_29 : decode c_TC_hasOpenEntry 29 = .ok (.ireturn, 1) := by decide +kernel
theorem d_TC_sendSignature_0 : decode c_TC_sendSignature 0 = .ok (.aload_n 0, 1) := by decide +kernel
theorem d_TC_sendSignature_1 : decode c_TC_sendSignature 1 = .ok (.iconst 1, 1) := by decide +kernel
theorem d_TC_sendSignature_2 : decode c_TC_sendSignature 2 = .ok (.iload_n 1, 1) := by decide +kernel
theorem d_TC_sendSignature_3 : decode c_TC_sendSignature 3 = .ok (.invokevirtual 80, 3) := by decide +kernel
theorem d_TC_sendSignature_6 : decode c_TC_sendSignature 6 = .ok (.astore_n 3, 1) := by decide +kernel
theorem d_TC_sendSignature_7 : decode c_TC_sendSignature 7 = .ok (.aload_n 3, 1) := by decide +kernel
theorem d_TC_sendSignature_8 : decode c_TC_sendSignature 8 = .ok (.ifnonnull 4, 3) := by decide +kernel
theorem d_TC_sendSignature_11 : decode c_TC_sendSignature 11 = .ok (.return_, 1) := by decide +kernel
theorem d_TC_sendSignature_12 : decode c_TC_sendSignature 12 = .ok (.aload_n 0, 1) := by decide +kernel
theorem d_TC_sendSignature_13 : decode c_TC_sendSignature 13 = .ok (.getfield 25, 3) := by decide +kernel
theorem d_TC_sendSignature_16 : decode c_TC_sendSignature 16 = .ok (.iconst 3, 1) := by decide +kernel
theorem d_TC_sendSignature_17 : decode c_TC_sendSignature 17 = .ok (.iload_n 1, 1) := by decide +kernel
theorem d_TC_sendSignature_18 : decode c_TC_sendSignature 18 = .ok (.invokevirtual 170, 3) := by decide +kernel
theorem d_TC_sendSignature_21 : decode c_TC_sendSignature 21 = .ok (.astore 4, 2) := by decide +kernel
theorem d_TC_sendSignature_23 : decode c_TC_sendSignature 23 = .ok (.aload 4, 2) := by decide +kernel
theorem d_TC_sendSignature_25 : decode c_TC_sendSignature 25 = .ok (.iload_n 2, 1) := by decide +kernel
theorem d_TC_sendSignature_26 : decode c_TC_sendSignature 26 = .ok (.putfield 219, 3) := by decide +kernel
theorem d_TC_sendSignature_29 : decode c_TC_sendSignature 29 = .ok (.aload_n 0, 1) := by decide +kernel
theorem d_TC_sendSignature_30 : decode c_TC_sendSignature 30 = .ok (.getfield 67, 3) := by decide +kernel
theorem d_TC_sendSignature_33 : decode c_TC_sendSignature 33 = .ok (.iconst 1, 1) := by decide +kernel
theorem d_TC_sendSignature_34 : decode c_TC_sendSignature 34 = .ok (.if_icmp .ge 7, 3) := by decide +kernel
theorem d_TC_sendSignature_37 : decode c_TC_sendSignature 37 = .ok (.iconst 0, 1) := by decide +kernel
theorem d_TC_sendSignature_38 : decode c_TC_sendSignature 38 = .ok (.goto 15, 3) := by decide +kernel
theorem d_TC_sendSignature_41 : decode c_TC_sendSignature 41 = .ok (.aload_n 3, 1) := by decide +kernel
theorem d_TC_sendSignature_42 : decode c_TC_sendSignature 42 = .ok (.getfield 87, 3) := by decide +kernel
theorem d_TC_sendSignature_45 : decode c_TC_sendSignature 45 = .ok (.getfield 152, 3) := by decide +kernel
theorem d_TC_sendSignature_48 : decode c_TC_sendSignature 48 = .ok (.aload_n 0, 1) := by decide +kernel
theorem d_TC_sendSignature_49 : decode c_TC_sendSignature 49 = .ok (.getfield 67, 3) := by decide +kernel
theorem d_TC_sendSignature_52 : decode c_TC_sendSignature 52 = .ok (.idiv, 1) := by decide +kernel
theorem d_TC_sendSignature_53 : decode c_TC_sendSignature 53 = .ok (.istore 5, 2) := by decide +kernel
theorem d_TC_sendSignature_55 : decode c_TC_sendSignature 55 = .ok (.iconst 0, 1) := by decide +kernel
theorem d_TC_sendSignature_56 : decode c_TC_sendSignature 56 = .ok (.istore 6, 2) := by decide +kernel
theorem d_TC_sendSignature_58 : decode c_TC_sendSignature 58 = .ok (.iload 6, 2) := by decide +kernel
theorem d_TC_sendSignature_60 : decode c_TC_sendSignature 60 = .ok (.iload 5, 2) := by decide +kernel
theorem d_TC_sendSignature_62 : decode c_TC_sendSignature 62 = .ok (.if_icmp .ge 33, 3) := by decide +kernel
theorem d_TC_sendSignature_65 : decode c_TC_sendSignature 65 = .ok (.aload 4, 2) := by decide +kernel
theorem d_TC_sendSignature_67 : decode c_TC_sendSignature 67 = .ok (.aload_n 3, 1) := by decide +kernel
theorem d_TC_sendSignature_68 : decode c_TC_sendSignature 68 = .ok (.getfield 87, 3) := by decide +kernel
theorem d_TC_sendSignature_71 : decode c_TC_sendSignature 71 = .ok (.iload 6, 2) := by decide +kernel
theorem d_TC_sendSignature_73 : decode c_TC_sendSignature 73 = .ok (.aload_n 0, 1) := by decide +kernel
theorem d_TC_sendSignature_74 : decode c_TC_sendSignature 74 = .ok (.getfield 67, 3) := by decide +kernel
theorem d_TC_sendSignature_77 : decode c_TC_sendSignature 77 = .ok (.imul, 1) := by decide +kernel
theorem d_TC_sendSignature_78 : decode c_TC_sendSignature 78 = .ok (.aload_n 0, 1) := by decide +kernel
theorem d_TC_sendSignature_79 : decode c_TC_sendSignature 79 = .ok (.getfield 67, 3) := by decide +kernel
theorem d_TC_sendSignature_82 : decode c_TC_sendSignature 82 = .ok (.iload_n 2, 1) := by decide +kernel
theorem d_TC_sendSignature_83 : decode c_TC_sendSignature 83 = .ok (.invokevirtual 222, 3) := by decide +kernel
theorem d_TC_sendSignature_86 : decode c_TC_sendSignature 86 = .ok (.invokevirtual 226, 3) := by decide +kernel
theorem d_TC_sendSignature_89 : decode c_TC_sendSignature 89 = .ok (.iinc 6 1, 3) := by decide +kernel
theorem d_TC_sendSignature_92 : decode c_TC_sendSignature 92 = .ok (.goto (-34), 3) := by decide +kernel
theorem d_TC_sendSignature_95 : decode c_TC_sendSignature 95 = .ok (.return_, 1) := by decide +kernel
theorem d_TC_answerSignature_0 : decode c_TC_answerSignature 0 = .ok (.aload_n 0, 1) := by decide +kernel
theorem d_TC_answerSignature_1 : decode c_TC_answerSignature 1 = .ok (.iconst 0, 1) := by decide +kernel
theorem d_TC_answerSignature_2 : decode c_TC_answerSignature 2 = .ok (.aload_n 1, 1) := by decide +kernel
theorem d_TC_answerSignature_3 : decode c_TC_answerSignature 3 = .ok (.getfield 188, 3) := by decide +kernel
theorem d_TC_answerSignature_6 : decode c_TC_answerSignature 6 = .ok (.invokevirtual 107, 3) := by decide +kernel
theorem d_TC_answerSignature_9 : decode c_TC_answerSignature 9 = .ok (.astore_n 2, 1) := by decide +kernel
theorem d_TC_answerSignature_10 : decode c_TC_answerSignature 10 = .ok (.aload_n 2, 1) := by decide +kernel
theorem d_TC_answerSignature_11 : decode c_TC_answerSignature 11 = .ok (.ifnonnull 17, 3) := by decide +kernel
theorem d_TC_answerSignature_14 : decode c_TC_answerSignature 14 = .ok (.aload_n 0, 1) := by decide +kernel
theorem d_TC_answerSignature_15 : decode c_TC_answerSignature 15 = .ok (.getfield 29, 3) := by decide +kernel
theorem d_TC_answerSignature_18 : decode c_TC_answerSignature 18 = .ok (.iconst 5, 1) := by decide +kernel
theorem d_TC_answerSignature_19 : decode c_TC_answerSignature 19 = .ok (.aload_n 1, 1) := by decide +kernel
theorem d_TC_answerSignature_20 : decode c_TC_answerSignature 20 = .ok (.getfield 188, 3) := by decide +kernel
theorem d_TC_answerSignature_23 : decode c_TC_answerSignature 23 = .ok (.invokevirtual 170, 3) := by decide +kernel
theorem d_TC_answerSignature_26 : decode c_TC_answerSignature 26 = .ok (.pop, 1) := by decide +kernel
theorem d_TC_answerSignature_27 : decode c_TC_answerSignature 27 = .ok (.return_, 1) := by decide +kernel
theorem d_TC_answerSignature_28 : decode c_TC_answerSignature 28 = .ok (.aload_n 0, 1) := by decide +kernel
theorem d_TC_answerSignature_29 : decode c_TC_answerSignature 29 = .ok (.getfield 29, 3) := by decide +kernel
theorem d_TC_answerSignature_32 : decode c_TC_answerSignature 32 = .ok (.iconst 4, 1) := by decide +kernel
theorem d_TC_answerSignature_33 : decode c_TC_answerSignature 33 = .ok (.aload_n 1, 1) := by decide +kernel
theorem d_TC_answerSignature_34 : decode c_TC_answerSignature 34 = .ok (.getfield 188, 3) := by decide +kernel
theorem d_TC_answerSignature_37 : decode c_TC_answerSignature 37 = .ok (.invokevirtual 170, 3) := by decide +kernel
theorem d_TC_answerSignature_40 : decode c_TC_answerSignature 40 = .ok (.astore_n 3, 1) := by decide +kernel
theorem d_TC_answerSignature_41 : decode c_TC_answerSignature 41 = .ok (.aload_n 3, 1) := by decide +kernel
theorem d_TC_answerSignature_42 : decode c_TC_answerSignature 42 = .ok (.aload_n 1, 1) := by decide +kernel
theorem d_TC_answerSignature_43 : decode c_TC_answerSignature 43 = .ok (.getfield 219, 3) := by decide +kernel
theorem d_TC_answerSignature_46 : decode c_TC_answerSignature 46 = .ok (.putfield 219, 3) := by decide +kernel
theorem d_TC_answerSignature_49 : decode c_TC_answerSignature 49 = .ok (.aload_n 3, 1) := by decide +kernel
theorem d_TC_answerSignature_50 : decode c_TC_answerSignature 50 = .ok (.aload_n 2, 1) := by decide +kernel
theorem d_TC_answerSignature_51 : decode c_TC_answerSignature 51 = .ok (.getfield 87, 3) := by decide +kernel
theorem d_TC_answerSignature_54 : decode c_TC_answerSignature 54 = .ok (.invokevirtual 229, 3) := by decide +kernel
theorem d_TC_answerSignature_57 : decode c_TC_answerSignature 57 = .ok (.putfield 232, 3) := by decide +kernel
theorem d_TC_answerSignature_60 : decode c_TC_answerSignature 60 = .ok (.aload_n 0, 1) := by decide +kernel
theorem d_TC_answerSignature_61 : decode c_TC_answerSignature 61 = .ok (.aload_n 3, 1) := by decide +kernel
theorem d_TC_answerSignature_62 : decode c_TC_answerSignature 62 = .ok (.aload_n 2, 1) := by decide +kernel
theorem d_TC_answerSignature_63 : decode c_TC_answerSignature 63 = .ok (.getfield 87, 3) := by decide +kernel
theorem d_TC_answerSignature_66 : decode c_TC_answerSignature 66 = .ok (.aload_n 1, 1) := by decide +kernel
theorem d_TC_answerSignature_67 : decode c_TC_answerSignature 67 = .ok (.invokevirtual 234, 3) := by decide +kernel
theorem d_TC_answerSignature_70 : decode c_TC_answerSignature 70 = .ok (.return_, 1) := by decide +kernel
theorem d_TC_fillDelta_0 : decode c_TC_fillDelta 0 = .ok (.iconst 0, 1) := by decide +kernel
theorem d_TC_fillDelta_1 : decode c_TC_fillDelta 1 = .ok (.istore 4, 2) := by decide +kernel
theorem d_TC_fillDelta_3 : decode c_TC_fillDelta 3 = .ok (.iconst 0, 1) := by decide +kernel
theorem d_TC_fillDelta_4 : decode c_TC_fillDelta 4 = .ok (.istore 5, 2) := by decide +kernel
theorem d_TC_fillDelta_6 : decode c_TC_fillDelta 6 = .ok (.iload 5, 2) := by decide +kernel
theorem d_TC_fillDelta_8 : decode c_TC_fillDelta 8 = .ok (.aload_n 2, 1) := by decide +kernel
theorem d_TC_fillDelta_9 : decode c_TC_fillDelta 9 = .ok (.getfield 152, 3) := by decide +kernel
theorem d_TC_fillDelta_12 : decode c_TC_fillDelta 12 = .ok (.if_icmp .ge 87, 3) := by decide +kernel
theorem d_TC_fillDelta_15 : decode c_TC_fillDelta 15 = .ok (.iload 5, 2) := by decide +kernel
theorem d_TC_fillDelta_17 : decode c_TC_fillDelta 17 = .ok (.iload 4, 2) := by decide +kernel
theorem d_TC_fillDelta_19 : decode c_TC_fillDelta 19 = .ok (.if_icmp .ge 6, 3) := by decide +kernel
theorem d_TC_fillDelta_22 : decode c_TC_fillDelta 22 = .ok (.goto 71, 3) := by decide +kernel
theorem d_TC_fillDelta_25 : decode c_TC_fillDelta 25 = .ok (.aload_n 0, 1) := by decide +kernel
theorem d_TC_fillDelta_26 : decode c_TC_fillDelta 26 = .ok (.aload_n 2, 1) := by decide +kernel
theorem d_TC_fillDelta_27 : decode c_TC_fillDelta 27 = .ok (.iload 5, 2) := by decide +kernel
theorem d_TC_fillDelta_29 : decode c_TC_fillDelta 29 = .ok (.aload_n 3, 1) := by decide +kernel
theorem d_TC_fillDelta_30 : decode c_TC_fillDelta 30 = .ok (.invokevirtual 238, 3) := by decide +kernel
theorem d_TC_fillDelta_33 : decode c_TC_fillDelta 33 = .ok (.istore 6, 2) := by decide +kernel
theorem d_TC_fillDelta_35 : decode c_TC_fillDelta 35 = .ok (.iload 6, 2) := by decide +kernel
theorem d_TC_fillDelta_37 : decode c_TC_fillDelta 37 = .ok (.iconst (-1), 1) := by decide +kernel
theorem d_TC_fillDelta_38 : decode c_TC_fillDelta 38 = .ok (.if_icmp .ne 26, 3) := by decide +kernel
theorem d_TC_fillDelta_41 : decode c_TC_fillDelta 41 = .ok (.aload_n 1, 1) := by decide +kernel
theorem d_TC_fillDelta_42 : decode c_TC_fillDelta 42 = .ok (.aload_n 2, 1) := by decide +kernel
theorem d_TC_fillDelta_43 : decode c_TC_fillDelta 43 = .ok (.iload 5, 2) := by decide +kernel
theorem d_TC_fillDelta_45 : decode c_TC_fillDelta 45 = .ok (.invokevirtual 155, 3) := by decide +kernel
theorem d_TC_fillDelta_48 : decode c_TC_fillDelta 48 = .ok (.invokevirtual 226, 3) := by decide +kernel
theorem d_TC_fillDelta_51 : decode c_TC_fillDelta 51 = .ok (.aload_n 0, 1) := by decide +kernel
theorem d_TC_fillDelta_52 : decode c_TC_fillDelta 52 = .ok (.getfield 52, 3) := by decide +kernel
theorem d_TC_fillDelta_55 : decode c_TC_fillDelta 55 = .ok (.iconst 0, 1) := by decide +kernel
theorem d_TC_fillDelta_56 : decode c_TC_fillDelta 56 = .ok (.dup2, 1) := by decide +kernel
theorem d_TC_fillDelta_57 : decode c_TC_fillDelta 57 = .ok (.iaload, 1) := by decide +kernel
theorem d_TC_fillDelta_58 : decode c_TC_fillDelta 58 = .ok (.iconst 1, 1) := by decide +kernel
theorem d_TC_fillDelta_59 : decode c_TC_fillDelta 59 = .ok (.iadd, 1) := by decide +kernel
theorem d_TC_fillDelta_60 : decode c_TC_fillDelta 60 = .ok (.iastore, 1) := by decide +kernel
theorem d_TC_fillDelta_61 : decode c_TC_fillDelta 61 = .ok (.goto 32, 3) := by decide +kernel
theorem d_TC_fillDelta_64 : decode c_TC_fillDelta 64 = .ok (.aload_n 1, 1) := by decide +kernel
theorem d_TC_fillDelta_65 : decode c_TC_fillDelta 65 = .ok (.sipush 256, 3) := by decide +kernel
theorem d_TC_fillDelta_68 : decode c_TC_fillDelta 68 = .ok (.iload 6, 2) := by decide +kernel
theorem d_TC_fillDelta_70 : decode c_TC_fillDelta 70 = .ok (.iadd, 1) := by decide +kernel
theorem d_TC_fillDelta_71 : decode c_TC_fillDelta 71 = .ok (.invokevirtual 226, 3) := by decide +kernel
theorem d_TC_fillDelta_74 : decode c_TC_fillDelta 74 = .ok (.aload_n 0, 1) := by decide +kernel
theorem d_TC_fillDelta_75 : decode c_TC_fillDelta 75 = .ok (.getfield 52, 3) := by decide +kernel
theorem d_TC_fillDelta_78 : decode c_TC_fillDelta 78 = .ok (.iconst 1, 1) := by decide +kernel
theorem d_TC_fillDelta_79 : decode c_TC_fillDelta 79 = .ok (.dup2, 1) := by decide +kernel
theorem d_TC_fillDelta_80 : decode c_TC_fillDelta 80 = .ok (.iaload, 1) := by decide +kernel
theorem d_TC_fillDelta_81 : decode c_TC_fillDelta 81 = .ok (.iconst 1, 1) := by decide +kernel
theorem d_TC_fillDelta_82 : decode c_TC_fillDelta 82 = .ok (.iadd, 1) := by decide +kernel
theorem d_TC_fillDelta_83 : decode c_TC_fillDelta 83 = .ok (.iastore, 1) := by decide +kernel
theorem d_TC_fillDelta_84 : decode c_TC_fillDelta 84 = .ok (.iload 5, 2) := by decide +kernel
theorem d_TC_fillDelta_86 : decode c_TC_fillDelta 86 = .ok (.aload_n 0, 1) := by decide +kernel
theorem d_TC_fillDelta_87 : decode c_TC_fillDelta 87 = .ok (.getfield 67, 3) := by decide +kernel
theorem d_TC_fillDelta_90 : decode c_TC_fillDelta 90 = .ok (.iadd, 1) := by decide +kernel
theorem d_TC_fillDelta_91 : decode c_TC_fillDelta 91 = .ok (.istore 4, 2) := by decide +kernel
theorem d_TC_fillDelta_93 : decode c_TC_fillDelta 93 = .ok (.iinc 5 1, 3) := by decide +kernel
theorem d_TC_fillDelta_96 : decode c_TC_fillDelta 96 = .ok (.goto (-90), 3) := by decide +kernel
theorem d_TC_fillDelta_99 : decode c_TC_fillDelta 99 = .ok (.return_, 1) := by decide +kernel
theorem d_TC_findBlock_0 : decode c_TC_findBlock 0 = .ok (.iload_n 2, 1) := by decide +kernel
theorem d_TC_findBlock_1 : decode c_TC_findBlock 1 = .ok (.aload_n 0, 1) := by decide +kernel
theorem d_TC_findBlock_2 : decode c_TC_findBlock 2 = .ok (.getfield 67, 3) := by decide +kernel
theorem d_TC_findBlock_5 : decode c_TC_findBlock 5 = .ok (.iadd, 1) := by decide +kernel
theorem d_TC_findBlock_6 : decode c_TC_findBlock 6 = .ok (.aload_n 1, 1) := by decide +kernel
theorem d_TC_findBlock_7 : decode c_TC_findBlock 7 = .ok (.getfield 152, 3) := by decide +kernel
theorem d_TC_findBlock_10 : decode c_TC_findBlock 10 = .ok (.if_icmp .le 5, 3) := by decide +kernel
theorem d_TC_findBlock_13 : decode c_TC_findBlock 13 = .ok (.iconst (-1), 1) := by decide +kernel
theorem d_TC_findBlock_14 : decode c_TC_findBlock 14 = .ok (.ireturn, 1) := by decide +kernel
theorem d_TC_findBlock_15 : decode c_TC_findBlock 15 = .ok (.aload_n 1, 1) := by decide +kernel
theorem d_TC_findBlock_16 : decode c_TC_findBlock 16 = .ok (.iload_n 2, 1) := by decide +kernel
theorem d_TC_findBlock_17 : decode c_TC_findBlock 17 = .ok (.aload_n 0, 1) := by decide +kernel
theorem d_TC_findBlock_18 : decode c_TC_findBlock 18 = .ok (.getfield 67, 3) := by decide +kernel
theorem d_TC_findBlock_21 : decode c_TC_findBlock 21 = .ok (.aload_n 3, 1) := by decide +kernel
theorem d_TC_findBlock_22 : decode c_TC_findBlock 22 = .ok (.getfield 219, 3) := by decide +kernel
theorem d_TC_findBlock_25 : decode c_TC_findBlock 25 = .ok (.invokevirtual 222, 3) := by decide +kernel
theorem d_TC_findBlock_28 : decode c_TC_findBlock 28 = .ok (.istore 4, 2) := by decide +kernel
theorem d_TC_findBlock_30 : decode c_TC_findBlock 30 = .ok (.iconst 0, 1) := by decide +kernel
theorem d_TC_findBlock_31 : decode c_TC_findBlock 31 = .ok (.istore 5, 2) := by decide +kernel
theorem d_TC_findBlock_33 : decode c_TC_findBlock 33 = .ok (.iload 5, 2) := by decide +kernel
theorem d_TC_findBlock_35 : decode c_TC_findBlock 35 = .ok (.aload_n 3, 1) := by decide +kernel
theorem d_TC_findBlock_36 : decode c_TC_findBlock 36 = .ok (.getfield 242, 3) := by decide +kernel
theorem d_TC_findBlock_39 : decode c_TC_findBlock 39 = .ok (.if_icmp .ge 24, 3) := by decide +kernel
theorem d_TC_findBlock_42 : decode c_TC_findBlock 42 = .ok (.aload_n 3, 1) := by decide +kernel
theorem d_TC_findBlock_43 : decode c_TC_findBlock 43 = .ok (.getfield 245, 3) := by decide +kernel
theorem d_TC_findBlock_46 : decode c_TC_findBlock 46 = .ok (.iload 5, 2) := by decide +kernel
theorem d_TC_findBlock_48 : decode c_TC_findBlock 48 = .ok (.iaload, 1) := by decide +kernel
theorem d_TC_findBlock_49 : decode c_TC_findBlock 49 = .ok (.iload 4, 2) := by decide +kernel
theorem d_TC_findBlock_51 : decode c_TC_findBlock 51 = .ok (.if_icmp .ne 6, 3) := by decide +kernel
theorem d_TC_findBlock_54 : decode c_TC_findBlock 54 = .ok (.iload 5, 2) := by decide +kernel
theorem d_TC_findBlock_56 : decode c_TC_findBlock 56 = .ok (.ireturn, 1) := by decide +kernel
theorem d_TC_findBlock_57 : decode c_TC_findBlock 57 = .ok (.iinc 5 1, 3) := by decide +kernel
theorem d_TC_findBlock_60 : decode c_TC_findBlock 60 = .ok (.goto (-27), 3) := by decide +kernel
theorem d_TC_findBlock_63 : decode c_TC_findBlock 63 = .ok (.iconst (-1), 1) := by decide +kernel
theorem d_TC_findBlock_64 : decode c_TC_findBlock 64 = .ok (.ireturn, 1) := by decide +kernel
theorem d_TC_receiveDelta_0 : decode c_TC_receiveDelta 0 = .ok (.aload_n 0, 1) := by decide +kernel
theorem d_TC_receiveDelta_1 : decode c_TC_receiveDelta 1 = .ok (.aload_n 1, 1) := by decide +kernel
theorem d_TC_receiveDelta_2 : decode c_TC_receiveDelta 2 = .ok (.getfield 188, 3) := by decide +kernel
theorem d_TC_receiveDelta_5 : decode c_TC_receiveDelta 5 = .ok (.invokevirtual 200, 3) := by decide +kernel
theorem d_TC_receiveDelta_8 : decode c_TC_receiveDelta 8 = .ok (.astore_n 2, 1) := by decide +kernel
theorem d_TC_receiveDelta_9 : decode c_TC_receiveDelta 9 = .ok (.aload_n 0, 1) := by decide +kernel
theorem d_TC_receiveDelta_10 : decode c_TC_receiveDelta 10 = .ok (.iconst 1, 1) := by decide +kernel
theorem d_TC_receiveDelta_11 : decode c_TC_receiveDelta 11 = .ok (.aload_n 1, 1) := by decide +kernel
theorem d_TC_receiveDelta_12 : decode c_TC_receiveDelta 12 = .ok (.getfield 188, 3) := by decide +kernel
theorem d_TC_receiveDelta_15 : decode c_TC_receiveDelta 15 = .ok (.invokevirtual 80, 3) := by decide +kernel
theorem d_TC_receiveDelta_18 : decode c_TC_receiveDelta 18 = .ok (.astore_n 3, 1) := by decide +kernel
theorem d_TC_receiveDelta_19 : decode c_TC_receiveDelta 19 = .ok (.aload_n 2, 1) := by decide +kernel
theorem d_TC_receiveDelta_20 : decode c_TC_receiveDelta 20 = .ok (.ifnull 7, 3) := by decide +kernel
theorem d_TC_receiveDelta_23 : decode c_TC_receiveDelta 23 = .ok (.aload_n 3, 1) := by decide +kernel
theorem d_TC_receiveDelta_24 : decode c_TC_receiveDelta 24 = .ok (.ifnonnull 4, 3) := by decide +kernel
theorem d_TC_receiveDelta_27 : decode c_TC_receiveDelta 27 = .ok (.return_, 1) := by decide +kernel
theorem d_TC_receiveDelta_28 : decode c_TC_receiveDelta 28 = .ok (.aload_n 0, 1) := by decide +kernel
theorem d_TC_receiveDelta_29 : decode c_TC_receiveDelta 29 = .ok (.aload_n 3, 1) := by decide +kernel
theorem d_TC_receiveDelta_30 : decode c_TC_receiveDelta 30 = .ok (.getfield 87, 3) := by decide +kernel
theorem d_TC_receiveDelta_33 : decode c_TC_receiveDelta 33 = .ok (.aload_n 1, 1) := by decide +kernel
theorem d_TC_receiveDelta_34 : decode c_TC_receiveDelta 34 = .ok (.invokevirtual 248, 3) := by decide +kernel
theorem d_TC_receiveDelta_37 : decode c_TC_receiveDelta 37 = .ok (.aload_n 0, 1) := by decide +kernel
theorem d_TC_receiveDelta_38 : decode c_TC_receiveDelta 38 = .ok (.getfield 48, 3) := by decide +kernel
theorem d_TC_receiveDelta_41 : decode c_TC_receiveDelta 41 = .ok (.invokevirtual 229, 3) := by decide +kernel
theorem d_TC_receiveDelta_44 : decode c_TC_receiveDelta 44 = .ok (.aload_n 1, 1) := by decide +kernel
theorem d_TC_receiveDelta_45 : decode c_TC_receiveDelta 45 = .ok (.getfield 232, 3) := by decide +kernel
theorem d_TC_receiveDelta_48 : decode c_TC_receiveDelta 48 = .ok (.if_icmp .ne 30, 3) := by decide +kernel
theorem d_TC_receiveDelta_51 : decode c_TC_receiveDelta 51 = .ok (.aload_n 0, 1) := by decide +kernel
theorem d_TC_receiveDelta_52 : decode c_TC_receiveDelta 52 = .ok (.getfield 41, 3) := by decide +kernel
theorem d_TC_receiveDelta_55 : decode c_TC_receiveDelta 55 = .ok (.aload_n 1, 1) := by decide +kernel
theorem d_TC_receiveDelta_56 : decode c_TC_receiveDelta 56 = .ok (.getfield 188, 3) := by decide +kernel
theorem d_TC_receiveDelta_59 : decode c_TC_receiveDelta 59 = .ok (.aload_n 0, 1) := by decide +kernel
theorem d_TC_receiveDelta_60 : decode c_TC_receiveDelta 60 = .ok (.getfield 48, 3) := by decide +kernel
theorem d_TC_receiveDelta_63 : decode c_TC_receiveDelta 63 = .ok (.aload_n 2, 1) := by decide +kernel
theorem d_TC_receiveDelta_64 : decode c_TC_receiveDelta 64 = .ok (.getfield 208, 3) := by decide +kernel
theorem d_TC_receiveDelta_67 : decode c_TC_receiveDelta 67 = .ok (.invokevirtual 252, 3) := by decide +kernel
theorem d_TC_receiveDelta_70 : decode c_TC_receiveDelta 70 = .ok (.aload_n 2, 1) := by decide +kernel
theorem d_TC_receiveDelta_71 : decode c_TC_receiveDelta 71 = .ok (.iconst 0, 1) := by decide +kernel
theorem d_TC_receiveDelta_72 : decode c_TC_receiveDelta 72 = .ok (.putfield 213, 3) := by decide +kernel
theorem d_TC_receiveDelta_75 : decode c_TC_receiveDelta 75 = .ok (.goto 41, 3) := by decide +kernel
theorem d_TC_receiveDelta_78 : decode c_TC_receiveDelta 78 = .ok (.aload_n 1, 1) := by decide +kernel
theorem d_TC_receiveDelta_79 : decode c_TC_receiveDelta 79 = .ok (.getfield 219, 3) := by decide +kernel
theorem d_TC_receiveDelta_82 : decode c_TC_receiveDelta 82 = .ok (.iconst 1, 1) := by decide +kernel
theorem d_TC_receiveDelta_83 : decode c_TC_receiveDelta 83 = .ok (.if_icmp .ne 25, 3) := by decide +kernel
theorem d_TC_receiveDelta_86 : decode c_TC_receiveDelta 86 = .ok (.aload_n 0, 1) := by decide +kernel
theorem d_TC_receiveDelta_87 : decode c_TC_receiveDelta 87 = .ok (.getfield 52, 3) := by decide +kernel
theorem d_TC_receiveDelta_90 : decode c_TC_receiveDelta 90 = .ok (.iconst 2, 1) := by decide +kernel
theorem d_TC_receiveDelta_91 : decode c_TC_receiveDelta 91 = .ok (.dup2, 1) := by decide +kernel
theorem d_TC_receiveDelta_92 : decode c_TC_receiveDelta 92 = .ok (.iaload, 1) := by decide +kernel
theorem d_TC_receiveDelta_93 : decode c_TC_receiveDelta 93 = .ok (.iconst 1, 1) := by decide +kernel
theorem d_TC_receiveDelta_94 : decode c_TC_receiveDelta 94 = .ok (.iadd, 1) := by decide +kernel
theorem d_TC_receiveDelta_95 : decode c_TC_receiveDelta 95 = .ok (.iastore, 1) := by decide +kernel
theorem d_TC_receiveDelta_96 : decode c_TC_receiveDelta 96 = .ok (.aload_n 0, 1) := by decide +kernel
theorem d_TC_receiveDelta_97 : decode c_TC_receiveDelta 97 = .ok (.aload_n 1, 1) := by decide +kernel
theorem d_TC_receiveDelta_98 : decode c_TC_receiveDelta 98 = .ok (.getfield 188, 3) := by decide +kernel
theorem d_TC_receiveDelta_101 : decode c_TC_receiveDelta 101 = .ok (.iconst 2, 1) := by decide +kernel
theorem d_TC_receiveDelta_102 : decode c_TC_receiveDelta 102 = .ok (.invokevirtual 216, 3) := by decide +kernel
theorem d_TC_receiveDelta_105 : decode c_TC_receiveDelta 105 = .ok (.goto 11, 3) := by decide +kernel
theorem d_TC_receiveDelta_108 : decode c_TC_receiveDelta 108 = .ok (.aload_n 0, 1) := by decide +kernel
theorem d_TC_receiveDelta_109 : decode c_TC_receiveDelta 109 = .ok (.aload_n 1, 1) := by decide +kernel
theorem d_TC_receiveDelta_110 : decode c_TC_receiveDelta 110 = .ok (.getfield 188, 3) := by decide +kernel
theorem d_TC_receiveDelta_113 : decode c_TC_receiveDelta 113 = .ok (.invokevirtual 191, 3) := by decide +kernel
theorem d_TC_receiveDelta_116 : decode c_TC_receiveDelta 116 = .ok (.return_, 1) := by decide +kernel
theorem d_TC_rebuild_0 : decode c_TC_rebuild 0 = .ok (.aload_n 0, 1) := by decide +kernel
theorem d_TC_rebuild_1 : decode c_TC_rebuild 1 = .ok (.getfield 48, 3) := by decide +kernel
theorem d_TC_rebuild_4 : decode c_TC_rebuild 4 = .ok (.invokevirtual 255, 3) := by decide +kernel
theorem d_TC_rebuild_7 : decode c_TC_rebuild 7 = .ok (.iconst 0, 1) := by decide +kernel
theorem d_TC_rebuild_8 : decode c_TC_rebuild 8 = .ok (.istore_n 3, 1) := by decide +kernel
theorem d_TC_rebuild_9 : decode c_TC_rebuild 9 = .ok (.iload_n 3, 1) := by decide +kernel
theorem d_TC_rebuild_10 : decode c_TC_rebuild 10 = .ok (.aload_n 2, 1) := by decide +kernel
theorem d_TC_rebuild_11 : decode c_TC_rebuild 11 = .ok (.getfield 242, 3) := by decide +kernel
theorem d_TC_rebuild_14 : decode c_TC_rebuild 14 = .ok (.if_icmp .ge 60, 3) := by decide +kernel
theorem d_TC_rebuild_17 : decode c_TC_rebuild 17 = .ok (.aload_n 2, 1) := by decide +kernel
theorem d_TC_rebuild_18 : decode c_TC_rebuild 18 = .ok (.getfield 245, 3) := by decide +kernel
theorem d_TC_rebuild_21 : decode c_TC_rebuild 21 = .ok (.iload_n 3, 1) := by decide +kernel
theorem d_TC_rebuild_22 : decode c_TC_rebuild 22 = .ok (.iaload, 1) := by decide +kernel
theorem d_TC_rebuild_23 : decode c_TC_rebuild 23 = .ok (.istore 4, 2) := by decide +kernel
theorem d_TC_rebuild_25 : decode c_TC_rebuild 25 = .ok (.iload 4, 2) := by decide +kernel
theorem d_TC_rebuild_27 : decode c_TC_rebuild 27 = .ok (.sipush 256, 3) := by decide +kernel
theorem d_TC_rebuild_30 : decode c_TC_rebuild 30 = .ok (.if_icmp .ge 15, 3) := by decide +kernel
theorem d_TC_rebuild_33 : decode c_TC_rebuild 33 = .ok (.aload_n 0, 1) := by decide +kernel
theorem d_TC_rebuild_34 : decode c_TC_rebuild 34 = .ok (.getfield 48, 3) := by decide +kernel
theorem d_TC_rebuild_37 : decode c_TC_rebuild 37 = .ok (.iload 4, 2) := by decide +kernel
theorem d_TC_rebuild_39 : decode c_TC_rebuild 39 = .ok (.invokevirtual 97, 3) := by decide +kernel
theorem d_TC_rebuild_42 : decode c_TC_rebuild 42 = .ok (.goto 26, 3) := by decide +kernel
theorem d_TC_rebuild_45 : decode c_TC_rebuild 45 = .ok (.aload_n 0, 1) := by decide +kernel
theorem d_TC_rebuild_46 : decode c_TC_rebuild 46 = .ok (.getfield 48, 3) := by decide +kernel
theorem d_TC_rebuild_49 : decode c_TC_rebuild 49 = .ok (.aload_n 1, 1) := by decide +kernel
theorem d_TC_rebuild_50 : decode c_TC_rebuild 50 = .ok (.iload 4, 2) := by decide +kernel
theorem d_TC_rebuild_52 : decode c_TC_rebuild 52 = .ok (.sipush 256, 3) := by decide +kernel
theorem d_TC_rebuild_55 : decode c_TC_rebuild 55 = .ok (.isub, 1) := by decide +kernel
theorem d_TC_rebuild_56 : decode c_TC_rebuild 56 = .ok (.aload_n 0, 1) := by decide +kernel
theorem d_TC_rebuild_57 : decode c_TC_rebuild 57 = .ok (.getfield 67, 3) := by decide +kernel
theorem d_TC_rebuild_60 : decode c_TC_rebuild 60 = .ok (.imul, 1) := by decide +kernel
theorem d_TC_rebuild_61 : decode c_TC_rebuild 61 = .ok (.aload_n 0, 1) := by decide +kernel
theorem d_TC_rebuild_62 : decode c_TC_rebuild 62 = .ok (.getfield 67, 3) := by decide +kernel
theorem d_TC_rebuild_65 : decode c_TC_rebuild 65 = .ok (.invokevirtual 258, 3) := by decide +kernel
theorem d_TC_rebuild_68 : decode c_TC_rebuild 68 = .ok (.iinc 3 1, 3) := by decide +kernel
theorem d_TC_rebuild_71 : decode c_TC_rebuild 71 = .ok (.goto (-62), 3) := by decide +kernel
theorem d_TC_rebuild_74 : decode c_TC_rebuild 74 = .ok (.return_, 1) := by decide +kernel
theorem d_TC_failEntry_0 : decode c_TC_failEntry 0 = .ok (.aload_n 0, 1) := by decide +kernel
theorem d_TC_failEntry_1 : decode c_TC_failEntry 1 = .ok (.iload_n 1, 1) := by decide +kernel
theorem d_TC_failEntry_2 : decode c_TC_failEntry 2 = .ok (.invokevirtual 200, 3) := by decide +kernel
theorem d_TC_failEntry_5 : decode c_TC_failEntry 5 = .ok (.astore_n 2, 1) := by decide +kernel
theorem d_TC_failEntry_6 : decode c_TC_failEntry 6 = .ok (.aload_n 2, 1) := by decide +kernel
theorem d_TC_failEntry_7 : decode c_TC_failEntry 7 = .ok (.ifnull 18, 3) := by decide +kernel
theorem d_TC_failEntry_10 : decode c_TC_failEntry 10 = .ok (.aload_n 2, 1) := by decide +kernel
theorem d_TC_failEntry_11 : decode c_TC_failEntry 11 = .ok (.iconst 0, 1) := by decide +kernel
theorem d_TC_failEntry_12 : decode c_TC_failEntry 12 = .ok (.putfield 213, 3) := by decide +kernel
theorem d_TC_failEntry_15 : decode c_TC_failEntry 15 = .ok (.aload_n 0, 1) := by decide +kernel
theorem d_TC_failEntry_16 : decode c_TC_failEntry 16 = .ok (.getfield 52, 3) := by decide +kernel
theorem d_TC_failEntry_19 : decode c_TC_failEntry 19 = .ok (.iconst 3, 1) := by decide +kernel
theorem d_TC_failEntry_20 : decode c_TC_failEntry 20 = .ok (.dup2, 1) := by decide +kernel
theorem d_TC_failEntry_21 : decode c_TC_failEntry 21 = .ok (.iaload, 1) := by decide +kernel
theorem d_TC_failEntry_22 : decode c_TC_failEntry 22 = .ok (.iconst 1, 1) := by decide +kernel
theorem d_TC_failEntry_23 : decode c_TC_failEntry 23 = .ok (.iadd, 1) := by decide +kernel
theorem d_TC_failEntry_24 : decode c_TC_failEntry 24 = .ok (.iastore, 1) := by decide +kernel
theorem d_TC_failEntry_25 : decode c_TC_failEntry 25 = .ok (.return_, 1) := by decide +kernel
theorem d_TC_doOldestRecord_0 : decode c_TC_doOldestRecord 0 = .ok (.aload_n 0, 1) := by decide +kernel
theorem d_TC_doOldestRecord_1 : decode c_TC_doOldestRecord 1 = .ok (.getfield 41, 3) := by decide +kernel
theorem d_TC_doOldestRecord_4 : decode c_TC_doOldestRecord 4 = .ok (.invokevirtual 262, 3) := by decide +kernel
theorem d_TC_doOldestRecord_7 : decode c_TC_doOldestRecord 7 = .ok (.astore_n 1, 1) := by decide +kernel
theorem d_TC_doOldestRecord_8 : decode c_TC_doOldestRecord 8 = .ok (.aload_n 1, 1) := by decide +kernel
theorem d_TC_doOldestRecord_9 : decode c_TC_doOldestRecord 9 = .ok (.ifnonnull 7, 3) := by decide +kernel
theorem d_TC_doOldestRecord_12 : decode c_TC_doOldestRecord 12 = .ok (.aconst_null, 1) := by decide +kernel
theorem d_TC_doOldestRecord_13 : decode c_TC_doOldestRecord 13 = .ok (.goto 12, 3) := by decide +kernel
theorem d_TC_doOldestRecord_16 : decode c_TC_doOldestRecord 16 = .ok (.aload_n 0, 1) := by decide +kernel
theorem d_TC_doOldestRecord_17 : decode c_TC_doOldestRecord 17 = .ok (.iconst 1, 1) := by decide +kernel
theorem d_TC_doOldestRecord_18 : decode c_TC_doOldestRecord 18 = .ok (.aload_n 1, 1) := by decide +kernel
theorem d_TC_doOldestRecord_19 : decode c_TC_doOldestRecord 19 = .ok (.getfield 265, 3) := by decide +kernel
theorem d_TC_doOldestRecord_22 : decode c_TC_doOldestRecord 22 = .ok (.invokevirtual 80, 3) := by decide +kernel
theorem d_TC_doOldestRecord_25 : decode c_TC_doOldestRecord 25 = .ok (.astore_n 2, 1) := by decide +kernel
theorem d_TC_doOldestRecord_26 : decode c_TC_doOldestRecord 26 = .ok (.aload_n 2, 1) := by decide +kernel
theorem d_TC_doOldestRecord_27 : decode c_TC_doOldestRecord 27 = .ok (.ifnull 38, 3) := by decide +kernel
theorem d_TC_doOldestRecord_30 : decode c_TC_doOldestRecord 30 = .ok (.aload_n 2, 1) := by decide +kernel
theorem d_TC_doOldestRecord_31 : decode c_TC_doOldestRecord 31 = .ok (.iconst 1, 1) := by decide +kernel
theorem d_TC_doOldestRecord_32 : decode c_TC_doOldestRecord 32 = .ok (.putfield 94, 3) := by decide +kernel
theorem d_TC_doOldestRecord_35 : decode c_TC_doOldestRecord 35 = .ok (.aload_n 2, 1) := by decide +kernel
theorem d_TC_doOldestRecord_36 : decode c_TC_doOldestRecord 36 = .ok (.getfield 87, 3) := by decide +kernel
theorem d_TC_doOldestRecord_39 : decode c_TC_doOldestRecord 39 = .ok (.aload_n 1, 1) := by decide +kernel
theorem d_TC_doOldestRecord_40 : decode c_TC_doOldestRecord 40 = .ok (.getfield 268, 3) := by decide +kernel
theorem d_TC_doOldestRecord_43 : decode c_TC_doOldestRecord 43 = .ok (.invokevirtual 269, 3) := by decide +kernel
theorem d_TC_doOldestRecord_46 : decode c_TC_doOldestRecord 46 = .ok (.aload_n 2, 1) := by decide +kernel
theorem d_TC_doOldestRecord_47 : decode c_TC_doOldestRecord 47 = .ok (.aload_n 1, 1) := by decide +kernel
theorem d_TC_doOldestRecord_48 : decode c_TC_doOldestRecord 48 = .ok (.getfield 273, 3) := by decide +kernel
theorem d_TC_doOldestRecord_51 : decode c_TC_doOldestRecord 51 = .ok (.putfield 104, 3) := by decide +kernel
theorem d_TC_doOldestRecord_54 : decode c_TC_doOldestRecord 54 = .ok (.aload_n 0, 1) := by decide +kernel
theorem d_TC_doOldestRecord_55 : decode c_TC_doOldestRecord 55 = .ok (.getfield 52, 3) := by decide +kernel
theorem d_TC_doOldestRecord_58 : decode c_TC_doOldestRecord 58 = .ok (.bipush 7, 2) := by decide +kernel
theorem d_TC_doOldestRecord_60 : decode c_TC_doOldestRecord 60 = .ok (.dup2, 1) := by decide +kernel
theorem d_TC_doOldestRecord_61 : decode c_TC_doOldestRecord 61 = .ok (.iaload, 1) := by decide +kernel
theorem d_TC_doOldestRecord_62 : decode c_TC_doOldestRecord 62 = .ok (.iconst 1, 1) := by decide +kernel
theorem d_TC_doOldestRecord_63 : decode c_TC_doOldestRecord 63 = .ok (.iadd, 1) := by decide +kernel
theorem d_TC_doOldestRecord_64 : decode c_TC_doOldestRecord 64 = .ok (.iastore, 1) := by decide +kernel
theorem d_TC_doOldestRecord_65 : decode c_TC_doOldestRecord 65 = .ok (.return_, 1) := by decide +kernel
theorem d_TC_doAllRecords_0 : decode c_TC_doAllRecords 0 = .ok (.aload_n 0, 1) := by decide +kernel
theorem d_TC_doAllRecords_1 : decode c_TC_doAllRecords 1 = .ok (.getfield 41, 3) := by decide +kernel
theorem d_TC_doAllRecords_4 : decode c_TC_doAllRecords 4 = .ok (.getfield 169, 3) := by decide +kernel
theorem d_TC_doAllRecords_7 : decode c_TC_doAllRecords 7 = .ok (.istore_n 1, 1) := by decide +kernel
theorem d_TC_doAllRecords_8 : decode c_TC_doAllRecords 8 = .ok (.iconst 0, 1) := by decide +kernel
theorem d_TC_doAllRecords_9 : decode c_TC_doAllRecords 9 = .ok (.istore_n 2, 1) := by decide +kernel
theorem d_TC_doAllRecords_10 : decode c_TC_doAllRecords 10 = .ok (.iload_n 2, 1) := by decide +kernel
theorem d_TC_doAllRecords_11 : decode c_TC_doAllRecords 11 = .ok (.iload_n 1, 1) := by decide +kernel
theorem d_TC_doAllRecords_12 : decode c_TC_doAllRecords 12 = .ok (.if_icmp .ge 13, 3) := by decide +kernel
theorem d_TC_doAllRecords_15 : decode c_TC_doAllRecords 15 = .ok (.aload_n 0, 1) := by decide +kernel
theorem d_TC_doAllRecords_16 : decode c_TC_doAllRecords 16 = .ok (.invokevirtual 139, 3) := by decide +kernel
theorem d_TC_doAllRecords_19 : decode c_TC_doAllRecords 19 = .ok (.iinc 2 1, 3) := by decide +kernel
theorem d_TC_doAllRecords_22 : decode c_TC_doAllRecords 22 = .ok (.goto (-12), 3) := by decide +kernel
theorem d_TC_doAllRecords_25 : decode c_TC_doAllRecords 25 = .ok (.return_, 1) := by decide +kernel
theorem d_TC_concludeSession_0 : decode c_TC_concludeSession 0 = .ok (.aload_n 0, 1) := by decide +kernel
theorem d_TC_concludeSession_1 : decode c_TC_concludeSession 1 = .ok (.invokevirtual 120, 3) := by decide +kernel
theorem d_TC_concludeSession_4 : decode c_TC_concludeSession 4 = .ok (.aload_n 0, 1) := by decide +kernel
theorem d_TC_concludeSession_5 : decode c_TC_concludeSession 5 = .ok (.getfield 64, 3) := by decide +kernel
theorem d_TC_concludeSession_8 : decode c_TC_concludeSession 8 = .ok (.ifCond .eq 7, 3) := by decide +kernel
theorem d_TC_concludeSession_11 : decode c_TC_concludeSession 11 = .ok (.aload_n 0, 1) := by decide +kernel
theorem d_TC_concludeSession_12 : decode c_TC_concludeSession 12 = .ok (.invokevirtual 274, 3) := by decide +kernel
theorem d_TC_concludeSession_15 : decode c_TC_concludeSession 15 = .ok (.aload_n 0, 1) := by decide +kernel
theorem d_TC_concludeSession_16 : decode c_TC_concludeSession 16 = .ok (.invokevirtual 149, 3) := by decide +kernel
theorem d_TC_concludeSession_19 : decode c_TC_concludeSession 19 = .ok (.aload_n 0, 1) := by decide +kernel
theorem d_TC_concludeSession_20 : decode c_TC_concludeSession 20 = .ok (.getfield 52, 3) := by decide +kernel
theorem d_TC_concludeSession_23 : decode c_TC_concludeSession 23 = .ok (.iconst 4, 1) := by decide +kernel
theorem d_TC_concludeSession_24 : decode c_TC_concludeSession 24 = .ok (.dup2, 1) := by decide +kernel
theorem d_TC_concludeSession_25 : decode c_TC_concludeSession 25 = .ok (.iaload, 1) := by decide +kernel
theorem d_TC_concludeSession_26 : decode c_TC_concludeSession 26 = .ok (.iconst 1, 1) := by decide +kernel
theorem d_TC_concludeSession_27 : decode c_TC_concludeSession 27 = .ok (.iadd, 1) := by decide +kernel
theorem d_TC_concludeSession_28 : decode c_TC_concludeSession 28 = .ok (.iastore, 1) := by decide +kernel
theorem d_TC_concludeSession_29 : decode c_TC_concludeSession 29 = .ok (.return_, 1) := by decide +kernel
theorem d_TC_deleteUnlisted_0 : decode c_TC_deleteUnlisted 0 = .ok (.iconst 0, 1) := by decide +kernel
theorem d_TC_deleteUnlisted_1 : decode c_TC_deleteUnlisted 1 = .ok (.istore_n 1, 1) := by decide +kernel
theorem d_TC_deleteUnlisted_2 : decode c_TC_deleteUnlisted 2 = .ok (.iload_n 1, 1) := by decide +kernel
theorem d_TC_deleteUnlisted_3 : decode c_TC_deleteUnlisted 3 = .ok (.bipush 12, 2) := by decide +kernel
theorem d_TC_deleteUnlisted_5 : decode c_TC_deleteUnlisted 5 = .ok (.if_icmp .ge 58, 3) := by decide +kernel
theorem d_TC_deleteUnlisted_8 : decode c_TC_deleteUnlisted 8 = .ok (.aload_n 0, 1) := by decide +kernel
theorem d_TC_deleteUnlisted_9 : decode c_TC_deleteUnlisted 9 = .ok (.iconst 1, 1) := by decide +kernel
theorem d_TC_deleteUnlisted_10 : decode c_TC_deleteUnlisted 10 = .ok (.iload_n 1, 1) := by decide +kernel
theorem d_TC_deleteUnlisted_11 : decode c_TC_deleteUnlisted 11 = .ok (.invokevirtual 107, 3) := by decide +kernel
theorem d_TC_deleteUnlisted_14 : decode c_TC_deleteUnlisted 14 = .ok (.astore_n 2, 1) := by decide +kernel
theorem d_TC_deleteUnlisted_15 : decode c_TC_deleteUnlisted 15 = .ok (.aload_n 2, 1) := by decide +kernel
theorem d_TC_deleteUnlisted_16 : decode c_TC_deleteUnlisted 16 = .ok (.ifnull 41, 3) := by decide +kernel
theorem d_TC_deleteUnlisted_19 : decode c_TC_deleteUnlisted 19 = .ok (.aload_n 0, 1) := by decide +kernel
theorem d_TC_deleteUnlisted_20 : decode c_TC_deleteUnlisted 20 = .ok (.getfield 18, 3) := by decide +kernel
theorem d_TC_deleteUnlisted_23 : decode c_TC_deleteUnlisted 23 = .ok (.iload_n 1, 1) := by decide +kernel
theorem d_TC_deleteUnlisted_24 : decode c_TC_deleteUnlisted 24 = .ok (.invokevirtual 162, 3) := by decide +kernel
theorem d_TC_deleteUnlisted_27 : decode c_TC_deleteUnlisted 27 = .ok (.ifCond .eq 30, 3) := by decide +kernel
theorem d_TC_deleteUnlisted_30 : decode c_TC_deleteUnlisted 30 = .ok (.aload_n 0, 1) := by decide +kernel
theorem d_TC_deleteUnlisted_31 : decode c_TC_deleteUnlisted 31 = .ok (.getfield 34, 3) := by decide +kernel
theorem d_TC_deleteUnlisted_34 : decode c_TC_deleteUnlisted 34 = .ok (.iload_n 1, 1) := by decide +kernel
theorem d_TC_deleteUnlisted_35 : decode c_TC_deleteUnlisted 35 = .ok (.aaload, 1) := by decide +kernel
theorem d_TC_deleteUnlisted_36 : decode c_TC_deleteUnlisted 36 = .ok (.getfield 204, 3) := by decide +kernel
theorem d_TC_deleteUnlisted_39 : decode c_TC_deleteUnlisted 39 = .ok (.ifCond .ne 18, 3) := by decide +kernel
theorem d_TC_deleteUnlisted_42 : decode c_TC_deleteUnlisted 42 = .ok (.aload_n 2, 1) := by decide +kernel
theorem d_TC_deleteUnlisted_43 : decode c_TC_deleteUnlisted 43 = .ok (.invokevirtual 117, 3) := by decide +kernel
theorem d_TC_deleteUnlisted_46 : decode c_TC_deleteUnlisted 46 = .ok (.aload_n 0, 1) := by decide +kernel
theorem d_TC_deleteUnlisted_47 : decode c_TC_deleteUnlisted 47 = .ok (.getfield 52, 3) := by decide +kernel
theorem d_TC_deleteUnlisted_50 : decode c_TC_deleteUnlisted 50 = .ok (.bipush 6, 2) := by decide +kernel
theorem d_TC_deleteUnlisted_52 : decode c_TC_deleteUnlisted 52 = .ok (.dup2, 1) := by decide +kernel
theorem d_TC_deleteUnlisted_53 : decode c_TC_deleteUnlisted 53 = .ok (.iaload, 1) := by decide +kernel
theorem d_TC_deleteUnlisted_54 : decode c_TC_deleteUnlisted 54 = .ok (.iconst 1, 1) := by decide +kernel
theorem d_TC_deleteUnlisted_55 : decode c_TC_deleteUnlisted 55 = .ok (.iadd, 1) := by decide +kernel
theorem d_TC_deleteUnlisted_56 : decode c_TC_deleteUnlisted 56 = .ok (.iastore, 1) := by decide +kernel
theorem d_TC_deleteUnlisted_57 : decode c_TC_deleteUnlisted 57 = .ok (.iinc 1 1, 3) := by decide +kernel
theorem d_TC_deleteUnlisted_60 : decode c_TC_deleteUnlisted 60 = .ok (.goto (-58), 3) := by decide +kernel
theorem d_TC_deleteUnlisted_63 : decode c_TC_deleteUnlisted 63 = .ok (.return_, 1) := by decide +kernel
theorem d_TC_endSession_0 : decode c_TC_endSession 0 = .ok (.aload_n 0, 1) := by decide +kernel
theorem d_TC_endSession_1 : decode c_TC_endSession 1 = .ok (.iconst 0, 1) := by decide +kernel
theorem d_TC_endSession_2 : decode c_TC_endSession 2 = .ok (.putfield 60, 3) := by decide +kernel
theorem d_TC_endSession_5 : decode c_TC_endSession 5 = .ok (.aload_n 0, 1) := by decide +kernel
theorem d_TC_endSession_6 : decode c_TC_endSession 6 = .ok (.getfield 25, 3) := by decide +kernel
theorem d_TC_endSession_9 : decode c_TC_endSession 9 = .ok (.invokevirtual 277, 3) := by decide +kernel
theorem d_TC_endSession_12 : decode c_TC_endSession 12 = .ok (.aload_n 0, 1) := by decide +kernel
theorem d_TC_endSession_13 : decode c_TC_endSession 13 = .ok (.getfield 29, 3) := by decide +kernel
theorem d_TC_endSession_16 : decode c_TC_endSession 16 = .ok (.invokevirtual 277, 3) := by decide +kernel
theorem d_TC_endSession_19 : decode c_TC_endSession 19 = .ok (.iconst 0, 1) := by decide +kernel
theorem d_TC_endSession_20 : decode c_TC_endSession 20 = .ok (.istore_n 1, 1) := by decide +kernel
theorem d_TC_endSession_21 : decode c_TC_endSession 21 = .ok (.iload_n 1, 1) := by decide +kernel
theorem d_TC_endSession_22 : decode c_TC_endSession 22 = .ok (.bipush 12, 2) := by decide +kernel
theorem d_TC_endSession_24 : decode c_TC_endSession 24 = .ok (.if_icmp .ge 18, 3) := by decide +kernel
theorem d_TC_endSession_27 : decode c_TC_endSession 27 = .ok (.aload_n 0, 1) := by decide +kernel
theorem d_TC_endSession_28 : decode c_TC_endSession 28 = .ok (.getfield 34, 3) := by decide +kernel
theorem d_TC_endSession_31 : decode c_TC_endSession 31 = .ok (.iload_n 1, 1) := by decide +kernel
theorem d_TC_endSession_32 : decode c_TC_endSession 32 = .ok (.aaload, 1) := by decide +kernel
theorem d_TC_endSession_33 : decode c_TC_endSession 33 = .ok (.invokevirtual 278, 3) := by decide +kernel
theorem d_TC_endSession_36 : decode c_TC_endSession 36 = .ok (.iinc 1 1, 3) := by decide +kernel
theorem d_TC_endSession_39 : decode c_TC_endSession 39 = .ok (.goto (-18), 3) := by decide +kernel
theorem d_TC_endSession_42 : decode c_TC_endSession 42 = .ok (.return_, 1) := by decide +kernel
