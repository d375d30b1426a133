theorem d_En_init_0 : decode c_En_init 0 = .ok (.aload_n 0, 1) := by decide +kernel
theorem d_En_init_1 : decode c_En_init 1 = .ok (.invokespecial 1, 3) := by decide +kernel
theorem d_En_init_4 : decode c_En_init 4 = .ok (.aload_n 0, 1) := by decide +kernel
theorem d_En_init_5 : decode c_En_init 5 = .ok (.iconst 0, 1) := by decide +kernel
theorem d_En_init_6 : decode c_En_init 6 = .ok (.putfield 7, 3) := by decide +kernel
theorem d_En_init_9 : decode c_En_init 9 = .ok (.aload_n 0, 1) := by decide +kernel
theorem d_En_init_10 : decode c_En_init 10 = .ok (.iconst 0, 1) := by decide +kernel
theorem d_En_init_11 : decode c_En_init 11 = .ok (.putfield 13, 3) := by decide +kernel
theorem d_En_init_14 : decode c_En_init 14 = .ok (.aload_n 0, 1) := by decide +kernel
theorem d_En_init_15 : decode c_En_init 15 = .ok (.iconst 0, 1) := by decide +kernel
theorem d_En_init_16 : decode c_En_init 16 = .ok (.putfield 16, 3) := by decide +kernel
theorem d_En_init_19 : decode c_En_init 19 = .ok (.aload_n 0, 1) := by decide +kernel
theorem d_En_init_20 : decode c_En_init 20 = .ok (.iconst 0, 1) := by decide +kernel
theorem d_En_init_21 : decode c_En_init 21 = .ok (.putfield 20, 3) := by decide +kernel
theorem d_En_init_24 : decode c_En_init 24 = .ok (.return_, 1) := by decide +kernel
theorem d_En_agreesWith_0 : decode c_En_agreesWith 0 = .ok (.aload_n 1, 1) := by decide +kernel
theorem d_En_agreesWith_1 : decode c_En_agreesWith 1 = .ok (.ifnull 32, 3) := by decide +kernel
theorem d_En_agreesWith_4 : decode c_En_agreesWith 4 = .ok (.aload_n 1, 1) := by decide +kernel
theorem d_En_agreesWith_5 : decode c_En_agreesWith 5 = .ok (.getfield 23, 3) := by decide +kernel
theorem d_En_agreesWith_8 : decode c_En_agreesWith 8 = .ok (.getfield 29, 3) := by decide +kernel
theorem d_En_agreesWith_11 : decode c_En_agreesWith 11 = .ok (.aload_n 0, 1) := by decide +kernel
theorem d_En_agreesWith_12 : decode c_En_agreesWith 12 = .ok (.getfield 16, 3) := by decide +kernel
theorem d_En_agreesWith_15 : decode c_En_agreesWith 15 = .ok (.if_icmp .ne 18, 3) := by decide +kernel
theorem d_En_agreesWith_18 : decode c_En_agreesWith 18 = .ok (.aload_n 1, 1) := by decide +kernel
theorem d_En_agreesWith_19 : decode c_En_agreesWith 19 = .ok (.getfield 34, 3) := by decide +kernel
theorem d_En_agreesWith_22 : decode c_En_agreesWith 22 = .ok (.aload_n 0, 1) := by decide +kernel
theorem d_En_agreesWith_23 : decode c_En_agreesWith 23 = .ok (.getfield 20, 3) := by decide +kernel
theorem d_En_agreesWith_26 : decode c_En_agreesWith 26 = .ok (.if_icmp .ne 7, 3) := by decide +kernel
theorem d_En_agreesWith_29 : decode c_En_agreesWith 29 = .ok (.iconst 1, 1) := by decide +kernel
theorem d_En_agreesWith_30 : decode c_En_agreesWith 30 = .ok (.goto 4, 3) := by decide +kernel
theorem d_En_agreesWith_33 : decode c_En_agreesWith 33 = .ok (.iconst 0, 1) := by decide +kernel
theorem d_En_agreesWith_34 : decode c_En_agreesWith 34 = .ok (.ireturn, 1) := by decide +kernel
theorem d_En_forget_0 : decode c_En_forget 0 = .ok (.aload_n 0, 1) := by decide +kernel
theorem d_En_forget_1 : decode c_En_forget 1 = .ok (.iconst 0, 1) := by decide +kernel
theorem d_En_forget_2 : decode c_En_forget 2 = .ok (.putfield 7, 3) := by decide +kernel
theorem d_En_forget_5 : decode c_En_forget 5 = .ok (.aload_n 0, 1) := by decide +kernel
theorem d_En_forget_6 : decode c_En_forget 6 = .ok (.iconst 0, 1) := by decide +kernel
theorem d_En_forget_7 : decode c_En_forget 7 = .ok (.putfield 13, 3) := by decide +kernel
theorem d_En_forget_10 : decode c_En_forget 10 = .ok (.return_, 1) := by decide +kernel
theorem d_Jo_init_0 : decode c_Jo_init 0 = .ok (.aload_n 0, 1) := by decide +kernel
theorem d_Jo_init_1 : decode c_Jo_init 1 = .ok (.invokespecial 3, 3) := by decide +kernel
theorem d_Jo_init_4 : decode c_Jo_init 4 = .ok (.aload_n 0, 1) := by decide +kernel
theorem d_Jo_init_5 : decode c_Jo_init 5 = .ok (.bipush 12, 2) := by decide +kernel
theorem d_Jo_init_7 : decode c_Jo_init 7 = .ok (.anewarray 9, 3) := by decide +kernel
theorem d_Jo_init_10 : decode c_Jo_init 10 = .ok (.putfield 11, 3) := by decide +kernel
theorem d_Jo_init_13 : decode c_Jo_init 13 = .ok (.aload_n 0, 1) := by decide +kernel
theorem d_Jo_init_14 : decode c_Jo_init 14 = .ok (.iconst 0, 1) := by decide +kernel
theorem d_Jo_init_15 : decode c_Jo_init 15 = .ok (.putfield 17, 3) := by decide +kernel
theorem d_Jo_init_18 : decode c_Jo_init 18 = .ok (.aload_n 0, 1) := by decide +kernel
theorem d_Jo_init_19 : decode c_Jo_init 19 = .ok (.iconst 0, 1) := by decide +kernel
theorem d_Jo_init_20 : decode c_Jo_init 20 = .ok (.putfield 21, 3) := by decide +kernel
theorem d_Jo_init_23 : decode c_Jo_init 23 = .ok (.iconst 0, 1) := by decide +kernel
theorem d_Jo_init_24 : decode c_Jo_init 24 = .ok (.istore_n 1, 1) := by decide +kernel
theorem d_Jo_init_25 : decode c_Jo_init 25 = .ok (.iload_n 1, 1) := by decide +kernel
theorem d_Jo_init_26 : decode c_Jo_init 26 = .ok (.bipush 12, 2) := by decide +kernel
theorem d_Jo_init_28 : decode c_Jo_init 28 = .ok (.if_icmp .ge 22, 3) := by decide +kernel
theorem d_Jo_init_31 : decode c_Jo_init 31 = .ok (.aload_n 0, 1) := by decide +kernel
theorem d_Jo_init_32 : decode c_Jo_init 32 = .ok (.getfield 11, 3) := by decide +kernel
theorem d_Jo_init_35 : decode c_Jo_init 35 = .ok (.iload_n 1, 1) := by decide +kernel
theorem d_Jo_init_36 : decode c_Jo_init 36 = .ok (.new 9, 3) := by decide +kernel
theorem d_Jo_init_39 : decode c_Jo_init 39 = .ok (.dup, 1) := by decide +kernel
theorem d_Jo_init_40 : decode c_Jo_init 40 = .ok (.invokespecial 24, 3) := by decide +kernel
theorem d_Jo_init_43 : decode c_Jo_init 43 = .ok (.aastore, 1) := by decide +kernel
theorem d_Jo_init_44 : decode c_Jo_init 44 = .ok (.iinc 1 1, 3) := by decide +kernel
theorem d_Jo_init_47 : decode c_Jo_init 47 = .ok (.goto (-22), 3) := by decide +kernel
theorem d_Jo_init_50 : decode c_Jo_init 50 = .ok (.return_, 1) := by decide +kernel
theorem d_Jo_append_0 : decode c_Jo_append 0 = .ok (.aload_n 0, 1) := by decide +kernel
theorem d_Jo_append_1 : decode c_Jo_append 1 = .ok (.getfield 11, 3) := by decide +kernel
theorem d_Jo_append_4 : decode c_Jo_append 4 = .ok (.aload_n 0, 1) := by decide +kernel
theorem d_Jo_append_5 : decode c_Jo_append 5 = .ok (.getfield 17, 3) := by decide +kernel
theorem d_Jo_append_8 : decode c_Jo_append 8 = .ok (.aload_n 0, 1) := by decide +kernel
theorem d_Jo_append_9 : decode c_Jo_append 9 = .ok (.getfield 21, 3) := by decide +kernel
theorem d_Jo_append_12 : decode c_Jo_append 12 = .ok (.iadd, 1) := by decide +kernel
theorem d_Jo_append_13 : decode c_Jo_append 13 = .ok (.bipush 12, 2) := by decide +kernel
theorem d_Jo_append_15 : decode c_Jo_append 15 = .ok (.irem, 1) := by decide +kernel
theorem d_Jo_append_16 : decode c_Jo_append 16 = .ok (.aaload, 1) := by decide +kernel
theorem d_Jo_append_17 : decode c_Jo_append 17 = .ok (.astore 4, 2) := by decide +kernel
theorem d_Jo_append_19 : decode c_Jo_append 19 = .ok (.aload 4, 2) := by decide +kernel
theorem d_Jo_append_21 : decode c_Jo_append 21 = .ok (.iload_n 1, 1) := by decide +kernel
theorem d_Jo_append_22 : decode c_Jo_append 22 = .ok (.putfield 25, 3) := by decide +kernel
theorem d_Jo_append_25 : decode c_Jo_append 25 = .ok (.aload 4, 2) := by decide +kernel
theorem d_Jo_append_27 : decode c_Jo_append 27 = .ok (.getfield 28, 3) := by decide +kernel
theorem d_Jo_append_30 : decode c_Jo_append 30 = .ok (.aload_n 2, 1) := by decide +kernel
theorem d_Jo_append_31 : decode c_Jo_append 31 = .ok (.invokevirtual 32, 3) := by decide +kernel
theorem d_Jo_append_34 : decode c_Jo_append 34 = .ok (.aload 4, 2) := by decide +kernel
theorem d_Jo_append_36 : decode c_Jo_append 36 = .ok (.iload_n 3, 1) := by decide +kernel
theorem d_Jo_append_37 : decode c_Jo_append 37 = .ok (.putfield 38, 3) := by decide +kernel
theorem d_Jo_append_40 : decode c_Jo_append 40 = .ok (.aload_n 0, 1) := by decide +kernel
theorem d_Jo_append_41 : decode c_Jo_append 41 = .ok (.getfield 21, 3) := by decide +kernel
theorem d_Jo_append_44 : decode c_Jo_append 44 = .ok (.bipush 12, 2) := by decide +kernel
theorem d_Jo_append_46 : decode c_Jo_append 46 = .ok (.if_icmp .ge 13, 3) := by decide +kernel
theorem d_Jo_append_49 : decode c_Jo_append 49 = .ok (.aload_n 0, 1) := by decide +kernel
theorem d_Jo_append_50 : decode c_Jo_append 50 = .ok (.dup, 1) := by decide +kernel
theorem d_Jo_append_51 : decode c_Jo_append 51 = .ok (.getfield 21, 3) := by decide +kernel
theorem d_Jo_append_54 : decode c_Jo_append 54 = .ok (.iconst 1, 1) := by decide +kernel
theorem d_Jo_append_55 : decode c_Jo_append 55 = .ok (.iadd, 1) := by decide +kernel
theorem d_Jo_append_56 : decode c_Jo_append 56 = .ok (.putfield 21, 3) := by decide +kernel
theorem d_Jo_append_59 : decode c_Jo_append 59 = .ok (.return_, 1) := by decide +kernel
theorem d_Jo_take_0 : decode c_Jo_take 0 = .ok (.aload_n 0, 1) := by decide +kernel
theorem d_Jo_take_1 : decode c_Jo_take 1 = .ok (.getfield 21, 3) := by decide +kernel
theorem d_Jo_take_4 : decode c_Jo_take 4 = .ok (.ifCond .ne 5, 3) := by decide +kernel
theorem d_Jo_take_7 : decode c_Jo_take 7 = .ok (.aconst_null, 1) := by decide +kernel
theorem d_Jo_take_8 : decode c_Jo_take 8 = .ok (.areturn, 1) := by decide +kernel
theorem d_Jo_take_9 : decode c_Jo_take 9 = .ok (.aload_n 0, 1) := by decide +kernel
theorem d_Jo_take_10 : decode c_Jo_take 10 = .ok (.getfield 11, 3) := by decide +kernel
theorem d_Jo_take_13 : decode c_Jo_take 13 = .ok (.aload_n 0, 1) := by decide +kernel
theorem d_Jo_take_14 : decode c_Jo_take 14 = .ok (.getfield 17, 3) := by decide +kernel
theorem d_Jo_take_17 : decode c_Jo_take 17 = .ok (.aaload, 1) := by decide +kernel
theorem d_Jo_take_18 : decode c_Jo_take 18 = .ok (.astore_n 1, 1) := by decide +kernel
theorem d_Jo_take_19 : decode c_Jo_take 19 = .ok (.aload_n 0, 1) := by decide +kernel
theorem d_Jo_take_20 : decode c_Jo_take 20 = .ok (.aload_n 0, 1) := by decide +kernel
theorem d_Jo_take_21 : decode c_Jo_take 21 = .ok (.getfield 17, 3) := by decide +kernel
theorem d_Jo_take_24 : decode c_Jo_take 24 = .ok (.iconst 1, 1) := by decide +kernel
theorem d_Jo_take_25 : decode c_Jo_take 25 = .ok (.iadd, 1) := by decide +kernel
theorem d_Jo_take_26 : decode c_Jo_take 26 = .ok (.bipush 12, 2) := by decide +kernel
theorem d_Jo_take_28 : decode c_Jo_take 28 = .ok (.irem, 1) := by decide +kernel
theorem d_Jo_take_29 : decode c_Jo_take 29 = .ok (.putfield 17, 3) := by decide +kernel
theorem d_Jo_take_32 : decode c_Jo_take 32 = .ok (.aload_n 0, 1) := by decide +kernel
theorem d_Jo_take_33 : decode c_Jo_take 33 = .ok (.dup, 1) := by decide +kernel
theorem d_Jo_take_34 : decode c_Jo_take 34 = .ok (.getfield 21, 3) := by decide +kernel
theorem d_Jo_take_37 : decode c_Jo_take 37 = .ok (.iconst 1, 1) := by decide +kernel
theorem d_Jo_take_38 : decode c_Jo_take 38 = .ok (.isub, 1) := by decide +kernel
theorem d_Jo_take_39 : decode c_Jo_take 39 = .ok (.putfield 21, 3) := by decide +kernel
theorem d_Jo_take_42 : decode c_Jo_take 42 = .ok (.aload_n 1, 1) := by decide +kernel
theorem d_Jo_take_43 : decode c_Jo_take 43 = .ok (.areturn, 1) := by decide +kernel
theorem d_Jr_init_0 : decode c_Jr_init 0 = .ok (.aload_n 0, 1) := by decide +kernel
theorem d_Jr_init_1 : decode c_Jr_init 1 = .ok (.invokespecial 1, 3) := by decide +kernel
theorem d_Jr_init_4 : decode c_Jr_init 4 = .ok (.aload_n 0, 1) := by decide +kernel
theorem d_Jr_init_5 : decode c_Jr_init 5 = .ok (.new 7, 3) := by decide +kernel
theorem d_Jr_init_8 : decode c_Jr_init 8 = .ok (.dup, 1) := by decide +kernel
theorem d_Jr_init_9 : decode c_Jr_init 9 = .ok (.invokespecial 9, 3) := by decide +kernel
theorem d_Jr_init_12 : decode c_Jr_init 12 = .ok (.putfield 10, 3) := by decide +kernel
theorem d_Jr_init_15 : decode c_Jr_init 15 = .ok (.aload_n 0, 1) := by decide +kernel
theorem d_Jr_init_16 : decode c_Jr_init 16 = .ok (.iconst 0, 1) := by decide +kernel
theorem d_Jr_init_17 : decode c_Jr_init 17 = .ok (.putfield 16, 3) := by decide +kernel
theorem d_Jr_init_20 : decode c_Jr_init 20 = .ok (.aload_n 0, 1) := by decide +kernel
theorem d_Jr_init_21 : decode c_Jr_init 21 = .ok (.iconst 0, 1) := by decide +kernel
theorem d_Jr_init_22 : decode c_Jr_init 22 = .ok (.putfield 20, 3) := by decide +kernel
theorem d_Jr_init_25 : decode c_Jr_init 25 = .ok (.return_, 1) := by decide +kernel
theorem d_Li_init_0 : decode c_Li_init 0 = .ok (.aload_n 0, 1) := by decide +kernel
theorem d_Li_init_1 : decode c_Li_init 1 = .ok (.invokespecial 3, 3) := by decide +kernel
theorem d_Li_init_4 : decode c_Li_init 4 = .ok (.aload_n 0, 1) := by decide +kernel
theorem d_Li_init_5 : decode c_Li_init 5 = .ok (.bipush 13, 2) := by decide +kernel
theorem d_Li_init_7 : decode c_Li_init 7 = .ok (.anewarray 9, 3) := by decide +kernel
theorem d_Li_init_10 : decode c_Li_init 10 = .ok (.putfield 11, 3) := by decide +kernel
theorem d_Li_init_13 : decode c_Li_init 13 = .ok (.aload_n 0, 1) := by decide +kernel
theorem d_Li_init_14 : decode c_Li_init 14 = .ok (.iconst 0, 1) := by decide +kernel
theorem d_Li_init_15 : decode c_Li_init 15 = .ok (.putfield 17, 3) := by decide +kernel
theorem d_Li_init_18 : decode c_Li_init 18 = .ok (.aload_n 0, 1) := by decide +kernel
theorem d_Li_init_19 : decode c_Li_init 19 = .ok (.iconst 0, 1) := by decide +kernel
theorem d_Li_init_20 : decode c_Li_init 20 = .ok (.putfield 21, 3) := by decide +kernel
theorem d_Li_init_23 : decode c_Li_init 23 = .ok (.iconst 0, 1) := by decide +kernel
theorem d_Li_init_24 : decode c_Li_init 24 = .ok (.istore_n 1, 1) := by decide +kernel
theorem d_Li_init_25 : decode c_Li_init 25 = .ok (.iload_n 1, 1) := by decide +kernel
theorem d_Li_init_26 : decode c_Li_init 26 = .ok (.bipush 13, 2) := by decide +kernel
theorem d_Li_init_28 : decode c_Li_init 28 = .ok (.if_icmp .ge 22, 3) := by decide +kernel
theorem d_Li_init_31 : decode c_Li_init 31 = .ok (.aload_n 0, 1) := by decide +kernel
theorem d_Li_init_32 : decode c_Li_init 32 = .ok (.getfield 11, 3) := by decide +kernel
theorem d_Li_init_35 : decode c_Li_init 35 = .ok (.iload_n 1, 1) := by decide +kernel
theorem d_Li_init_36 : decode c_Li_init 36 = .ok (.new 9, 3) := by decide +kernel
theorem d_Li_init_39 : decode c_Li_init 39 = .ok (.dup, 1) := by decide +kernel
theorem d_Li_init_40 : decode c_Li_init 40 = .ok (.invokespecial 24, 3) := by decide +kernel
theorem d_Li_init_43 : decode c_Li_init 43 = .ok (.aastore, 1) := by decide +kernel
theorem d_Li_init_44 : decode c_Li_init 44 = .ok (.iinc 1 1, 3) := by decide +kernel
theorem d_Li_init_47 : decode c_Li_init 47 = .ok (.goto (-22), 3) := by decide +kernel
theorem d_Li_init_50 : decode c_Li_init 50 = .ok (.return_, 1) := by decide +kernel
theorem d_Li_append_0 : decode c_Li_append 0 = .ok (.aload_n 0, 1) := by decide +kernel
theorem d_Li_append_1 : decode c_Li_append 1 = .ok (.getfield 11, 3) := by decide +kernel
theorem d_Li_append_4 : decode c_Li_append 4 = .ok (.aload_n 0, 1) := by decide +kernel
theorem d_Li_append_5 : decode c_Li_append 5 = .ok (.getfield 17, 3) := by decide +kernel
theorem d_Li_append_8 : decode c_Li_append 8 = .ok (.aload_n 0, 1) := by decide +kernel
theorem d_Li_append_9 : decode c_Li_append 9 = .ok (.getfield 21, 3) := by decide +kernel
theorem d_Li_append_12 : decode c_Li_append 12 = .ok (.iadd, 1) := by decide +kernel
theorem d_Li_append_13 : decode c_Li_append 13 = .ok (.bipush 13, 2) := by decide +kernel
theorem d_Li_append_15 : decode c_Li_append 15 = .ok (.irem, 1) := by decide +kernel
theorem d_Li_append_16 : decode c_Li_append 16 = .ok (.aaload, 1) := by decide +kernel
theorem d_Li_append_17 : decode c_Li_append 17 = .ok (.astore_n 3, 1) := by decide +kernel
theorem d_Li_append_18 : decode c_Li_append 18 = .ok (.aload_n 3, 1) := by decide +kernel
theorem d_Li_append_19 : decode c_Li_append 19 = .ok (.iload_n 1, 1) := by decide +kernel
theorem d_Li_append_20 : decode c_Li_append 20 = .ok (.iload_n 2, 1) := by decide +kernel
theorem d_Li_append_21 : decode c_Li_append 21 = .ok (.invokevirtual 25, 3) := by decide +kernel
theorem d_Li_append_24 : decode c_Li_append 24 = .ok (.aload_n 0, 1) := by decide +kernel
theorem d_Li_append_25 : decode c_Li_append 25 = .ok (.getfield 21, 3) := by decide +kernel
theorem d_Li_append_28 : decode c_Li_append 28 = .ok (.bipush 13, 2) := by decide +kernel
theorem d_Li_append_30 : decode c_Li_append 30 = .ok (.if_icmp .ge 13, 3) := by decide +kernel
theorem d_Li_append_33 : decode c_Li_append 33 = .ok (.aload_n 0, 1) := by decide +kernel
theorem d_Li_append_34 : decode c_Li_append 34 = .ok (.dup, 1) := by decide +kernel
theorem d_Li_append_35 : decode c_Li_append 35 = .ok (.getfield 21, 3) := by decide +kernel
theorem d_Li_append_38 : decode c_Li_append 38 = .ok (.iconst 1, 1) := by decide +kernel
theorem d_Li_append_39 : decode c_Li_append 39 = .ok (.iadd, 1) := by decide +kernel
theorem d_Li_append_40 : decode c_Li_append 40 = .ok (.putfield 21, 3) := by decide +kernel
theorem d_Li_append_43 : decode c_Li_append 43 = .ok (.aload_n 3, 1) := by decide +kernel
theorem d_Li_append_44 : decode c_Li_append 44 = .ok (.areturn, 1) := by decide +kernel
theorem d_Li_take_0 : decode c_Li_take 0 = .ok (.aload_n 0, 1) := by decide +kernel
theorem d_Li_take_1 : decode c_Li_take 1 = .ok (.getfield 21, 3) := by decide +kernel
theorem d_Li_take_4 : decode c_Li_take 4 = .ok (.ifCond .ne 5, 3) := by decide +kernel
theorem d_Li_take_7 : decode c_Li_take 7 = .ok (.aconst_null, 1) := by decide +kernel
theorem d_Li_take_8 : decode c_Li_take 8 = .ok (.areturn, 1) := by decide +kernel
theorem d_Li_take_9 : decode c_Li_take 9 = .ok (.aload_n 0, 1) := by decide +kernel
theorem d_Li_take_10 : decode c_Li_take 10 = .ok (.getfield 11, 3) := by decide +kernel
theorem d_Li_take_13 : decode c_Li_take 13 = .ok (.aload_n 0, 1) := by decide +kernel
theorem d_Li_take_14 : decode c_Li_take 14 = .ok (.getfield 17, 3) := by decide +kernel
theorem d_Li_take_17 : decode c_Li_take 17 = .ok (.aaload, 1) := by decide +kernel
theorem d_Li_take_18 : decode c_Li_take 18 = .ok (.astore_n 1, 1) := by decide +kernel
theorem d_Li_take_19 : decode c_Li_take 19 = .ok (.aload_n 0, 1) := by decide +kernel
theorem d_Li_take_20 : decode c_Li_take 20 = .ok (.aload_n 0, 1) := by decide +kernel
theorem d_Li_take_21 : decode c_Li_take 21 = .ok (.getfield 17, 3) := by decide +kernel
theorem d_Li_take_24 : decode c_Li_take 24 = .ok (.iconst 1, 1) := by decide +kernel
theorem d_Li_take_25 : decode c_Li_take 25 = .ok (.iadd, 1) := by decide +kernel
theorem d_Li_take_26 : decode c_Li_take 26 = .ok (.bipush 13, 2) := by decide +kernel
theorem d_Li_take_28 : decode c_Li_take 28 = .ok (.irem, 1) := by decide +kernel
theorem d_Li_take_29 : decode c_Li_take 29 = .ok (.putfield 17, 3) := by decide +kernel
theorem d_Li_take_32 : decode c_Li_take 32 = .ok (.aload_n 0, 1) := by decide +kernel
theorem d_Li_take_33 : decode c_Li_take 33 = .ok (.dup, 1) := by decide +kernel
theorem d_Li_take_34 : decode c_Li_take 34 = .ok (.getfield 21, 3) := by decide +kernel
theorem d_Li_take_37 : decode c_Li_take 37 = .ok (.iconst 1, 1) := by decide +kernel
theorem d_Li_take_38 : decode c_Li_take 38 = .ok (.isub, 1) := by decide +kernel
theorem d_Li_take_39 : decode c_Li_take 39 = .ok (.putfield 21, 3) := by decide +kernel
theorem d_Li_take_42 : decode c_Li_take 42 = .ok (.aload_n 1, 1) := by decide +kernel
theorem d_Li_take_43 : decode c_Li_take 43 = .ok (.areturn, 1) := by decide +kernel
theorem d_Li_oldestKind_0 : decode c_Li_oldestKind 0 = .ok (.aload_n 0, 1) := by decide +kernel
theorem d_Li_oldestKind_1 : decode c_Li_oldestKind 1 = .ok (.getfield 21, 3) := by decide +kernel
theorem d_Li_oldestKind_4 : decode c_Li_oldestKind 4 = .ok (.ifCond .ne 7, 3) := by decide +kernel
theorem d_Li_oldestKind_7 : decode c_Li_oldestKind 7 = .ok (.iconst 0, 1) := by decide +kernel
theorem d_Li_oldestKind_8 : decode c_Li_oldestKind 8 = .ok (.goto 15, 3) := by decide +kernel
theorem d_Li_oldestKind_11 : decode c_Li_oldestKind 11 = .ok (.aload_n 0, 1) := by decide +kernel
theorem d_Li_oldestKind_12 : decode c_Li_oldestKind 12 = .ok (.getfield 11, 3) := by decide +kernel
theorem d_Li_oldestKind_15 : decode c_Li_oldestKind 15 = .ok (.aload_n 0, 1) := by decide +kernel
theorem d_Li_oldestKind_16 : decode c_Li_oldestKind 16 = .ok (.getfield 17, 3) := by decide +kernel
theorem d_Li_oldestKind_19 : decode c_Li_oldestKind 19 = .ok (.aaload, 1) := by decide +kernel
theorem d_Li_oldestKind_20 : decode c_Li_oldestKind 20 = .ok (.getfield 29, 3) := by decide +kernel
theorem d_Li_oldestKind_23 : decode c_Li_oldestKind 23 = .ok (.ireturn, 1) := by decide +kernel
theorem d_Li_clear_0 : decode c_Li_clear 0 = .ok (.aload_n 0, 1) := by decide +kernel
theorem d_Li_clear_1 : decode c_Li_clear 1 = .ok (.iconst 0, 1) := by decide +kernel
theorem d_Li_clear_2 : decode c_Li_clear 2 = .ok (.putfield 21, 3) := by decide +kernel
theorem d_Li_clear_5 : decode c_Li_clear 5 = .ok (.return_, 1) := by decide +kernel
theorem d_Ms_init_0 : decode c_Ms_init 0 = .ok (.aload_n 0, 1) := by decide +kernel
theorem d_Ms_init_1 : decode c_Ms_init 1 = .ok (.invokespecial 3, 3) := by decide +kernel
theorem d_Ms_init_4 : decode c_Ms_init 4 = .ok (.aload_n 0, 1) := by decide +kernel
theorem d_Ms_init_5 : decode c_Ms_init 5 = .ok (.iconst 0, 1) := by decide +kernel
theorem d_Ms_init_6 : decode c_Ms_init 6 = .ok (.putfield 9, 3) := by decide +kernel
theorem d_Ms_init_9 : decode c_Ms_init 9 = .ok (.aload_n 0, 1) := by decide +kernel
theorem d_Ms_init_10 : decode c_Ms_init 10 = .ok (.iconst 0, 1) := by decide +kernel
theorem d_Ms_init_11 : decode c_Ms_init 11 = .ok (.putfield 15, 3) := by decide +kernel
theorem d_Ms_init_14 : decode c_Ms_init 14 = .ok (.aload_n 0, 1) := by decide +kernel
theorem d_Ms_init_15 : decode c_Ms_init 15 = .ok (.iconst 0, 1) := by decide +kernel
theorem d_Ms_init_16 : decode c_Ms_init 16 = .ok (.putfield 18, 3) := by decide +kernel
theorem d_Ms_init_19 : decode c_Ms_init 19 = .ok (.aload_n 0, 1) := by decide +kernel
theorem d_Ms_init_20 : decode c_Ms_init 20 = .ok (.iconst 0, 1) := by decide +kernel
theorem d_Ms_init_21 : decode c_Ms_init 21 = .ok (.putfield 21, 3) := by decide +kernel
theorem d_Ms_init_24 : decode c_Ms_init 24 = .ok (.aload_n 0, 1) := by decide +kernel
theorem d_Ms_init_25 : decode c_Ms_init 25 = .ok (.iconst 0, 1) := by decide +kernel
theorem d_Ms_init_26 : decode c_Ms_init 26 = .ok (.putfield 24, 3) := by decide +kernel
theorem d_Ms_init_29 : decode c_Ms_init 29 = .ok (.aload_n 0, 1) := by decide +kernel
theorem d_Ms_init_30 : decode c_Ms_init 30 = .ok (.iconst 0, 1) := by decide +kernel
theorem d_Ms_init_31 : decode c_Ms_init 31 = .ok (.putfield 27, 3) := by decide +kernel
theorem d_Ms_init_34 : decode c_Ms_init 34 = .ok (.aload_n 0, 1) := by decide +kernel
theorem d_Ms_init_35 : decode c_Ms_init 35 = .ok (.iconst 0, 1) := by decide +kernel
theorem d_Ms_init_36 : decode c_Ms_init 36 = .ok (.putfield 30, 3) := by decide +kernel
theorem d_Ms_init_39 : decode c_Ms_init 39 = .ok (.aload_n 0, 1) := by decide +kernel
theorem d_Ms_init_40 : decode c_Ms_init 40 = .ok (.bipush 40, 2) := by decide +kernel
theorem d_Ms_init_42 : decode c_Ms_init 42 = .ok (.newarray .int, 2) := by decide +kernel
theorem d_Ms_init_44 : decode c_Ms_init 44 = .ok (.putfield 33, 3) := by decide +kernel
theorem d_Ms_init_47 : decode c_Ms_init 47 = .ok (.return_, 1) := by decide +kernel
theorem d_Ms_startAs_0 : decode c_Ms_startAs 0 = .ok (.aload_n 0, 1) := by decide +kernel
theorem d_Ms_startAs_1 : decode c_Ms_startAs 1 = .ok (.iload_n 1, 1) := by decide +kernel
theorem d_Ms_startAs_2 : decode c_Ms_startAs 2 = .ok (.putfield 9, 3) := by decide +kernel
theorem d_Ms_startAs_5 : decode c_Ms_startAs 5 = .ok (.aload_n 0, 1) := by decide +kernel
theorem d_Ms_startAs_6 : decode c_Ms_startAs 6 = .ok (.iload_n 2, 1) := by decide +kernel
theorem d_Ms_startAs_7 : decode c_Ms_startAs 7 = .ok (.putfield 15, 3) := by decide +kernel
theorem d_Ms_startAs_10 : decode c_Ms_startAs 10 = .ok (.aload_n 0, 1) := by decide +kernel
theorem d_Ms_startAs_11 : decode c_Ms_startAs 11 = .ok (.iconst 0, 1) := by decide +kernel
theorem d_Ms_startAs_12 : decode c_Ms_startAs 12 = .ok (.putfield 30, 3) := by decide +kernel
theorem d_Ms_startAs_15 : decode c_Ms_startAs 15 = .ok (.return_, 1) := by decide +kernel
theorem d_Ms_addItem_0 : decode c_Ms_addItem 0 = .ok (.aload_n 0, 1) := by decide +kernel
theorem d_Ms_addItem_1 : decode c_Ms_addItem 1 = .ok (.getfield 30, 3) := by decide +kernel
theorem d_Ms_addItem_4 : decode c_Ms_addItem 4 = .ok (.bipush 40, 2) := by decide +kernel
theorem d_Ms_addItem_6 : decode c_Ms_addItem 6 = .ok (.if_icmp .ge 23, 3) := by decide +kernel
theorem d_Ms_addItem_9 : decode c_Ms_addItem 9 = .ok (.aload_n 0, 1) := by decide +kernel
theorem d_Ms_addItem_10 : decode c_Ms_addItem 10 = .ok (.getfield 33, 3) := by decide +kernel
theorem d_Ms_addItem_13 : decode c_Ms_addItem 13 = .ok (.aload_n 0, 1) := by decide +kernel
theorem d_Ms_addItem_14 : decode c_Ms_addItem 14 = .ok (.getfield 30, 3) := by decide +kernel
theorem d_Ms_addItem_17 : decode c_Ms_addItem 17 = .ok (.iload_n 1, 1) := by decide +kernel
theorem d_Ms_addItem_18 : decode c_Ms_addItem 18 = .ok (.iastore, 1) := by decide +kernel
theorem d_Ms_addItem_19 : decode c_Ms_addItem 19 = .ok (.aload_n 0, 1) := by decide +kernel
theorem d_Ms_addItem_20 : decode c_Ms_addItem 20 = .ok (.dup, 1) := by decide +kernel
theorem d_Ms_addItem_21 : decode c_Ms_addItem 21 = .ok (.getfield 30, 3) := by decide +kernel
theorem d_Ms_addItem_24 : decode c_Ms_addItem 24 = .ok (.iconst 1, 1) := by decide +kernel
theorem d_Ms_addItem_25 : decode c_Ms_addItem 25 = .ok (.iadd, 1) := by decide +kernel
theorem d_Ms_addItem_26 : decode c_Ms_addItem 26 = .ok (.putfield 30, 3) := by decide +kernel
theorem d_Ms_addItem_29 : decode c_Ms_addItem 29 = .ok (.return_, 1) := by decide +kernel
theorem d_Ro_init_0 : decode c_Ro_init 0 = .ok (.aload_n 0, 1) := by decide +kernel
theorem d_Ro_init_1 : decode c_Ro_init 1 = .ok (.invokespecial 3, 3) := by decide +kernel
theorem d_Ro_init_4 : decode c_Ro_init 4 = .ok (.aload_n 0, 1) := by decide +kernel
theorem d_Ro_init_5 : decode c_Ro_init 5 = .ok (.bipush 40, 2) := by decide +kernel
theorem d_Ro_init_7 : decode c_Ro_init 7 = .ok (.newarray .int, 2) := by decide +kernel
theorem d_Ro_init_9 : decode c_Ro_init 9 = .ok (.putfield 9, 3) := by decide +kernel
theorem d_Ro_init_12 : decode c_Ro_init 12 = .ok (.aload_n 0, 1) := by decide +kernel
theorem d_Ro_init_13 : decode c_Ro_init 13 = .ok (.iconst 0, 1) := by decide +kernel
theorem d_Ro_init_14 : decode c_Ro_init 14 = .ok (.putfield 15, 3) := by decide +kernel
theorem d_Ro_init_17 : decode c_Ro_init 17 = .ok (.return_, 1) := by decide +kernel
theorem d_Ro_isFull_0 : decode c_Ro_isFull 0 = .ok (.aload_n 0, 1) := by decide +kernel
theorem d_Ro_isFull_1 : decode c_Ro_isFull 1 = .ok (.getfield 15, 3) := by decide +kernel
theorem d_Ro_isFull_4 : decode c_Ro_isFull 4 = .ok (.bipush 40, 2) := by decide +kernel
theorem d_Ro_isFull_6 : decode c_Ro_isFull 6 = .ok (.if_icmp .lt 7, 3) := by decide +kernel
theorem d_Ro_isFull_9 : decode c_Ro_isFull 9 = .ok (.iconst 1, 1) := by decide +kernel
theorem d_Ro_isFull_10 : decode c_Ro_isFull 10 = .ok (.goto 4, 3) := by decide +kernel
theorem d_Ro_isFull_13 : decode c_Ro_isFull 13 = .ok (.iconst 0, 1) := by decide +kernel
theorem d_Ro_isFull_14 : decode c_Ro_isFull 14 = .ok (.ireturn, 1) := by decide +kernel
theorem d_Ro_holds_0 : decode c_Ro_holds 0 = .ok (.iload_n 1, 1) := by decide +kernel
theorem d_Ro_holds_1 : decode c_Ro_holds 1 = .ok (.ifCond .lt 15, 3) := by decide +kernel
theorem d_Ro_holds_4 : decode c_Ro_holds 4 = .ok (.iload_n 1, 1) := by decide +kernel
theorem d_Ro_holds_5 : decode c_Ro_holds 5 = .ok (.aload_n 0, 1) := by decide +kernel
theorem d_Ro_holds_6 : decode c_Ro_holds 6 = .ok (.getfield 15, 3) := by decide +kernel
theorem d_Ro_holds_9 : decode c_Ro_holds 9 = .ok (.if_icmp .ge 7, 3) := by decide +kernel
theorem d_Ro_holds_12 : decode c_Ro_holds 12 = .ok (.iconst 1, 1) := by decide +kernel
theorem d_Ro_holds_13 : decode c_Ro_holds 13 = .ok (.goto 4, 3) := by decide +kernel
theorem d_Ro_holds_16 : decode c_Ro_holds 16 = .ok (.iconst 0, 1) := by decide +kernel
theorem d_Ro_holds_17 : decode c_Ro_holds 17 = .ok (.ireturn, 1) := by decide +kernel
theorem d_Ro_byteAt_0 : decode c_Ro_byteAt 0 = .ok (.iload_n 1, 1) := by decide +kernel
theorem d_Ro_byteAt_1 : decode c_Ro_byteAt 1 = .ok (.ifCond .lt 20, 3) := by decide +kernel
theorem d_Ro_byteAt_4 : decode c_Ro_byteAt 4 = .ok (.iload_n 1, 1) := by decide +kernel
theorem d_Ro_byteAt_5 : decode c_Ro_byteAt 5 = .ok (.aload_n 0, 1) := by decide +kernel
theorem d_Ro_byteAt_6 : decode c_Ro_byteAt 6 = .ok (.getfield 15, 3) := by decide +kernel
theorem d_Ro_byteAt_9 : decode c_Ro_byteAt 9 = .ok (.if_icmp .ge 12, 3) := by decide +kernel
theorem d_Ro_byteAt_12 : decode c_Ro_byteAt 12 = .ok (.aload_n 0, 1) := by decide +kernel
theorem d_Ro_byteAt_13 : decode c_Ro_byteAt 13 = .ok (.getfield 9, 3) := by decide +kernel
theorem d_Ro_byteAt_16 : decode c_Ro_byteAt 16 = .ok (.iload_n 1, 1) := by decide +kernel
theorem d_Ro_byteAt_17 : decode c_Ro_byteAt 17 = .ok (.iaload, 1) := by decide +kernel
theorem d_Ro_byteAt_18 : decode c_Ro_byteAt 18 = .ok (.goto 4, 3) := by decide +kernel
theorem d_Ro_byteAt_21 : decode c_Ro_byteAt 21 = .ok (.iconst (-1), 1) := by decide +kernel
theorem d_Ro_byteAt_22 : decode c_Ro_byteAt 22 = .ok (.ireturn, 1) := by decide +kernel
theorem d_Ro_clear_0 : decode c_Ro_clear 0 = .ok (.aload_n 0, 1) := by decide +kernel
theorem d_Ro_clear_1 : decode c_Ro_clear 1 = .ok (.iconst 0, 1) := by decide +kernel
theorem d_Ro_clear_2 : decode c_Ro_clear 2 = .ok (.putfield 15, 3) := by decide +kernel
theorem d_Ro_clear_5 : decode c_Ro_clear 5 = .ok (.return_, 1) := by decide +kernel
theorem d_Ro_append_0 : decode c_Ro_append 0 = .ok (.aload_n 0, 1) := by decide +kernel
theorem d_Ro_append_1 : decode c_Ro_append 1 = .ok (.getfield 15, 3) := by decide +kernel
theorem d_Ro_append_4 : decode c_Ro_append 4 = .ok (.bipush 40, 2) := by decide +kernel
theorem d_Ro_append_6 : decode c_Ro_append 6 = .ok (.if_icmp .ge 23, 3) := by decide +kernel
theorem d_Ro_append_9 : decode c_Ro_append 9 = .ok (.aload_n 0, 1) := by decide +kernel
theorem d_Ro_append_10 : decode c_Ro_append 10 = .ok (.getfield 9, 3) := by decide +kernel
theorem d_Ro_append_13 : decode c_Ro_append 13 = .ok (.aload_n 0, 1) := by decide +kernel
theorem d_Ro_append_14 : decode c_Ro_append 14 = .ok (.getfield 15, 3) := by decide +kernel
theorem d_Ro_append_17 : decode c_Ro_append 17 = .ok (.iload_n 1, 1) := by decide +kernel
theorem d_Ro_append_18 : decode c_Ro_append 18 = .ok (.iastore, 1) := by decide +kernel
theorem d_Ro_append_19 : decode c_Ro_append 19 = .ok (.aload_n 0, 1) := by decide +kernel
theorem d_Ro_append_20 : decode c_Ro_append 20 = .ok (.dup, 1) := by decide +kernel
theorem d_Ro_append_21 : decode c_Ro_append 21 = .ok (.getfield 15, 3) := by decide +kernel
theorem d_Ro_append_24 : decode c_Ro_append 24 = .ok (.iconst 1, 1) := by decide +kernel
theorem d_Ro_append_25 : decode c_Ro_append 25 = .ok (.iadd, 1) := by decide +kernel
theorem d_Ro_append_26 : decode c_Ro_append 26 = .ok (.putfield 15, 3) := by decide +kernel
theorem d_Ro_append_29 : decode c_Ro_append 29 = .ok (.return_, 1) := by decide +kernel
theorem d_Ro_replace_0 : decode c_Ro_replace 0 = .ok (.aload_n 0, 1) := by decide +kernel
theorem d_Ro_replace_1 : decode c_Ro_replace 1 = .ok (.iload_n 1, 1) := by decide +kernel
theorem d_Ro_replace_2 : decode c_Ro_replace 2 = .ok (.invokevirtual 19, 3) := by decide +kernel
theorem d_Ro_replace_5 : decode c_Ro_replace 5 = .ok (.ifCond .eq 10, 3) := by decide +kernel
theorem d_Ro_replace_8 : decode c_Ro_replace 8 = .ok (.aload_n 0, 1) := by decide +kernel
theorem d_Ro_replace_9 : decode c_Ro_replace 9 = .ok (.getfield 9, 3) := by decide +kernel
theorem d_Ro_replace_12 : decode c_Ro_replace 12 = .ok (.iload_n 1, 1) := by decide +kernel
theorem d_Ro_replace_13 : decode c_Ro_replace 13 = .ok (.iload_n 2, 1) := by decide +kernel
theorem d_Ro_replace_14 : decode c_Ro_replace 14 = .ok (.iastore, 1) := by decide +kernel
theorem d_Ro_replace_15 : decode c_Ro_replace 15 = .ok (.return_, 1) := by decide +kernel
theorem d_Ro_appendPart_0 : decode c_Ro_appendPart 0 = .ok (.iconst 0, 1) := by decide +kernel
theorem d_Ro_appendPart_1 : decode c_Ro_appendPart 1 = .ok (.istore 4, 2) := by decide +kernel
theorem d_Ro_appendPart_3 : decode c_Ro_appendPart 3 = .ok (.iload 4, 2) := by decide +kernel
theorem d_Ro_appendPart_5 : decode c_Ro_appendPart 5 = .ok (.iload_n 3, 1) := by decide +kernel
theorem d_Ro_appendPart_6 : decode c_Ro_appendPart 6 = .ok (.if_icmp .ge 33, 3) := by decide +kernel
theorem d_Ro_appendPart_9 : decode c_Ro_appendPart 9 = .ok (.aload_n 1, 1) := by decide +kernel
theorem d_Ro_appendPart_10 : decode c_Ro_appendPart 10 = .ok (.iload_n 2, 1) := by decide +kernel
theorem d_Ro_appendPart_11 : decode c_Ro_appendPart 11 = .ok (.iload 4, 2) := by decide +kernel
theorem d_Ro_appendPart_13 : decode c_Ro_appendPart 13 = .ok (.iadd, 1) := by decide +kernel
theorem d_Ro_appendPart_14 : decode c_Ro_appendPart 14 = .ok (.invokevirtual 19, 3) := by decide +kernel
theorem d_Ro_appendPart_17 : decode c_Ro_appendPart 17 = .ok (.ifCond .eq 16, 3) := by decide +kernel
theorem d_Ro_appendPart_20 : decode c_Ro_appendPart 20 = .ok (.aload_n 0, 1) := by decide +kernel
theorem d_Ro_appendPart_21 : decode c_Ro_appendPart 21 = .ok (.aload_n 1, 1) := by decide +kernel
theorem d_Ro_appendPart_22 : decode c_Ro_appendPart 22 = .ok (.getfield 9, 3) := by decide +kernel
theorem d_Ro_appendPart_25 : decode c_Ro_appendPart 25 = .ok (.iload_n 2, 1) := by decide +kernel
theorem d_Ro_appendPart_26 : decode c_Ro_appendPart 26 = .ok (.iload 4, 2) := by decide +kernel
theorem d_Ro_appendPart_28 : decode c_Ro_appendPart 28 = .ok (.iadd, 1) := by decide +kernel
theorem d_Ro_appendPart_29 : decode c_Ro_appendPart 29 = .ok (.iaload, 1) := by decide +kernel
theorem d_Ro_appendPart_30 : decode c_Ro_appendPart 30 = .ok (.invokevirtual 23, 3) := by decide +kernel
theorem d_Ro_appendPart_33 : decode c_Ro_appendPart 33 = .ok (.iinc 4 1, 3) := by decide +kernel
theorem d_Ro_appendPart_36 : decode c_Ro_appendPart 36 = .ok (.goto (-33), 3) := by decide +kernel
theorem d_Ro_appendPart_39 : decode c_Ro_appendPart 39 = .ok (.return_, 1) := by decide +kernel
theorem d_Ro_become_0 : decode c_Ro_become 0 = .ok (.aload_n 0, 1) := by decide +kernel
theorem d_Ro_become_1 : decode c_Ro_become 1 = .ok (.aload_n 1, 1) := by decide +kernel
theorem d_Ro_become_2 : decode c_Ro_become 2 = .ok (.getfield 15, 3) := by decide +kernel
theorem d_Ro_become_5 : decode c_Ro_become 5 = .ok (.putfield 15, 3) := by decide +kernel
theorem d_Ro_become_8 : decode c_Ro_become 8 = .ok (.iconst 0, 1) := by decide +kernel
theorem d_Ro_become_9 : decode c_Ro_become 9 = .ok (.istore_n 2, 1) := by decide +kernel
theorem d_Ro_become_10 : decode c_Ro_become 10 = .ok (.iload_n 2, 1) := by decide +kernel
theorem d_Ro_become_11 : decode c_Ro_become 11 = .ok (.aload_n 0, 1) := by decide +kernel
theorem d_Ro_become_12 : decode c_Ro_become 12 = .ok (.getfield 15, 3) := by decide +kernel
theorem d_Ro_become_15 : decode c_Ro_become 15 = .ok (.if_icmp .ge 21, 3) := by decide +kernel
theorem d_Ro_become_18 : decode c_Ro_become 18 = .ok (.aload_n 0, 1) := by decide +kernel
theorem d_Ro_become_19 : decode c_Ro_become 19 = .ok (.getfield 9, 3) := by decide +kernel
theorem d_Ro_become_22 : decode c_Ro_become 22 = .ok (.iload_n 2, 1) := by decide +kernel
theorem d_Ro_become_23 : decode c_Ro_become 23 = .ok (.aload_n 1, 1) := by decide +kernel
theorem d_Ro_become_24 : decode c_Ro_become 24 = .ok (.getfield 9, 3) := by decide +kernel
theorem d_Ro_become_27 : decode c_Ro_become 27 = .ok (.iload_n 2, 1) := by decide +kernel
theorem d_Ro_become_28 : decode c_Ro_become 28 = .ok (.iaload, 1) := by decide +kernel
theorem d_Ro_become_29 : decode c_Ro_become 29 = .ok (.iastore, 1) := by decide +kernel
theorem d_Ro_become_30 : decode c_Ro_become 30 = .ok (.iinc 2 1, 3) := by decide +kernel
theorem d_Ro_become_33 : decode c_Ro_become 33 = .ok (.goto (-23), 3) := by decide +kernel
theorem d_Ro_become_36 : decode c_Ro_become 36 = .ok (.return_, 1) := by decide +kernel
theorem d_Ro_sums_0 : decode c_Ro_sums 0 = .ok (.aload_n 0, 1) := by decide +kernel
theorem d_Ro_sums_1 : decode c_Ro_sums 1 = .ok (.iload_n 1, 1) := by decide +kernel
theorem d_Ro_sums_2 : decode c_Ro_sums 2 = .ok (.iload_n 2, 1) := by decide +kernel
theorem d_Ro_sums_3 : decode c_Ro_sums 3 = .ok (.invokevirtual 27, 3) := by decide +kernel
theorem d_Ro_sums_6 : decode c_Ro_sums 6 = .ok (.istore 4, 2) := by decide +kernel
theorem d_Ro_sums_8 : decode c_Ro_sums 8 = .ok (.iload_n 3, 1) := by decide +kernel
theorem d_Ro_sums_9 : decode c_Ro_sums 9 = .ok (.iconst 1, 1) := by decide +kernel
theorem d_Ro_sums_10 : decode c_Ro_sums 10 = .ok (.if_icmp .ne 10, 3) := by decide +kernel
theorem d_Ro_sums_13 : decode c_Ro_sums 13 = .ok (.iload 4, 2) := by decide +kernel
theorem d_Ro_sums_15 : decode c_Ro_sums 15 = .ok (.iconst 4, 1) := by decide +kernel
theorem d_Ro_sums_16 : decode c_Ro_sums 16 = .ok (.irem, 1) := by decide +kernel
theorem d_Ro_sums_17 : decode c_Ro_sums 17 = .ok (.goto 5, 3) := by decide +kernel
theorem d_Ro_sums_20 : decode c_Ro_sums 20 = .ok (.iload 4, 2) := by decide +kernel
theorem d_Ro_sums_22 : decode c_Ro_sums 22 = .ok (.istore 5, 2) := by decide +kernel
theorem d_Ro_sums_24 : decode c_Ro_sums 24 = .ok (.aload_n 0, 1) := by decide +kernel
theorem d_Ro_sums_25 : decode c_Ro_sums 25 = .ok (.iload_n 1, 1) := by decide +kernel
theorem d_Ro_sums_26 : decode c_Ro_sums 26 = .ok (.iload_n 2, 1) := by decide +kernel
theorem d_Ro_sums_27 : decode c_Ro_sums 27 = .ok (.invokevirtual 31, 3) := by decide +kernel
theorem d_Ro_sums_30 : decode c_Ro_sums 30 = .ok (.sipush 256, 3) := by decide +kernel
theorem d_Ro_sums_33 : decode c_Ro_sums 33 = .ok (.iload 5, 2) := by decide +kernel
theorem d_Ro_sums_35 : decode c_Ro_sums 35 = .ok (.imul, 1) := by decide +kernel
theorem d_Ro_sums_36 : decode c_Ro_sums 36 = .ok (.iadd, 1) := by decide +kernel
theorem d_Ro_sums_37 : decode c_Ro_sums 37 = .ok (.ireturn, 1) := by decide +kernel
theorem d_Ro_weakSum_0 : decode c_Ro_weakSum 0 = .ok (.iconst 0, 1) := by decide +kernel
theorem d_Ro_weakSum_1 : decode c_Ro_weakSum 1 = .ok (.istore_n 3, 1) := by decide +kernel
theorem d_Ro_weakSum_2 : decode c_Ro_weakSum 2 = .ok (.iconst 0, 1) := by decide +kernel
theorem d_Ro_weakSum_3 : decode c_Ro_weakSum 3 = .ok (.istore 4, 2) := by decide +kernel
theorem d_Ro_weakSum_5 : decode c_Ro_weakSum 5 = .ok (.iconst 0, 1) := by decide +kernel
theorem d_Ro_weakSum_6 : decode c_Ro_weakSum 6 = .ok (.istore 5, 2) := by decide +kernel
theorem d_Ro_weakSum_8 : decode c_Ro_weakSum 8 = .ok (.iload 5, 2) := by decide +kernel
theorem d_Ro_weakSum_10 : decode c_Ro_weakSum 10 = .ok (.iload_n 2, 1) := by decide +kernel
theorem d_Ro_weakSum_11 : decode c_Ro_weakSum 11 = .ok (.if_icmp .ge 36, 3) := by decide +kernel
theorem d_Ro_weakSum_14 : decode c_Ro_weakSum 14 = .ok (.aload_n 0, 1) := by decide +kernel
theorem d_Ro_weakSum_15 : decode c_Ro_weakSum 15 = .ok (.iload_n 1, 1) := by decide +kernel
theorem d_Ro_weakSum_16 : decode c_Ro_weakSum 16 = .ok (.iload 5, 2) := by decide +kernel
theorem d_Ro_weakSum_18 : decode c_Ro_weakSum 18 = .ok (.iadd, 1) := by decide +kernel
theorem d_Ro_weakSum_19 : decode c_Ro_weakSum 19 = .ok (.invokevirtual 34, 3) := by decide +kernel
theorem d_Ro_weakSum_22 : decode c_Ro_weakSum 22 = .ok (.istore 6, 2) := by decide +kernel
theorem d_Ro_weakSum_24 : decode c_Ro_weakSum 24 = .ok (.iload_n 3, 1) := by decide +kernel
theorem d_Ro_weakSum_25 : decode c_Ro_weakSum 25 = .ok (.iload 6, 2) := by decide +kernel
theorem d_Ro_weakSum_27 : decode c_Ro_weakSum 27 = .ok (.iadd, 1) := by decide +kernel
theorem d_Ro_weakSum_28 : decode c_Ro_weakSum 28 = .ok (.istore_n 3, 1) := by decide +kernel
theorem d_Ro_weakSum_29 : decode c_Ro_weakSum 29 = .ok (.iload 4, 2) := by decide +kernel
theorem d_Ro_weakSum_31 : decode c_Ro_weakSum 31 = .ok (.iload_n 2, 1) := by decide +kernel
theorem d_Ro_weakSum_32 : decode c_Ro_weakSum 32 = .ok (.iload 5, 2) := by decide +kernel
theorem d_Ro_weakSum_34 : decode c_Ro_weakSum 34 = .ok (.isub, 1) := by decide +kernel
theorem d_Ro_weakSum_35 : decode c_Ro_weakSum 35 = .ok (.iload 6, 2) := by decide +kernel
theorem d_Ro_weakSum_37 : decode c_Ro_weakSum 37 = .ok (.imul, 1) := by decide +kernel
theorem d_Ro_weakSum_38 : decode c_Ro_weakSum 38 = .ok (.iadd, 1) := by decide +kernel
theorem d_Ro_weakSum_39 : decode c_Ro_weakSum 39 = .ok (.istore 4, 2) := by decide +kernel
theorem d_Ro_weakSum_41 : decode c_Ro_weakSum 41 = .ok (.iinc 5 1, 3) := by decide +kernel
theorem d_Ro_weakSum_44 : decode c_Ro_weakSum 44 = .ok (.goto (-36), 3) := by decide +kernel
theorem d_Ro_weakSum_47 : decode c_Ro_weakSum 47 = .ok (.iload_n 3, 1) := by decide +kernel
theorem d_Ro_weakSum_48 : decode c_Ro_weakSum 48 = .ok (.bipush 16, 2) := by decide +kernel
theorem d_Ro_weakSum_50 : decode c_Ro_weakSum 50 = .ok (.irem, 1) := by decide +kernel
theorem d_Ro_weakSum_51 : decode c_Ro_weakSum 51 = .ok (.bipush 16, 2) := by decide +kernel
theorem d_Ro_weakSum_53 : decode c_Ro_weakSum 53 = .ok (.iload 4, 2) := by decide +kernel
theorem d_Ro_weakSum_55 : decode c_Ro_weakSum 55 = .ok (.bipush 16, 2) := by decide +kernel
theorem d_Ro_weakSum_57 : decode c_Ro_weakSum 57 = .ok (.irem, 1) := by decide +kernel
theorem d_Ro_weakSum_58 : decode c_Ro_weakSum 58 = .ok (.imul, 1) := by decide +kernel
theorem d_Ro_weakSum_59 : decode c_Ro_weakSum 59 = .ok (.iadd, 1) := by decide +kernel
theorem d_Ro_weakSum_60 : decode c_Ro_weakSum 60 = .ok (.ireturn, 1) := by decide +kernel
theorem d_Ro_strongSum_0 : decode c_Ro_strongSum 0 = .ok (.iconst 0, 1) := by decide +kernel
theorem d_Ro_strongSum_1 : decode c_Ro_strongSum 1 = .ok (.istore_n 3, 1) := by decide +kernel
theorem d_Ro_strongSum_2 : decode c_Ro_strongSum 2 = .ok (.iconst 0, 1) := by decide +kernel
theorem d_Ro_strongSum_3 : decode c_Ro_strongSum 3 = .ok (.istore 4, 2) := by decide +kernel
theorem d_Ro_strongSum_5 : decode c_Ro_strongSum 5 = .ok (.iload 4, 2) := by decide +kernel
theorem d_Ro_strongSum_7 : decode c_Ro_strongSum 7 = .ok (.iload_n 2, 1) := by decide +kernel
theorem d_Ro_strongSum_8 : decode c_Ro_strongSum 8 = .ok (.if_icmp .ge 28, 3) := by decide +kernel
theorem d_Ro_strongSum_11 : decode c_Ro_strongSum 11 = .ok (.iload_n 3, 1) := by decide +kernel
theorem d_Ro_strongSum_12 : decode c_Ro_strongSum 12 = .ok (.bipush 31, 2) := by decide +kernel
theorem d_Ro_strongSum_14 : decode c_Ro_strongSum 14 = .ok (.imul, 1) := by decide +kernel
theorem d_Ro_strongSum_15 : decode c_Ro_strongSum 15 = .ok (.aload_n 0, 1) := by decide +kernel
theorem d_Ro_strongSum_16 : decode c_Ro_strongSum 16 = .ok (.iload_n 1, 1) := by decide +kernel
theorem d_Ro_strongSum_17 : decode c_Ro_strongSum 17 = .ok (.iload 4, 2) := by decide +kernel
theorem d_Ro_strongSum_19 : decode c_Ro_strongSum 19 = .ok (.iadd, 1) := by decide +kernel
theorem d_Ro_strongSum_20 : decode c_Ro_strongSum 20 = .ok (.invokevirtual 34, 3) := by decide +kernel
theorem d_Ro_strongSum_23 : decode c_Ro_strongSum 23 = .ok (.iadd, 1) := by decide +kernel
theorem d_Ro_strongSum_24 : decode c_Ro_strongSum 24 = .ok (.iconst 1, 1) := by decide +kernel
theorem d_Ro_strongSum_25 : decode c_Ro_strongSum 25 = .ok (.iadd, 1) := by decide +kernel
theorem d_Ro_strongSum_26 : decode c_Ro_strongSum 26 = .ok (.ldc 38, 2) := by decide +kernel
theorem d_Ro_strongSum_28 : decode c_Ro_strongSum 28 = .ok (.irem, 1) := by decide +kernel
theorem d_Ro_strongSum_29 : decode c_Ro_strongSum 29 = .ok (.istore_n 3, 1) := by decide +kernel
theorem d_Ro_strongSum_30 : decode c_Ro_strongSum 30 = .ok (.iinc 4 1, 3) := by decide +kernel
theorem d_Ro_strongSum_33 : decode c_Ro_strongSum 33 = .ok (.goto (-28), 3) := by decide +kernel
theorem d_Ro_strongSum_36 : decode c_Ro_strongSum 36 = .ok (.iload_n 3, 1) := by decide +kernel
theorem d_Ro_strongSum_37 : decode c_Ro_strongSum 37 = .ok (.ireturn, 1) := by decide +kernel
theorem d_Ro_digest_0 : decode c_Ro_digest 0 = .ok (.ldc 39, 2) := by decide +kernel
theorem d_Ro_digest_2 : decode c_Ro_digest 2 = .ok (.istore_n 1, 1) := by decide +kernel
theorem d_Ro_digest_3 : decode c_Ro_digest 3 = .ok (.iconst 0, 1) := by decide +kernel
theorem d_Ro_digest_4 : decode c_Ro_digest 4 = .ok (.istore_n 2, 1) := by decide +kernel
theorem d_Ro_digest_5 : decode c_Ro_digest 5 = .ok (.iload_n 2, 1) := by decide +kernel
theorem d_Ro_digest_6 : decode c_Ro_digest 6 = .ok (.aload_n 0, 1) := by decide +kernel
theorem d_Ro_digest_7 : decode c_Ro_digest 7 = .ok (.getfield 15, 3) := by decide +kernel
theorem d_Ro_digest_10 : decode c_Ro_digest 10 = .ok (.if_icmp .ge 21, 3) := by decide +kernel
theorem d_Ro_digest_13 : decode c_Ro_digest 13 = .ok (.iload_n 1, 1) := by decide +kernel
theorem d_Ro_digest_14 : decode c_Ro_digest 14 = .ok (.aload_n 0, 1) := by decide +kernel
theorem d_Ro_digest_15 : decode c_Ro_digest 15 = .ok (.getfield 9, 3) := by decide +kernel
theorem d_Ro_digest_18 : decode c_Ro_digest 18 = .ok (.iload_n 2, 1) := by decide +kernel
theorem d_Ro_digest_19 : decode c_Ro_digest 19 = .ok (.iaload, 1) := by decide +kernel
theorem d_Ro_digest_20 : decode c_Ro_digest 20 = .ok (.ixor, 1) := by decide +kernel
theorem d_Ro_digest_21 : decode c_Ro_digest 21 = .ok (.ldc 40, 2) := by decide +kernel
theorem d_Ro_digest_23 : decode c_Ro_digest 23 = .ok (.imul, 1) := by decide +kernel
theorem d_Ro_digest_24 : decode c_Ro_digest 24 = .ok (.istore_n 1, 1) := by decide +kernel
theorem d_Ro_digest_25 : decode c_Ro_digest 25 = .ok (.iinc 2 1, 3) := by decide +kernel
theorem d_Ro_digest_28 : decode c_Ro_digest 28 = .ok (.goto (-23), 3) := by decide +kernel
theorem d_Ro_digest_31 : decode c_Ro_digest 31 = .ok (.iload_n 1, 1) := by decide +kernel
theorem d_Ro_digest_32 : decode c_Ro_digest 32 = .ok (.ireturn, 1) := by decide +kernel
theorem d_Ru_init_0 : decode c_Ru_init 0 = .ok (.aload_n 0, 1) := by decide +kernel
theorem d_Ru_init_1 : decode c_Ru_init 1 = .ok (.invokespecial 3, 3) := by decide +kernel
theorem d_Ru_init_4 : decode c_Ru_init 4 = .ok (.aload_n 0, 1) := by decide +kernel
theorem d_Ru_init_5 : decode c_Ru_init 5 = .ok (.bipush 6, 2) := by decide +kernel
theorem d_Ru_init_7 : decode c_Ru_init 7 = .ok (.newarray .boolean, 2) := by decide +kernel
theorem d_Ru_init_9 : decode c_Ru_init 9 = .ok (.putfield 9, 3) := by decide +kernel
theorem d_Ru_init_12 : decode c_Ru_init 12 = .ok (.aload_n 0, 1) := by decide +kernel
theorem d_Ru_init_13 : decode c_Ru_init 13 = .ok (.bipush 6, 2) := by decide +kernel
theorem d_Ru_init_15 : decode c_Ru_init 15 = .ok (.newarray .int, 2) := by decide +kernel
theorem d_Ru_init_17 : decode c_Ru_init 17 = .ok (.putfield 15, 3) := by decide +kernel
theorem d_Ru_init_20 : decode c_Ru_init 20 = .ok (.aload_n 0, 1) := by decide +kernel
theorem d_Ru_init_21 : decode c_Ru_init 21 = .ok (.bipush 6, 2) := by decide +kernel
theorem d_Ru_init_23 : decode c_Ru_init 23 = .ok (.newarray .int, 2) := by decide +kernel
theorem d_Ru_init_25 : decode c_Ru_init 25 = .ok (.putfield 19, 3) := by decide +kernel
theorem d_Ru_init_28 : decode c_Ru_init 28 = .ok (.aload_n 0, 1) := by decide +kernel
theorem d_Ru_init_29 : decode c_Ru_init 29 = .ok (.iconst 0, 1) := by decide +kernel
theorem d_Ru_init_30 : decode c_Ru_init 30 = .ok (.putfield 22, 3) := by decide +kernel
theorem d_Ru_init_33 : decode c_Ru_init 33 = .ok (.return_, 1) := by decide +kernel
theorem d_Ru_append_0 : decode c_Ru_append 0 = .ok (.aload_n 0, 1) := by decide +kernel
theorem d_Ru_append_1 : decode c_Ru_append 1 = .ok (.getfield 22, 3) := by decide +kernel
theorem d_Ru_append_4 : decode c_Ru_append 4 = .ok (.bipush 6, 2) := by decide +kernel
theorem d_Ru_append_6 : decode c_Ru_append 6 = .ok (.if_icmp .lt 5, 3) := by decide +kernel
theorem d_Ru_append_9 : decode c_Ru_append 9 = .ok (.iconst 0, 1) := by decide +kernel
theorem d_Ru_append_10 : decode c_Ru_append 10 = .ok (.ireturn, 1) := by decide +kernel
theorem d_Ru_append_11 : decode c_Ru_append 11 = .ok (.aload_n 0, 1) := by decide +kernel
theorem d_Ru_append_12 : decode c_Ru_append 12 = .ok (.getfield 9, 3) := by decide +kernel
theorem d_Ru_append_15 : decode c_Ru_append 15 = .ok (.aload_n 0, 1) := by decide +kernel
theorem d_Ru_append_16 : decode c_Ru_append 16 = .ok (.getfield 22, 3) := by decide +kernel
theorem d_Ru_append_19 : decode c_Ru_append 19 = .ok (.iload_n 1, 1) := by decide +kernel
theorem d_Ru_append_20 : decode c_Ru_append 20 = .ok (.bastore, 1) := by decide +kernel
theorem d_Ru_append_21 : decode c_Ru_append 21 = .ok (.aload_n 0, 1) := by decide +kernel
theorem d_Ru_append_22 : decode c_Ru_append 22 = .ok (.getfield 15, 3) := by decide +kernel
theorem d_Ru_append_25 : decode c_Ru_append 25 = .ok (.aload_n 0, 1) := by decide +kernel
theorem d_Ru_append_26 : decode c_Ru_append 26 = .ok (.getfield 22, 3) := by decide +kernel
theorem d_Ru_append_29 : decode c_Ru_append 29 = .ok (.iload_n 2, 1) := by decide +kernel
theorem d_Ru_append_30 : decode c_Ru_append 30 = .ok (.iastore, 1) := by decide +kernel
theorem d_Ru_append_31 : decode c_Ru_append 31 = .ok (.aload_n 0, 1) := by decide +kernel
theorem d_Ru_append_32 : decode c_Ru_append 32 = .ok (.getfield 19, 3) := by decide +kernel
theorem d_Ru_append_35 : decode c_Ru_append 35 = .ok (.aload_n 0, 1) := by decide +kernel
theorem d_Ru_append_36 : decode c_Ru_append 36 = .ok (.getfield 22, 3) := by decide +kernel
theorem d_Ru_append_39 : decode c_Ru_append 39 = .ok (.iload_n 3, 1) := by decide +kernel
theorem d_Ru_append_40 : decode c_Ru_append 40 = .ok (.iastore, 1) := by decide +kernel
theorem d_Ru_append_41 : decode c_Ru_append 41 = .ok (.aload_n 0, 1) := by decide +kernel
theorem d_Ru_append_42 : decode c_Ru_append 42 = .ok (.dup, 1) := by decide +kernel
theorem d_Ru_append_43 : decode c_Ru_append 43 = .ok (.getfield 22, 3) := by decide +kernel
theorem d_Ru_append_46 : decode c_Ru_append 46 = .ok (.iconst 1, 1) := by decide +kernel
theorem d_Ru_append_47 : decode c_Ru_append 47 = .ok (.iadd, 1) := by decide +kernel
theorem d_Ru_append_48 : decode c_Ru_append 48 = .ok (.putfield 22, 3) := by decide +kernel
theorem d_Ru_append_51 : decode c_Ru_append 51 = .ok (.iconst 1, 1) := by decide +kernel
theorem d_Ru_append_52 : decode c_Ru_append 52 = .ok (.ireturn, 1) := by decide +kernel
theorem d_Ru_select_0 : decode c_Ru_select 0 = .ok (.iconst 0, 1) := by decide +kernel
theorem d_Ru_select_1 : decode c_Ru_select 1 = .ok (.istore_n 2, 1) := by decide +kernel
theorem d_Ru_select_2 : decode c_Ru_select 2 = .ok (.iload_n 2, 1) := by decide +kernel
theorem d_Ru_select_3 : decode c_Ru_select 3 = .ok (.aload_n 0, 1) := by decide +kernel
theorem d_Ru_select_4 : decode c_Ru_select 4 = .ok (.getfield 22, 3) := by decide +kernel
theorem d_Ru_select_7 : decode c_Ru_select 7 = .ok (.if_icmp .ge 33, 3) := by decide +kernel
theorem d_Ru_select_10 : decode c_Ru_select 10 = .ok (.iload_n 1, 1) := by decide +kernel
theorem d_Ru_select_11 : decode c_Ru_select 11 = .ok (.aload_n 0, 1) := by decide +kernel
theorem d_Ru_select_12 : decode c_Ru_select 12 = .ok (.getfield 15, 3) := by decide +kernel
theorem d_Ru_select_15 : decode c_Ru_select 15 = .ok (.iload_n 2, 1) := by decide +kernel
theorem d_Ru_select_16 : decode c_Ru_select 16 = .ok (.iaload, 1) := by decide +kernel
theorem d_Ru_select_17 : decode c_Ru_select 17 = .ok (.iand, 1) := by decide +kernel
theorem d_Ru_select_18 : decode c_Ru_select 18 = .ok (.aload_n 0, 1) := by decide +kernel
theorem d_Ru_select_19 : decode c_Ru_select 19 = .ok (.getfield 19, 3) := by decide +kernel
theorem d_Ru_select_22 : decode c_Ru_select 22 = .ok (.iload_n 2, 1) := by decide +kernel
theorem d_Ru_select_23 : decode c_Ru_select 23 = .ok (.iaload, 1) := by decide +kernel
theorem d_Ru_select_24 : decode c_Ru_select 24 = .ok (.if_icmp .ne 10, 3) := by decide +kernel
theorem d_Ru_select_27 : decode c_Ru_select 27 = .ok (.aload_n 0, 1) := by decide +kernel
theorem d_Ru_select_28 : decode c_Ru_select 28 = .ok (.getfield 9, 3) := by decide +kernel
theorem d_Ru_select_31 : decode c_Ru_select 31 = .ok (.iload_n 2, 1) := by decide +kernel
theorem d_Ru_select_32 : decode c_Ru_select 32 = .ok (.baload, 1) := by decide +kernel
theorem d_Ru_select_33 : decode c_Ru_select 33 = .ok (.ireturn, 1) := by decide +kernel
theorem d_Ru_select_34 : decode c_Ru_select 34 = .ok (.iinc 2 1, 3) := by decide +kernel
theorem d_Ru_select_37 : decode c_Ru_select 37 = .ok (.goto (-35), 3) := by decide +kernel
theorem d_Ru_select_40 : decode c_Ru_select 40 = .ok (.iconst 1, 1) := by decide +kernel
theorem d_Ru_select_41 : decode c_Ru_select 41 = .ok (.ireturn, 1) := by decide +kernel
theorem d_Sf_init_0 : decode c_Sf_init 0 = .ok (.aload_n 0, 1) := by decide +kernel
theorem d_Sf_init_1 : decode c_Sf_init 1 = .ok (.invokespecial 1, 3) := by decide +kernel
theorem d_Sf_init_4 : decode c_Sf_init 4 = .ok (.aload_n 0, 1) := by decide +kernel
theorem d_Sf_init_5 : decode c_Sf_init 5 = .ok (.new 7, 3) := by decide +kernel
theorem d_Sf_init_8 : decode c_Sf_init 8 = .ok (.dup, 1) := by decide +kernel
theorem d_Sf_init_9 : decode c_Sf_init 9 = .ok (.invokespecial 9, 3) := by decide +kernel
theorem d_Sf_init_12 : decode c_Sf_init 12 = .ok (.putfield 10, 3) := by decide +kernel
theorem d_Sf_init_15 : decode c_Sf_init 15 = .ok (.aload_n 0, 1) := by decide +kernel
theorem d_Sf_init_16 : decode c_Sf_init 16 = .ok (.iconst 0, 1) := by decide +kernel
theorem d_Sf_init_17 : decode c_Sf_init 17 = .ok (.putfield 16, 3) := by decide +kernel
theorem d_Sf_init_20 : decode c_Sf_init 20 = .ok (.aload_n 0, 1) := by decide +kernel
theorem d_Sf_init_21 : decode c_Sf_init 21 = .ok (.iconst 0, 1) := by decide +kernel
theorem d_Sf_init_22 : decode c_Sf_init 22 = .ok (.putfield 20, 3) := by decide +kernel
theorem d_Sf_init_25 : decode c_Sf_init 25 = .ok (.return_, 1) := by decide +kernel
theorem d_Sf_erase_0 : decode c_Sf_erase 0 = .ok (.aload_n 0, 1) := by decide +kernel
theorem d_Sf_erase_1 : decode c_Sf_erase 1 = .ok (.iconst 0, 1) := by decide +kernel
theorem d_Sf_erase_2 : decode c_Sf_erase 2 = .ok (.putfield 16, 3) := by decide +kernel
theorem d_Sf_erase_5 : decode c_Sf_erase 5 = .ok (.aload_n 0, 1) := by decide +kernel
theorem d_Sf_erase_6 : decode c_Sf_erase 6 = .ok (.getfield 10, 3) := by decide +kernel
theorem d_Sf_erase_9 : decode c_Sf_erase 9 = .ok (.invokevirtual 24, 3) := by decide +kernel
theorem d_Sf_erase_12 : decode c_Sf_erase 12 = .ok (.return_, 1) := by decide +kernel
