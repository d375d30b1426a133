set_option maxRecDepth 100000 in
theorem sd_En_init : mt_Sc (fun _ _ => True) c_En_init 1 R_En "<init>" none 1 20 cd_En_init :=
  mt_sc1 (mt_cons (sn_aload_n rfl d_En_init_0 rfl) <| mt_cons (sn_objinit d_En_init_1 lo_En_1 w_oi_i w_oi_c (by decide) rfl) <| mt_cons (sn_aload_n rfl d_En_init_4 rfl) <| mt_cons (sn_iconst d_En_init_5 (by decide) rfl) <| mt_cons (sn_putZ d_En_init_6 kc_En (by decide) rfl lk_En_7 rfl rfl rfl) <| mt_cons (sn_aload_n rfl d_En_init_9 rfl) <| mt_cons (sn_iconst d_En_init_10 (by decide) rfl) <| mt_cons (sn_putZ d_En_init_11 kc_En (by decide) rfl lk_En_13 rfl rfl rfl) <| mt_cons (sn_aload_n rfl d_En_init_14 rfl) <| mt_cons (sn_iconst d_En_init_15 (by decide) rfl) <| mt_cons (sn_putI d_En_init_16 kc_En (by decide) rfl lk_En_16 rfl rfl rfl) <| mt_cons (sn_aload_n rfl d_En_init_19 rfl) <| mt_cons (sn_iconst d_En_init_20 (by decide) rfl) <| mt_cons (sn_putI d_En_init_21 kc_En (by decide) rfl lk_En_20 rfl rfl rfl) <| mt_nil (sn_ret d_En_init_24 rfl)) <|
  mt_sc0
theorem os_En_init : mt_OkS y_En_init c_En_init 1 none 1 20 sm_En_init := mt_okS (by decide) rfl rfl sd_En_init
set_option maxRecDepth 100000 in
theorem sd_En_agreesWith : mt_Sc (fun _ _ => True) c_En_agreesWith 2 R_En "agreesWith" (some .boolean) 0 0 cd_En_agreesWith :=
  mt_sc1 (mt_cons (sn_aload_n rfl d_En_agreesWith_0 rfl) <| mt_nil (sn_ifnull d_En_agreesWith_1 (by decide) rfl)) <|
  mt_sc1 (mt_cons (sn_aload_n rfl d_En_agreesWith_4 rfl) <| mt_cons (sn_get d_En_agreesWith_5 kc_Sf (by decide) rfl lk_En_23 rfl) <| mt_cons (sn_get d_En_agreesWith_8 kc_Ro (by decide) rfl lk_En_29 rfl) <| mt_cons (sn_aload_n rfl d_En_agreesWith_11 rfl) <| mt_cons (sn_get d_En_agreesWith_12 kc_En (by decide) rfl lk_En_16 rfl) <| mt_nil (sn_icne d_En_agreesWith_15 (by decide) rfl)) <|
  mt_sc1 (mt_cons (sn_aload_n rfl d_En_agreesWith_18 rfl) <| mt_cons (sn_get d_En_agreesWith_19 kc_Sf (by decide) rfl lk_En_34 rfl) <| mt_cons (sn_aload_n rfl d_En_agreesWith_22 rfl) <| mt_cons (sn_get d_En_agreesWith_23 kc_En (by decide) rfl lk_En_20 rfl) <| mt_nil (sn_icne d_En_agreesWith_26 (by decide) rfl)) <|
  mt_sc1 (mt_cons (sn_iconst d_En_agreesWith_29 (by decide) rfl) <| mt_nil (sn_goto d_En_agreesWith_30 (by decide))) <|
  mt_sc1 (mt_cons (sn_iconst d_En_agreesWith_33 (by decide) rfl) <| mt_nil (sn_fall)) <|
  mt_sc1 (mt_nil (sn_zret d_En_agreesWith_34 rfl)) <|
  mt_sc0
theorem os_En_agreesWith : mt_OkS y_En_agreesWith c_En_agreesWith 2 (some .boolean) 0 0 sm_En_agreesWith := mt_okS (by decide) rfl rfl sd_En_agreesWith
set_option maxRecDepth 100000 in
theorem sd_En_forget : mt_Sc (fun _ _ => True) c_En_forget 1 R_En "forget" none 0 0 cd_En_forget :=
  mt_sc1 (mt_cons (sn_aload_n rfl d_En_forget_0 rfl) <| mt_cons (sn_iconst d_En_forget_1 (by decide) rfl) <| mt_cons (sn_putZ d_En_forget_2 kc_En (by decide) rfl lk_En_7 rfl rfl rfl) <| mt_cons (sn_aload_n rfl d_En_forget_5 rfl) <| mt_cons (sn_iconst d_En_forget_6 (by decide) rfl) <| mt_cons (sn_putZ d_En_forget_7 kc_En (by decide) rfl lk_En_13 rfl rfl rfl) <| mt_nil (sn_ret d_En_forget_10 rfl)) <|
  mt_sc0
theorem os_En_forget : mt_OkS y_En_forget c_En_forget 1 none 0 0 sm_En_forget := mt_okS (by decide) rfl rfl sd_En_forget
set_option maxRecDepth 100000 in
theorem sd_Ro_init : mt_Sc (fun _ _ => True) c_Ro_init 1 R_Ro "<init>" none 1 20 cd_Ro_init :=
  mt_sc1 (mt_cons (sn_aload_n rfl d_Ro_init_0 rfl) <| mt_cons (sn_objinit d_Ro_init_1 lo_Ro_3 w_oi_i w_oi_c (by decide) rfl) <| mt_cons (sn_aload_n rfl d_Ro_init_4 rfl) <| mt_cons (sn_bipush d_Ro_init_5 (by decide) rfl) <| mt_cons (sn_newInt d_Ro_init_7 rfl) <| mt_cons (sn_putF d_Ro_init_9 kc_Ro (by decide) rfl lf_Ro_9 rfl rfl rfl (fun _ => ⟨rfl, rfl⟩) rfl) <| mt_cons (sn_aload_n rfl d_Ro_init_12 rfl) <| mt_cons (sn_iconst d_Ro_init_13 (by decide) rfl) <| mt_cons (sn_putI d_Ro_init_14 kc_Ro (by decide) rfl lk_Ro_15 rfl rfl rfl) <| mt_nil (sn_ret d_Ro_init_17 rfl)) <|
  mt_sc0
theorem os_Ro_init : mt_OkS y_Ro_init c_Ro_init 1 none 1 20 sm_Ro_init := mt_okS (by decide) rfl rfl sd_Ro_init
set_option maxRecDepth 100000 in
theorem sd_Jr_init : mt_Sc (fun _ _ => True) c_Jr_init 1 R_Jr "<init>" none 2 40 cd_Jr_init :=
  mt_sc1 (mt_cons (sn_aload_n rfl d_Jr_init_0 rfl) <| mt_cons (sn_objinit d_Jr_init_1 lo_Jr_1 w_oi_i w_oi_c (by decide) rfl) <| mt_cons (sn_aload_n rfl d_Jr_init_4 rfl) <| mt_cons (sn_new d_Jr_init_5 kc_Ro ln_Jr_7 (by decide +kernel) rfl rfl) <| mt_cons (sn_dup d_Jr_init_8 rfl) <| mt_nil (sn_callI (k := 0) d_Jr_init_9 os_Ro_init rfl lm_Jr_9 wi_Ro_init (by decide) (by decide) rfl)) <|
  mt_sc1 (mt_cons (sn_putF d_Jr_init_12 kc_Jr (by decide) rfl lf_Jr_10 rfl rfl rfl (fun _ => ⟨rfl, rfl⟩) rfl) <| mt_cons (sn_aload_n rfl d_Jr_init_15 rfl) <| mt_cons (sn_iconst d_Jr_init_16 (by decide) rfl) <| mt_cons (sn_putI d_Jr_init_17 kc_Jr (by decide) rfl lk_Jr_16 rfl rfl rfl) <| mt_cons (sn_aload_n rfl d_Jr_init_20 rfl) <| mt_cons (sn_iconst d_Jr_init_21 (by decide) rfl) <| mt_cons (sn_putI d_Jr_init_22 kc_Jr (by decide) rfl lk_Jr_20 rfl rfl rfl) <| mt_nil (sn_ret d_Jr_init_25 rfl)) <|
  mt_sc0
theorem os_Jr_init : mt_OkS y_Jr_init c_Jr_init 1 none 2 40 sm_Jr_init := mt_okS (by decide) rfl rfl sd_Jr_init
set_option maxRecDepth 100000 in
theorem sd_Jo_init : mt_Sc (fun _ _ => True) c_Jo_init 2 R_Jo "<init>" none 3 60 cd_Jo_init :=
  mt_sc1 (mt_cons (sn_aload_n rfl d_Jo_init_0 rfl) <| mt_cons (sn_objinit d_Jo_init_1 lo_Jo_3 w_oi_i w_oi_c (by decide) rfl) <| mt_cons (sn_aload_n rfl d_Jo_init_4 rfl) <| mt_cons (sn_bipush d_Jo_init_5 (by decide) rfl) <| mt_cons (sn_newA d_Jo_init_7 ln_Jo_9 (fun _ _ _ h => h.2.2.2.2.2) (fun _ => rfl) rfl) <| mt_cons (sn_putF d_Jo_init_10 kc_Jo (by decide) rfl lf_Jo_11 rfl rfl rfl (fun _ => ⟨rfl, rfl⟩) rfl) <| mt_cons (sn_aload_n rfl d_Jo_init_13 rfl) <| mt_cons (sn_iconst d_Jo_init_14 (by decide) rfl) <| mt_cons (sn_putI d_Jo_init_15 kc_Jo (by decide) rfl lk_Jo_17 rfl rfl rfl) <| mt_cons (sn_aload_n rfl d_Jo_init_18 rfl) <| mt_cons (sn_iconst d_Jo_init_19 (by decide) rfl) <| mt_cons (sn_putI d_Jo_init_20 kc_Jo (by decide) rfl lk_Jo_21 rfl rfl rfl) <| mt_cons (sn_iconst d_Jo_init_23 (by decide) rfl) <| mt_cons (sn_istore_n rfl d_Jo_init_24 (by decide) rfl) <| mt_nil (sn_fall)) <|
  mt_sc1 (mt_cons (sn_iload_n rfl d_Jo_init_25 rfl) <| mt_cons (sn_bipush d_Jo_init_26 (by decide) rfl) <| mt_nil (sn_icge d_Jo_init_28 (by decide) rfl)) <|
  mt_sc1 (mt_cons (sn_aload_n rfl d_Jo_init_31 rfl) <| mt_cons (sn_get d_Jo_init_32 kc_Jo (by decide) rfl lk_Jo_11 rfl) <| mt_cons (sn_iload_n rfl d_Jo_init_35 rfl) <| mt_cons (sn_new d_Jo_init_36 kc_Jr ln_Jo_9 (by decide +kernel) rfl rfl) <| mt_cons (sn_dup d_Jo_init_39 rfl) <| mt_nil (sn_callI (k := 0) d_Jo_init_40 os_Jr_init rfl lm_Jo_24 wi_Jr_init (by decide) (by decide) rfl)) <|
  mt_sc1 (mt_cons (sn_aast rfl (fun _ => rfl) d_Jo_init_43 rfl) <| mt_cons (sn_iinc d_Jo_init_44 (by decide) (by decide) rfl) <| mt_nil (sn_goto d_Jo_init_47 (by decide))) <|
  mt_sc1 (mt_nil (sn_ret d_Jo_init_50 rfl)) <|
  mt_sc0
theorem os_Jo_init : mt_OkS y_Jo_init c_Jo_init 2 none 3 60 sm_Jo_init := mt_okS (by decide) rfl rfl sd_Jo_init
set_option maxRecDepth 100000 in
theorem sd_Ro_become : mt_Sc (fun _ _ => True) c_Ro_become 3 R_Ro "become" none 0 0 cd_Ro_become :=
  mt_sc1 (mt_cons (sn_aload_n rfl d_Ro_become_0 rfl) <| mt_cons (sn_aload_n rfl d_Ro_become_1 rfl) <| mt_cons (sn_get d_Ro_become_2 kc_Ro (by decide) rfl lk_Ro_15 rfl) <| mt_cons (sn_putI d_Ro_become_5 kc_Ro (by decide) rfl lk_Ro_15 rfl rfl rfl) <| mt_cons (sn_iconst d_Ro_become_8 (by decide) rfl) <| mt_cons (sn_istore_n rfl d_Ro_become_9 (by decide) rfl) <| mt_nil (sn_fall)) <|
  mt_sc1 (mt_cons (sn_iload_n rfl d_Ro_become_10 rfl) <| mt_cons (sn_aload_n rfl d_Ro_become_11 rfl) <| mt_cons (sn_get d_Ro_become_12 kc_Ro (by decide) rfl lk_Ro_15 rfl) <| mt_nil (sn_icge d_Ro_become_15 (by decide) rfl)) <|
  mt_sc1 (mt_cons (sn_aload_n rfl d_Ro_become_18 rfl) <| mt_cons (sn_get d_Ro_become_19 kc_Ro (by decide) rfl lk_Ro_9 rfl) <| mt_cons (sn_iload_n rfl d_Ro_become_22 rfl) <| mt_cons (sn_aload_n rfl d_Ro_become_23 rfl) <| mt_cons (sn_get d_Ro_become_24 kc_Ro (by decide) rfl lk_Ro_9 rfl) <| mt_cons (sn_iload_n rfl d_Ro_become_27 rfl) <| mt_cons (sn_iald d_Ro_become_28 rfl) <| mt_cons (sn_iast d_Ro_become_29 rfl) <| mt_cons (sn_iinc d_Ro_become_30 (by decide) (by decide) rfl) <| mt_nil (sn_goto d_Ro_become_33 (by decide))) <|
  mt_sc1 (mt_nil (sn_ret d_Ro_become_36 rfl)) <|
  mt_sc0
theorem os_Ro_become : mt_OkS y_Ro_become c_Ro_become 3 none 0 0 sm_Ro_become := mt_okS (by decide) rfl rfl sd_Ro_become
set_option maxRecDepth 100000 in
theorem sd_Jo_append : mt_Sc (fun _ _ => True) c_Jo_append 5 R_Jo "append" none 1 22 cd_Jo_append :=
  mt_sc1 (mt_cons (sn_aload_n rfl d_Jo_append_0 rfl) <| mt_cons (sn_get d_Jo_append_1 kc_Jo (by decide) rfl lk_Jo_11 rfl) <| mt_cons (sn_aload_n rfl d_Jo_append_4 rfl) <| mt_cons (sn_get d_Jo_append_5 kc_Jo (by decide) rfl lk_Jo_17 rfl) <| mt_cons (sn_aload_n rfl d_Jo_append_8 rfl) <| mt_cons (sn_get d_Jo_append_9 kc_Jo (by decide) rfl lk_Jo_21 rfl) <| mt_cons (sn_add d_Jo_append_12 rfl) <| mt_cons (sn_bipush d_Jo_append_13 (by decide) rfl) <| mt_cons (sn_rem d_Jo_append_15 rfl) <| mt_cons (sn_aald (fun _ => rfl) d_Jo_append_16 rfl) <| mt_cons (sn_astore d_Jo_append_17 (by decide) rfl) <| mt_cons (sn_aload d_Jo_append_19 rfl) <| mt_cons (sn_iload_n rfl d_Jo_append_21 rfl) <| mt_cons (sn_putI d_Jo_append_22 kc_Jr (by decide) rfl lk_Jo_25 rfl rfl rfl) <| mt_cons (sn_aload d_Jo_append_25 rfl) <| mt_cons (sn_get d_Jo_append_27 kc_Jr (by decide) rfl lk_Jo_28 rfl) <| mt_cons (sn_aload_n rfl d_Jo_append_30 rfl) <| mt_nil (sn_callV (k := 1) d_Jo_append_31 os_Ro_become rfl rfl lm_Jo_32 wi_Ro_become ws_Ro_become (by decide) (by decide) rfl)) <|
  mt_sc1 (mt_cons (sn_aload d_Jo_append_34 rfl) <| mt_cons (sn_iload_n rfl d_Jo_append_36 rfl) <| mt_cons (sn_putI d_Jo_append_37 kc_Jr (by decide) rfl lk_Jo_38 rfl rfl rfl) <| mt_cons (sn_aload_n rfl d_Jo_append_40 rfl) <| mt_cons (sn_get d_Jo_append_41 kc_Jo (by decide) rfl lk_Jo_21 rfl) <| mt_cons (sn_bipush d_Jo_append_44 (by decide) rfl) <| mt_nil (sn_icge d_Jo_append_46 (by decide) rfl)) <|
  mt_sc1 (mt_cons (sn_aload_n rfl d_Jo_append_49 rfl) <| mt_cons (sn_dup d_Jo_append_50 rfl) <| mt_cons (sn_get d_Jo_append_51 kc_Jo (by decide) rfl lk_Jo_21 rfl) <| mt_cons (sn_iconst d_Jo_append_54 (by decide) rfl) <| mt_cons (sn_add d_Jo_append_55 rfl) <| mt_cons (sn_putI d_Jo_append_56 kc_Jo (by decide) rfl lk_Jo_21 rfl rfl rfl) <| mt_nil (sn_fall)) <|
  mt_sc1 (mt_nil (sn_ret d_Jo_append_59 rfl)) <|
  mt_sc0
theorem os_Jo_append : mt_OkS y_Jo_append c_Jo_append 5 none 1 22 sm_Jo_append := mt_okS (by decide) rfl rfl sd_Jo_append
set_option maxRecDepth 100000 in
theorem sd_Jo_take : mt_Sc (fun _ _ => True) c_Jo_take 2 R_Jo "take" (some (.object "TreeCarrier$JournalRecord")) 0 0 cd_Jo_take :=
  mt_sc1 (mt_cons (sn_aload_n rfl d_Jo_take_0 rfl) <| mt_cons (sn_get d_Jo_take_1 kc_Jo (by decide) rfl lk_Jo_21 rfl) <| mt_nil (sn_ifne d_Jo_take_4 (by decide) rfl)) <|
  mt_sc1 (mt_cons (sn_null d_Jo_take_7 rfl) <| mt_nil (sn_aret d_Jo_take_8 rfl)) <|
  mt_sc1 (mt_cons (sn_aload_n rfl d_Jo_take_9 rfl) <| mt_cons (sn_get d_Jo_take_10 kc_Jo (by decide) rfl lk_Jo_11 rfl) <| mt_cons (sn_aload_n rfl d_Jo_take_13 rfl) <| mt_cons (sn_get d_Jo_take_14 kc_Jo (by decide) rfl lk_Jo_17 rfl) <| mt_cons (sn_aald (fun _ => rfl) d_Jo_take_17 rfl) <| mt_cons (sn_astore_n rfl d_Jo_take_18 (by decide) rfl) <| mt_cons (sn_aload_n rfl d_Jo_take_19 rfl) <| mt_cons (sn_aload_n rfl d_Jo_take_20 rfl) <| mt_cons (sn_get d_Jo_take_21 kc_Jo (by decide) rfl lk_Jo_17 rfl) <| mt_cons (sn_iconst d_Jo_take_24 (by decide) rfl) <| mt_cons (sn_add d_Jo_take_25 rfl) <| mt_cons (sn_bipush d_Jo_take_26 (by decide) rfl) <| mt_cons (sn_rem d_Jo_take_28 rfl) <| mt_cons (sn_putI d_Jo_take_29 kc_Jo (by decide) rfl lk_Jo_17 rfl rfl rfl) <| mt_cons (sn_aload_n rfl d_Jo_take_32 rfl) <| mt_cons (sn_dup d_Jo_take_33 rfl) <| mt_cons (sn_get d_Jo_take_34 kc_Jo (by decide) rfl lk_Jo_21 rfl) <| mt_cons (sn_iconst d_Jo_take_37 (by decide) rfl) <| mt_cons (sn_sub d_Jo_take_38 rfl) <| mt_cons (sn_putI d_Jo_take_39 kc_Jo (by decide) rfl lk_Jo_21 rfl rfl rfl) <| mt_cons (sn_aload_n rfl d_Jo_take_42 rfl) <| mt_nil (sn_aret d_Jo_take_43 rfl)) <|
  mt_sc0
theorem os_Jo_take : mt_OkS y_Jo_take c_Jo_take 2 (some (.object "TreeCarrier$JournalRecord")) 0 0 sm_Jo_take := mt_okS (by decide) rfl rfl sd_Jo_take
set_option maxRecDepth 100000 in
theorem sd_Ms_init : mt_Sc (fun _ _ => True) c_Ms_init 1 R_Ms "<init>" none 1 20 cd_Ms_init :=
  mt_sc1 (mt_cons (sn_aload_n rfl d_Ms_init_0 rfl) <| mt_cons (sn_objinit d_Ms_init_1 lo_Ms_3 w_oi_i w_oi_c (by decide) rfl) <| mt_cons (sn_aload_n rfl d_Ms_init_4 rfl) <| mt_cons (sn_iconst d_Ms_init_5 (by decide) rfl) <| mt_cons (sn_putI d_Ms_init_6 kc_Ms (by decide) rfl lk_Ms_9 rfl rfl rfl) <| mt_cons (sn_aload_n rfl d_Ms_init_9 rfl) <| mt_cons (sn_iconst d_Ms_init_10 (by decide) rfl) <| mt_cons (sn_putI d_Ms_init_11 kc_Ms (by decide) rfl lk_Ms_15 rfl rfl rfl) <| mt_cons (sn_aload_n rfl d_Ms_init_14 rfl) <| mt_cons (sn_iconst d_Ms_init_15 (by decide) rfl) <| mt_cons (sn_putI d_Ms_init_16 kc_Ms (by decide) rfl lk_Ms_18 rfl rfl rfl) <| mt_cons (sn_aload_n rfl d_Ms_init_19 rfl) <| mt_cons (sn_iconst d_Ms_init_20 (by decide) rfl) <| mt_cons (sn_putI d_Ms_init_21 kc_Ms (by decide) rfl lk_Ms_21 rfl rfl rfl) <| mt_cons (sn_aload_n rfl d_Ms_init_24 rfl) <| mt_cons (sn_iconst d_Ms_init_25 (by decide) rfl) <| mt_cons (sn_putI d_Ms_init_26 kc_Ms (by decide) rfl lk_Ms_24 rfl rfl rfl) <| mt_cons (sn_aload_n rfl d_Ms_init_29 rfl) <| mt_cons (sn_iconst d_Ms_init_30 (by decide) rfl) <| mt_cons (sn_putI d_Ms_init_31 kc_Ms (by decide) rfl lk_Ms_27 rfl rfl rfl) <| mt_cons (sn_aload_n rfl d_Ms_init_34 rfl) <| mt_cons (sn_iconst d_Ms_init_35 (by decide) rfl) <| mt_cons (sn_putI d_Ms_init_36 kc_Ms (by decide) rfl lk_Ms_30 rfl rfl rfl) <| mt_cons (sn_aload_n rfl d_Ms_init_39 rfl) <| mt_cons (sn_bipush d_Ms_init_40 (by decide) rfl) <| mt_cons (sn_newInt d_Ms_init_42 rfl) <| mt_cons (sn_putF d_Ms_init_44 kc_Ms (by decide) rfl lf_Ms_33 rfl rfl rfl (fun _ => ⟨rfl, rfl⟩) rfl) <| mt_nil (sn_ret d_Ms_init_47 rfl)) <|
  mt_sc0
theorem os_Ms_init : mt_OkS y_Ms_init c_Ms_init 1 none 1 20 sm_Ms_init := mt_okS (by decide) rfl rfl sd_Ms_init
set_option maxRecDepth 100000 in
theorem sd_Li_init : mt_Sc (fun _ _ => True) c_Li_init 2 R_Li "<init>" none 2 40 cd_Li_init :=
  mt_sc1 (mt_cons (sn_aload_n rfl d_Li_init_0 rfl) <| mt_cons (sn_objinit d_Li_init_1 lo_Li_3 w_oi_i w_oi_c (by decide) rfl) <| mt_cons (sn_aload_n rfl d_Li_init_4 rfl) <| mt_cons (sn_bipush d_Li_init_5 (by decide) rfl) <| mt_cons (sn_newA d_Li_init_7 ln_Li_9 (fun _ _ _ h => h.2.2.1) (fun _ => rfl) rfl) <| mt_cons (sn_putF d_Li_init_10 kc_Li (by decide) rfl lf_Li_11 rfl rfl rfl (fun _ => ⟨rfl, rfl⟩) rfl) <| mt_cons (sn_aload_n rfl d_Li_init_13 rfl) <| mt_cons (sn_iconst d_Li_init_14 (by decide) rfl) <| mt_cons (sn_putI d_Li_init_15 kc_Li (by decide) rfl lk_Li_17 rfl rfl rfl) <| mt_cons (sn_aload_n rfl d_Li_init_18 rfl) <| mt_cons (sn_iconst d_Li_init_19 (by decide) rfl) <| mt_cons (sn_putI d_Li_init_20 kc_Li (by decide) rfl lk_Li_21 rfl rfl rfl) <| mt_cons (sn_iconst d_Li_init_23 (by decide) rfl) <| mt_cons (sn_istore_n rfl d_Li_init_24 (by decide) rfl) <| mt_nil (sn_fall)) <|
  mt_sc1 (mt_cons (sn_iload_n rfl d_Li_init_25 rfl) <| mt_cons (sn_bipush d_Li_init_26 (by decide) rfl) <| mt_nil (sn_icge d_Li_init_28 (by decide) rfl)) <|
  mt_sc1 (mt_cons (sn_aload_n rfl d_Li_init_31 rfl) <| mt_cons (sn_get d_Li_init_32 kc_Li (by decide) rfl lk_Li_11 rfl) <| mt_cons (sn_iload_n rfl d_Li_init_35 rfl) <| mt_cons (sn_new d_Li_init_36 kc_Ms ln_Li_9 (by decide +kernel) rfl rfl) <| mt_cons (sn_dup d_Li_init_39 rfl) <| mt_nil (sn_callI (k := 0) d_Li_init_40 os_Ms_init rfl lm_Li_24 wi_Ms_init (by decide) (by decide) rfl)) <|
  mt_sc1 (mt_cons (sn_aast rfl (fun _ => rfl) d_Li_init_43 rfl) <| mt_cons (sn_iinc d_Li_init_44 (by decide) (by decide) rfl) <| mt_nil (sn_goto d_Li_init_47 (by decide))) <|
  mt_sc1 (mt_nil (sn_ret d_Li_init_50 rfl)) <|
  mt_sc0
theorem os_Li_init : mt_OkS y_Li_init c_Li_init 2 none 2 40 sm_Li_init := mt_okS (by decide) rfl rfl sd_Li_init
set_option maxRecDepth 100000 in
theorem sd_Ms_startAs : mt_Sc (fun _ _ => True) c_Ms_startAs 3 R_Ms "startAs" none 0 0 cd_Ms_startAs :=
  mt_sc1 (mt_cons (sn_aload_n rfl d_Ms_startAs_0 rfl) <| mt_cons (sn_iload_n rfl d_Ms_startAs_1 rfl) <| mt_cons (sn_putI d_Ms_startAs_2 kc_Ms (by decide) rfl lk_Ms_9 rfl rfl rfl) <| mt_cons (sn_aload_n rfl d_Ms_startAs_5 rfl) <| mt_cons (sn_iload_n rfl d_Ms_startAs_6 rfl) <| mt_cons (sn_putI d_Ms_startAs_7 kc_Ms (by decide) rfl lk_Ms_15 rfl rfl rfl) <| mt_cons (sn_aload_n rfl d_Ms_startAs_10 rfl) <| mt_cons (sn_iconst d_Ms_startAs_11 (by decide) rfl) <| mt_cons (sn_putI d_Ms_startAs_12 kc_Ms (by decide) rfl lk_Ms_30 rfl rfl rfl) <| mt_nil (sn_ret d_Ms_startAs_15 rfl)) <|
  mt_sc0
theorem os_Ms_startAs : mt_OkS y_Ms_startAs c_Ms_startAs 3 none 0 0 sm_Ms_startAs := mt_okS (by decide) rfl rfl sd_Ms_startAs
set_option maxRecDepth 100000 in
theorem sd_Li_append : mt_Sc (fun _ _ => True) c_Li_append 4 R_Li "append" (some (.object "TreeCarrier$Message")) 1 22 cd_Li_append :=
  mt_sc1 (mt_cons (sn_aload_n rfl d_Li_append_0 rfl) <| mt_cons (sn_get d_Li_append_1 kc_Li (by decide) rfl lk_Li_11 rfl) <| mt_cons (sn_aload_n rfl d_Li_append_4 rfl) <| mt_cons (sn_get d_Li_append_5 kc_Li (by decide) rfl lk_Li_17 rfl) <| mt_cons (sn_aload_n rfl d_Li_append_8 rfl) <| mt_cons (sn_get d_Li_append_9 kc_Li (by decide) rfl lk_Li_21 rfl) <| mt_cons (sn_add d_Li_append_12 rfl) <| mt_cons (sn_bipush d_Li_append_13 (by decide) rfl) <| mt_cons (sn_rem d_Li_append_15 rfl) <| mt_cons (sn_aald (fun _ => rfl) d_Li_append_16 rfl) <| mt_cons (sn_astore_n rfl d_Li_append_17 (by decide) rfl) <| mt_cons (sn_aload_n rfl d_Li_append_18 rfl) <| mt_cons (sn_iload_n rfl d_Li_append_19 rfl) <| mt_cons (sn_iload_n rfl d_Li_append_20 rfl) <| mt_nil (sn_callV (k := 2) d_Li_append_21 os_Ms_startAs rfl rfl lm_Li_25 wi_Ms_startAs ws_Ms_startAs (by decide) (by decide) rfl)) <|
  mt_sc1 (mt_cons (sn_aload_n rfl d_Li_append_24 rfl) <| mt_cons (sn_get d_Li_append_25 kc_Li (by decide) rfl lk_Li_21 rfl) <| mt_cons (sn_bipush d_Li_append_28 (by decide) rfl) <| mt_nil (sn_icge d_Li_append_30 (by decide) rfl)) <|
  mt_sc1 (mt_cons (sn_aload_n rfl d_Li_append_33 rfl) <| mt_cons (sn_dup d_Li_append_34 rfl) <| mt_cons (sn_get d_Li_append_35 kc_Li (by decide) rfl lk_Li_21 rfl) <| mt_cons (sn_iconst d_Li_append_38 (by decide) rfl) <| mt_cons (sn_add d_Li_append_39 rfl) <| mt_cons (sn_putI d_Li_append_40 kc_Li (by decide) rfl lk_Li_21 rfl rfl rfl) <| mt_nil (sn_fall)) <|
  mt_sc1 (mt_cons (sn_aload_n rfl d_Li_append_43 rfl) <| mt_nil (sn_aret d_Li_append_44 rfl)) <|
  mt_sc0
theorem os_Li_append : mt_OkS y_Li_append c_Li_append 4 (some (.object "TreeCarrier$Message")) 1 22 sm_Li_append := mt_okS (by decide) rfl rfl sd_Li_append
set_option maxRecDepth 100000 in
theorem sd_Li_take : mt_Sc (fun _ _ => True) c_Li_take 2 R_Li "take" (some (.object "TreeCarrier$Message")) 0 0 cd_Li_take :=
  mt_sc1 (mt_cons (sn_aload_n rfl d_Li_take_0 rfl) <| mt_cons (sn_get d_Li_take_1 kc_Li (by decide) rfl lk_Li_21 rfl) <| mt_nil (sn_ifne d_Li_take_4 (by decide) rfl)) <|
  mt_sc1 (mt_cons (sn_null d_Li_take_7 rfl) <| mt_nil (sn_aret d_Li_take_8 rfl)) <|
  mt_sc1 (mt_cons (sn_aload_n rfl d_Li_take_9 rfl) <| mt_cons (sn_get d_Li_take_10 kc_Li (by decide) rfl lk_Li_11 rfl) <| mt_cons (sn_aload_n rfl d_Li_take_13 rfl) <| mt_cons (sn_get d_Li_take_14 kc_Li (by decide) rfl lk_Li_17 rfl) <| mt_cons (sn_aald (fun _ => rfl) d_Li_take_17 rfl) <| mt_cons (sn_astore_n rfl d_Li_take_18 (by decide) rfl) <| mt_cons (sn_aload_n rfl d_Li_take_19 rfl) <| mt_cons (sn_aload_n rfl d_Li_take_20 rfl) <| mt_cons (sn_get d_Li_take_21 kc_Li (by decide) rfl lk_Li_17 rfl) <| mt_cons (sn_iconst d_Li_take_24 (by decide) rfl) <| mt_cons (sn_add d_Li_take_25 rfl) <| mt_cons (sn_bipush d_Li_take_26 (by decide) rfl) <| mt_cons (sn_rem d_Li_take_28 rfl) <| mt_cons (sn_putI d_Li_take_29 kc_Li (by decide) rfl lk_Li_17 rfl rfl rfl) <| mt_cons (sn_aload_n rfl d_Li_take_32 rfl) <| mt_cons (sn_dup d_Li_take_33 rfl) <| mt_cons (sn_get d_Li_take_34 kc_Li (by decide) rfl lk_Li_21 rfl) <| mt_cons (sn_iconst d_Li_take_37 (by decide) rfl) <| mt_cons (sn_sub d_Li_take_38 rfl) <| mt_cons (sn_putI d_Li_take_39 kc_Li (by decide) rfl lk_Li_21 rfl rfl rfl) <| mt_cons (sn_aload_n rfl d_Li_take_42 rfl) <| mt_nil (sn_aret d_Li_take_43 rfl)) <|
  mt_sc0
theorem os_Li_take : mt_OkS y_Li_take c_Li_take 2 (some (.object "TreeCarrier$Message")) 0 0 sm_Li_take := mt_okS (by decide) rfl rfl sd_Li_take
set_option maxRecDepth 100000 in
theorem sd_Li_oldestKind : mt_Sc (fun _ _ => True) c_Li_oldestKind 1 R_Li "oldestKind" (some .int) 0 0 cd_Li_oldestKind :=
  mt_sc1 (mt_cons (sn_aload_n rfl d_Li_oldestKind_0 rfl) <| mt_cons (sn_get d_Li_oldestKind_1 kc_Li (by decide) rfl lk_Li_21 rfl) <| mt_nil (sn_ifne d_Li_oldestKind_4 (by decide) rfl)) <|
  mt_sc1 (mt_cons (sn_iconst d_Li_oldestKind_7 (by decide) rfl) <| mt_nil (sn_goto d_Li_oldestKind_8 (by decide))) <|
  mt_sc1 (mt_cons (sn_aload_n rfl d_Li_oldestKind_11 rfl) <| mt_cons (sn_get d_Li_oldestKind_12 kc_Li (by decide) rfl lk_Li_11 rfl) <| mt_cons (sn_aload_n rfl d_Li_oldestKind_15 rfl) <| mt_cons (sn_get d_Li_oldestKind_16 kc_Li (by decide) rfl lk_Li_17 rfl) <| mt_cons (sn_aald (fun _ => rfl) d_Li_oldestKind_19 rfl) <| mt_cons (sn_get d_Li_oldestKind_20 kc_Ms (by decide) rfl lk_Li_29 rfl) <| mt_nil (sn_fall)) <|
  mt_sc1 (mt_nil (sn_iret d_Li_oldestKind_23 rfl)) <|
  mt_sc0
theorem os_Li_oldestKind : mt_OkS y_Li_oldestKind c_Li_oldestKind 1 (some .int) 0 0 sm_Li_oldestKind := mt_okS (by decide) rfl rfl sd_Li_oldestKind
set_option maxRecDepth 100000 in
theorem sd_Li_clear : mt_Sc (fun _ _ => True) c_Li_clear 1 R_Li "clear" none 0 0 cd_Li_clear :=
  mt_sc1 (mt_cons (sn_aload_n rfl d_Li_clear_0 rfl) <| mt_cons (sn_iconst d_Li_clear_1 (by decide) rfl) <| mt_cons (sn_putI d_Li_clear_2 kc_Li (by decide) rfl lk_Li_21 rfl rfl rfl) <| mt_nil (sn_ret d_Li_clear_5 rfl)) <|
  mt_sc0
theorem os_Li_clear : mt_OkS y_Li_clear c_Li_clear 1 none 0 0 sm_Li_clear := mt_okS (by decide) rfl rfl sd_Li_clear
set_option maxRecDepth 100000 in
theorem sd_Ms_addItem : mt_Sc (fun _ _ => True) c_Ms_addItem 2 R_Ms "addItem" none 0 0 cd_Ms_addItem :=
  mt_sc1 (mt_cons (sn_aload_n rfl d_Ms_addItem_0 rfl) <| mt_cons (sn_get d_Ms_addItem_1 kc_Ms (by decide) rfl lk_Ms_30 rfl) <| mt_cons (sn_bipush d_Ms_addItem_4 (by decide) rfl) <| mt_nil (sn_icge d_Ms_addItem_6 (by decide) rfl)) <|
  mt_sc1 (mt_cons (sn_aload_n rfl d_Ms_addItem_9 rfl) <| mt_cons (sn_get d_Ms_addItem_10 kc_Ms (by decide) rfl lk_Ms_33 rfl) <| mt_cons (sn_aload_n rfl d_Ms_addItem_13 rfl) <| mt_cons (sn_get d_Ms_addItem_14 kc_Ms (by decide) rfl lk_Ms_30 rfl) <| mt_cons (sn_iload_n rfl d_Ms_addItem_17 rfl) <| mt_cons (sn_iast d_Ms_addItem_18 rfl) <| mt_cons (sn_aload_n rfl d_Ms_addItem_19 rfl) <| mt_cons (sn_dup d_Ms_addItem_20 rfl) <| mt_cons (sn_get d_Ms_addItem_21 kc_Ms (by decide) rfl lk_Ms_30 rfl) <| mt_cons (sn_iconst d_Ms_addItem_24 (by decide) rfl) <| mt_cons (sn_add d_Ms_addItem_25 rfl) <| mt_cons (sn_putI d_Ms_addItem_26 kc_Ms (by decide) rfl lk_Ms_30 rfl rfl rfl) <| mt_nil (sn_fall)) <|
  mt_sc1 (mt_nil (sn_ret d_Ms_addItem_29 rfl)) <|
  mt_sc0
theorem os_Ms_addItem : mt_OkS y_Ms_addItem c_Ms_addItem 2 none 0 0 sm_Ms_addItem := mt_okS (by decide) rfl rfl sd_Ms_addItem
set_option maxRecDepth 100000 in
theorem sd_Ro_isFull : mt_Sc (fun _ _ => True) c_Ro_isFull 1 R_Ro "isFull" (some .boolean) 0 0 cd_Ro_isFull :=
  mt_sc1 (mt_cons (sn_aload_n rfl d_Ro_isFull_0 rfl) <| mt_cons (sn_get d_Ro_isFull_1 kc_Ro (by decide) rfl lk_Ro_15 rfl) <| mt_cons (sn_bipush d_Ro_isFull_4 (by decide) rfl) <| mt_nil (sn_iclt d_Ro_isFull_6 (by decide) rfl)) <|
  mt_sc1 (mt_cons (sn_iconst d_Ro_isFull_9 (by decide) rfl) <| mt_nil (sn_goto d_Ro_isFull_10 (by decide))) <|
  mt_sc1 (mt_cons (sn_iconst d_Ro_isFull_13 (by decide) rfl) <| mt_nil (sn_fall)) <|
  mt_sc1 (mt_nil (sn_zret d_Ro_isFull_14 rfl)) <|
  mt_sc0
theorem os_Ro_isFull : mt_OkS y_Ro_isFull c_Ro_isFull 1 (some .boolean) 0 0 sm_Ro_isFull := mt_okS (by decide) rfl rfl sd_Ro_isFull
set_option maxRecDepth 100000 in
theorem sd_Ro_holds : mt_Sc (fun _ _ => True) c_Ro_holds 2 R_Ro "holds" (some .boolean) 0 0 cd_Ro_holds :=
  mt_sc1 (mt_cons (sn_iload_n rfl d_Ro_holds_0 rfl) <| mt_nil (sn_iflt d_Ro_holds_1 (by decide) rfl)) <|
  mt_sc1 (mt_cons (sn_iload_n rfl d_Ro_holds_4 rfl) <| mt_cons (sn_aload_n rfl d_Ro_holds_5 rfl) <| mt_cons (sn_get d_Ro_holds_6 kc_Ro (by decide) rfl lk_Ro_15 rfl) <| mt_nil (sn_icge d_Ro_holds_9 (by decide) rfl)) <|
  mt_sc1 (mt_cons (sn_iconst d_Ro_holds_12 (by decide) rfl) <| mt_nil (sn_goto d_Ro_holds_13 (by decide))) <|
  mt_sc1 (mt_cons (sn_iconst d_Ro_holds_16 (by decide) rfl) <| mt_nil (sn_fall)) <|
  mt_sc1 (mt_nil (sn_zret d_Ro_holds_17 rfl)) <|
  mt_sc0
theorem os_Ro_holds : mt_OkS y_Ro_holds c_Ro_holds 2 (some .boolean) 0 0 sm_Ro_holds := mt_okS (by decide) rfl rfl sd_Ro_holds
set_option maxRecDepth 100000 in
theorem sd_Ro_byteAt : mt_Sc (fun _ _ => True) c_Ro_byteAt 2 R_Ro "byteAt" (some .int) 0 0 cd_Ro_byteAt :=
  mt_sc1 (mt_cons (sn_iload_n rfl d_Ro_byteAt_0 rfl) <| mt_nil (sn_iflt d_Ro_byteAt_1 (by decide) rfl)) <|
  mt_sc1 (mt_cons (sn_iload_n rfl d_Ro_byteAt_4 rfl) <| mt_cons (sn_aload_n rfl d_Ro_byteAt_5 rfl) <| mt_cons (sn_get d_Ro_byteAt_6 kc_Ro (by decide) rfl lk_Ro_15 rfl) <| mt_nil (sn_icge d_Ro_byteAt_9 (by decide) rfl)) <|
  mt_sc1 (mt_cons (sn_aload_n rfl d_Ro_byteAt_12 rfl) <| mt_cons (sn_get d_Ro_byteAt_13 kc_Ro (by decide) rfl lk_Ro_9 rfl) <| mt_cons (sn_iload_n rfl d_Ro_byteAt_16 rfl) <| mt_cons (sn_iald d_Ro_byteAt_17 rfl) <| mt_nil (sn_goto d_Ro_byteAt_18 (by decide))) <|
  mt_sc1 (mt_cons (sn_iconst d_Ro_byteAt_21 (by decide) rfl) <| mt_nil (sn_fall)) <|
  mt_sc1 (mt_nil (sn_iret d_Ro_byteAt_22 rfl)) <|
  mt_sc0
theorem os_Ro_byteAt : mt_OkS y_Ro_byteAt c_Ro_byteAt 2 (some .int) 0 0 sm_Ro_byteAt := mt_okS (by decide) rfl rfl sd_Ro_byteAt
set_option maxRecDepth 100000 in
theorem sd_Ro_clear : mt_Sc (fun _ _ => True) c_Ro_clear 1 R_Ro "clear" none 0 0 cd_Ro_clear :=
  mt_sc1 (mt_cons (sn_aload_n rfl d_Ro_clear_0 rfl) <| mt_cons (sn_iconst d_Ro_clear_1 (by decide) rfl) <| mt_cons (sn_putI d_Ro_clear_2 kc_Ro (by decide) rfl lk_Ro_15 rfl rfl rfl) <| mt_nil (sn_ret d_Ro_clear_5 rfl)) <|
  mt_sc0
theorem os_Ro_clear : mt_OkS y_Ro_clear c_Ro_clear 1 none 0 0 sm_Ro_clear := mt_okS (by decide) rfl rfl sd_Ro_clear
set_option maxRecDepth 100000 in
theorem sd_Ro_append : mt_Sc (fun _ _ => True) c_Ro_append 2 R_Ro "append" none 0 0 cd_Ro_append :=
  mt_sc1 (mt_cons (sn_aload_n rfl d_Ro_append_0 rfl) <| mt_cons (sn_get d_Ro_append_1 kc_Ro (by decide) rfl lk_Ro_15 rfl) <| mt_cons (sn_bipush d_Ro_append_4 (by decide) rfl) <| mt_nil (sn_icge d_Ro_append_6 (by decide) rfl)) <|
  mt_sc1 (mt_cons (sn_aload_n rfl d_Ro_append_9 rfl) <| mt_cons (sn_get d_Ro_append_10 kc_Ro (by decide) rfl lk_Ro_9 rfl) <| mt_cons (sn_aload_n rfl d_Ro_append_13 rfl) <| mt_cons (sn_get d_Ro_append_14 kc_Ro (by decide) rfl lk_Ro_15 rfl) <| mt_cons (sn_iload_n rfl d_Ro_append_17 rfl) <| mt_cons (sn_iast d_Ro_append_18 rfl) <| mt_cons (sn_aload_n rfl d_Ro_append_19 rfl) <| mt_cons (sn_dup d_Ro_append_20 rfl) <| mt_cons (sn_get d_Ro_append_21 kc_Ro (by decide) rfl lk_Ro_15 rfl) <| mt_cons (sn_iconst d_Ro_append_24 (by decide) rfl) <| mt_cons (sn_add d_Ro_append_25 rfl) <| mt_cons (sn_putI d_Ro_append_26 kc_Ro (by decide) rfl lk_Ro_15 rfl rfl rfl) <| mt_nil (sn_fall)) <|
  mt_sc1 (mt_nil (sn_ret d_Ro_append_29 rfl)) <|
  mt_sc0
theorem os_Ro_append : mt_OkS y_Ro_append c_Ro_append 2 none 0 0 sm_Ro_append := mt_okS (by decide) rfl rfl sd_Ro_append
set_option maxRecDepth 100000 in
theorem sd_Ro_replace : mt_Sc (fun _ _ => True) c_Ro_replace 3 R_Ro "replace" none 1 21 cd_Ro_replace :=
  mt_sc1 (mt_cons (sn_aload_n rfl d_Ro_replace_0 rfl) <| mt_cons (sn_iload_n rfl d_Ro_replace_1 rfl) <| mt_nil (sn_callV (k := 1) d_Ro_replace_2 os_Ro_holds rfl rfl lm_Ro_19 wi_Ro_holds ws_Ro_holds (by decide) (by decide) rfl)) <|
  mt_sc1 (mt_nil (sn_ifeq d_Ro_replace_5 (by decide) rfl)) <|
  mt_sc1 (mt_cons (sn_aload_n rfl d_Ro_replace_8 rfl) <| mt_cons (sn_get d_Ro_replace_9 kc_Ro (by decide) rfl lk_Ro_9 rfl) <| mt_cons (sn_iload_n rfl d_Ro_replace_12 rfl) <| mt_cons (sn_iload_n rfl d_Ro_replace_13 rfl) <| mt_cons (sn_iast d_Ro_replace_14 rfl) <| mt_nil (sn_fall)) <|
  mt_sc1 (mt_nil (sn_ret d_Ro_replace_15 rfl)) <|
  mt_sc0
theorem os_Ro_replace : mt_OkS y_Ro_replace c_Ro_replace 3 none 1 21 sm_Ro_replace := mt_okS (by decide) rfl rfl sd_Ro_replace
set_option maxRecDepth 100000 in
theorem sd_Ro_appendPart : mt_Sc (fun _ _ => True) c_Ro_appendPart 5 R_Ro "appendPart" none 1 21 cd_Ro_appendPart :=
  mt_sc1 (mt_cons (sn_iconst d_Ro_appendPart_0 (by decide) rfl) <| mt_cons (sn_istore d_Ro_appendPart_1 (by decide) rfl) <| mt_nil (sn_fall)) <|
  mt_sc1 (mt_cons (sn_iload d_Ro_appendPart_3 rfl) <| mt_cons (sn_iload_n rfl d_Ro_appendPart_5 rfl) <| mt_nil (sn_icge d_Ro_appendPart_6 (by decide) rfl)) <|
  mt_sc1 (mt_cons (sn_aload_n rfl d_Ro_appendPart_9 rfl) <| mt_cons (sn_iload_n rfl d_Ro_appendPart_10 rfl) <| mt_cons (sn_iload d_Ro_appendPart_11 rfl) <| mt_cons (sn_add d_Ro_appendPart_13 rfl) <| mt_nil (sn_callV (k := 1) d_Ro_appendPart_14 os_Ro_holds rfl rfl lm_Ro_19 wi_Ro_holds ws_Ro_holds (by decide) (by decide) rfl)) <|
  mt_sc1 (mt_nil (sn_ifeq d_Ro_appendPart_17 (by decide) rfl)) <|
  mt_sc1 (mt_cons (sn_aload_n rfl d_Ro_appendPart_20 rfl) <| mt_cons (sn_aload_n rfl d_Ro_appendPart_21 rfl) <| mt_cons (sn_get d_Ro_appendPart_22 kc_Ro (by decide) rfl lk_Ro_9 rfl) <| mt_cons (sn_iload_n rfl d_Ro_appendPart_25 rfl) <| mt_cons (sn_iload d_Ro_appendPart_26 rfl) <| mt_cons (sn_add d_Ro_appendPart_28 rfl) <| mt_cons (sn_iald d_Ro_appendPart_29 rfl) <| mt_nil (sn_callV (k := 1) d_Ro_appendPart_30 os_Ro_append rfl rfl lm_Ro_23 wi_Ro_append ws_Ro_append (by decide) (by decide) rfl)) <|
  mt_sc1 (mt_cons (sn_iinc d_Ro_appendPart_33 (by decide) (by decide) rfl) <| mt_nil (sn_goto d_Ro_appendPart_36 (by decide))) <|
  mt_sc1 (mt_nil (sn_ret d_Ro_appendPart_39 rfl)) <|
  mt_sc0
theorem os_Ro_appendPart : mt_OkS y_Ro_appendPart c_Ro_appendPart 5 none 1 21 sm_Ro_appendPart := mt_okS (by decide) rfl rfl sd_Ro_appendPart
set_option maxRecDepth 100000 in
theorem sd_Ro_strongSum : mt_Sc (fun _ _ => True) c_Ro_strongSum 5 R_Ro "strongSum" (some .int) 1 21 cd_Ro_strongSum :=
  mt_sc1 (mt_cons (sn_iconst d_Ro_strongSum_0 (by decide) rfl) <| mt_cons (sn_istore_n rfl d_Ro_strongSum_1 (by decide) rfl) <| mt_cons (sn_iconst d_Ro_strongSum_2 (by decide) rfl) <| mt_cons (sn_istore d_Ro_strongSum_3 (by decide) rfl) <| mt_nil (sn_fall)) <|
  mt_sc1 (mt_cons (sn_iload d_Ro_strongSum_5 rfl) <| mt_cons (sn_iload_n rfl d_Ro_strongSum_7 rfl) <| mt_nil (sn_icge d_Ro_strongSum_8 (by decide) rfl)) <|
  mt_sc1 (mt_cons (sn_iload_n rfl d_Ro_strongSum_11 rfl) <| mt_cons (sn_bipush d_Ro_strongSum_12 (by decide) rfl) <| mt_cons (sn_mul d_Ro_strongSum_14 rfl) <| mt_cons (sn_aload_n rfl d_Ro_strongSum_15 rfl) <| mt_cons (sn_iload_n rfl d_Ro_strongSum_16 rfl) <| mt_cons (sn_iload d_Ro_strongSum_17 rfl) <| mt_cons (sn_add d_Ro_strongSum_19 rfl) <| mt_nil (sn_callV (k := 1) d_Ro_strongSum_20 os_Ro_byteAt rfl rfl lm_Ro_34 wi_Ro_byteAt ws_Ro_byteAt (by decide) (by decide) rfl)) <|
  mt_sc1 (mt_cons (sn_add d_Ro_strongSum_23 rfl) <| mt_cons (sn_iconst d_Ro_strongSum_24 (by decide) rfl) <| mt_cons (sn_add d_Ro_strongSum_25 rfl) <| mt_cons (sn_ldc d_Ro_strongSum_26 lc_Ro_38 rfl) <| mt_cons (sn_rem d_Ro_strongSum_28 rfl) <| mt_cons (sn_istore_n rfl d_Ro_strongSum_29 (by decide) rfl) <| mt_cons (sn_iinc d_Ro_strongSum_30 (by decide) (by decide) rfl) <| mt_nil (sn_goto d_Ro_strongSum_33 (by decide))) <|
  mt_sc1 (mt_cons (sn_iload_n rfl d_Ro_strongSum_36 rfl) <| mt_nil (sn_iret d_Ro_strongSum_37 rfl)) <|
  mt_sc0
theorem os_Ro_strongSum : mt_OkS y_Ro_strongSum c_Ro_strongSum 5 (some .int) 1 21 sm_Ro_strongSum := mt_okS (by decide) rfl rfl sd_Ro_strongSum
set_option maxRecDepth 100000 in
theorem sd_Ro_weakSum : mt_Sc (fun _ _ => True) c_Ro_weakSum 7 R_Ro "weakSum" (some .int) 1 21 cd_Ro_weakSum :=
  mt_sc1 (mt_cons (sn_iconst d_Ro_weakSum_0 (by decide) rfl) <| mt_cons (sn_istore_n rfl d_Ro_weakSum_1 (by decide) rfl) <| mt_cons (sn_iconst d_Ro_weakSum_2 (by decide) rfl) <| mt_cons (sn_istore d_Ro_weakSum_3 (by decide) rfl) <| mt_cons (sn_iconst d_Ro_weakSum_5 (by decide) rfl) <| mt_cons (sn_istore d_Ro_weakSum_6 (by decide) rfl) <| mt_nil (sn_fall)) <|
  mt_sc1 (mt_cons (sn_iload d_Ro_weakSum_8 rfl) <| mt_cons (sn_iload_n rfl d_Ro_weakSum_10 rfl) <| mt_nil (sn_icge d_Ro_weakSum_11 (by decide) rfl)) <|
  mt_sc1 (mt_cons (sn_aload_n rfl d_Ro_weakSum_14 rfl) <| mt_cons (sn_iload_n rfl d_Ro_weakSum_15 rfl) <| mt_cons (sn_iload d_Ro_weakSum_16 rfl) <| mt_cons (sn_add d_Ro_weakSum_18 rfl) <| mt_nil (sn_callV (k := 1) d_Ro_weakSum_19 os_Ro_byteAt rfl rfl lm_Ro_34 wi_Ro_byteAt ws_Ro_byteAt (by decide) (by decide) rfl)) <|
  mt_sc1 (mt_cons (sn_istore d_Ro_weakSum_22 (by decide) rfl) <| mt_cons (sn_iload_n rfl d_Ro_weakSum_24 rfl) <| mt_cons (sn_iload d_Ro_weakSum_25 rfl) <| mt_cons (sn_add d_Ro_weakSum_27 rfl) <| mt_cons (sn_istore_n rfl d_Ro_weakSum_28 (by decide) rfl) <| mt_cons (sn_iload d_Ro_weakSum_29 rfl) <| mt_cons (sn_iload_n rfl d_Ro_weakSum_31 rfl) <| mt_cons (sn_iload d_Ro_weakSum_32 rfl) <| mt_cons (sn_sub d_Ro_weakSum_34 rfl) <| mt_cons (sn_iload d_Ro_weakSum_35 rfl) <| mt_cons (sn_mul d_Ro_weakSum_37 rfl) <| mt_cons (sn_add d_Ro_weakSum_38 rfl) <| mt_cons (sn_istore d_Ro_weakSum_39 (by decide) rfl) <| mt_cons (sn_iinc d_Ro_weakSum_41 (by decide) (by decide) rfl) <| mt_nil (sn_goto d_Ro_weakSum_44 (by decide))) <|
  mt_sc1 (mt_cons (sn_iload_n rfl d_Ro_weakSum_47 rfl) <| mt_cons (sn_bipush d_Ro_weakSum_48 (by decide) rfl) <| mt_cons (sn_rem d_Ro_weakSum_50 rfl) <| mt_cons (sn_bipush d_Ro_weakSum_51 (by decide) rfl) <| mt_cons (sn_iload d_Ro_weakSum_53 rfl) <| mt_cons (sn_bipush d_Ro_weakSum_55 (by decide) rfl) <| mt_cons (sn_rem d_Ro_weakSum_57 rfl) <| mt_cons (sn_mul d_Ro_weakSum_58 rfl) <| mt_cons (sn_add d_Ro_weakSum_59 rfl) <| mt_nil (sn_iret d_Ro_weakSum_60 rfl)) <|
  mt_sc0
theorem os_Ro_weakSum : mt_OkS y_Ro_weakSum c_Ro_weakSum 7 (some .int) 1 21 sm_Ro_weakSum := mt_okS (by decide) rfl rfl sd_Ro_weakSum
set_option maxRecDepth 100000 in
theorem sd_Ro_sums : mt_Sc (fun _ _ => True) c_Ro_sums 6 R_Ro "sums" (some .int) 2 47 cd_Ro_sums :=
  mt_sc1 (mt_cons (sn_aload_n rfl d_Ro_sums_0 rfl) <| mt_cons (sn_iload_n rfl d_Ro_sums_1 rfl) <| mt_cons (sn_iload_n rfl d_Ro_sums_2 rfl) <| mt_nil (sn_callV (k := 2) d_Ro_sums_3 os_Ro_strongSum rfl rfl lm_Ro_27 wi_Ro_strongSum ws_Ro_strongSum (by decide) (by decide) rfl)) <|
  mt_sc1 (mt_cons (sn_istore d_Ro_sums_6 (by decide) rfl) <| mt_cons (sn_iload_n rfl d_Ro_sums_8 rfl) <| mt_cons (sn_iconst d_Ro_sums_9 (by decide) rfl) <| mt_nil (sn_icne d_Ro_sums_10 (by decide) rfl)) <|
  mt_sc1 (mt_cons (sn_iload d_Ro_sums_13 rfl) <| mt_cons (sn_iconst d_Ro_sums_15 (by decide) rfl) <| mt_cons (sn_rem d_Ro_sums_16 rfl) <| mt_nil (sn_goto d_Ro_sums_17 (by decide))) <|
  mt_sc1 (mt_cons (sn_iload d_Ro_sums_20 rfl) <| mt_nil (sn_fall)) <|
  mt_sc1 (mt_cons (sn_istore d_Ro_sums_22 (by decide) rfl) <| mt_cons (sn_aload_n rfl d_Ro_sums_24 rfl) <| mt_cons (sn_iload_n rfl d_Ro_sums_25 rfl) <| mt_cons (sn_iload_n rfl d_Ro_sums_26 rfl) <| mt_nil (sn_callV (k := 2) d_Ro_sums_27 os_Ro_weakSum rfl rfl lm_Ro_31 wi_Ro_weakSum ws_Ro_weakSum (by decide) (by decide) rfl)) <|
  mt_sc1 (mt_cons (sn_sipush d_Ro_sums_30 (by decide) rfl) <| mt_cons (sn_iload d_Ro_sums_33 rfl) <| mt_cons (sn_mul d_Ro_sums_35 rfl) <| mt_cons (sn_add d_Ro_sums_36 rfl) <| mt_nil (sn_iret d_Ro_sums_37 rfl)) <|
  mt_sc0
theorem os_Ro_sums : mt_OkS y_Ro_sums c_Ro_sums 6 (some .int) 2 47 sm_Ro_sums := mt_okS (by decide) rfl rfl sd_Ro_sums
set_option maxRecDepth 100000 in
theorem sd_Ro_digest : mt_Sc (fun _ _ => True) c_Ro_digest 3 R_Ro "digest" (some .int) 0 0 cd_Ro_digest :=
  mt_sc1 (mt_cons (sn_ldc d_Ro_digest_0 lc_Ro_39 rfl) <| mt_cons (sn_istore_n rfl d_Ro_digest_2 (by decide) rfl) <| mt_cons (sn_iconst d_Ro_digest_3 (by decide) rfl) <| mt_cons (sn_istore_n rfl d_Ro_digest_4 (by decide) rfl) <| mt_nil (sn_fall)) <|
  mt_sc1 (mt_cons (sn_iload_n rfl d_Ro_digest_5 rfl) <| mt_cons (sn_aload_n rfl d_Ro_digest_6 rfl) <| mt_cons (sn_get d_Ro_digest_7 kc_Ro (by decide) rfl lk_Ro_15 rfl) <| mt_nil (sn_icge d_Ro_digest_10 (by decide) rfl)) <|
  mt_sc1 (mt_cons (sn_iload_n rfl d_Ro_digest_13 rfl) <| mt_cons (sn_aload_n rfl d_Ro_digest_14 rfl) <| mt_cons (sn_get d_Ro_digest_15 kc_Ro (by decide) rfl lk_Ro_9 rfl) <| mt_cons (sn_iload_n rfl d_Ro_digest_18 rfl) <| mt_cons (sn_iald d_Ro_digest_19 rfl) <| mt_cons (sn_xor d_Ro_digest_20 rfl) <| mt_cons (sn_ldc d_Ro_digest_21 lc_Ro_40 rfl) <| mt_cons (sn_mul d_Ro_digest_23 rfl) <| mt_cons (sn_istore_n rfl d_Ro_digest_24 (by decide) rfl) <| mt_cons (sn_iinc d_Ro_digest_25 (by decide) (by decide) rfl) <| mt_nil (sn_goto d_Ro_digest_28 (by decide))) <|
  mt_sc1 (mt_cons (sn_iload_n rfl d_Ro_digest_31 rfl) <| mt_nil (sn_iret d_Ro_digest_32 rfl)) <|
  mt_sc0
theorem os_Ro_digest : mt_OkS y_Ro_digest c_Ro_digest 3 (some .int) 0 0 sm_Ro_digest := mt_okS (by decide) rfl rfl sd_Ro_digest
set_option maxRecDepth 100000 in
theorem sd_Ru_init : mt_Sc (fun _ _ => True) c_Ru_init 1 R_Ru "<init>" none 1 20 cd_Ru_init :=
  mt_sc1 (mt_cons (sn_aload_n rfl d_Ru_init_0 rfl) <| mt_cons (sn_objinit d_Ru_init_1 lo_Ru_3 w_oi_i w_oi_c (by decide) rfl) <| mt_cons (sn_aload_n rfl d_Ru_init_4 rfl) <| mt_cons (sn_bipush d_Ru_init_5 (by decide) rfl) <| mt_cons (sn_newBool d_Ru_init_7 rfl) <| mt_cons (sn_putF d_Ru_init_9 kc_Ru (by decide) rfl lf_Ru_9 rfl rfl rfl (fun _ => ⟨rfl, rfl⟩) rfl) <| mt_cons (sn_aload_n rfl d_Ru_init_12 rfl) <| mt_cons (sn_bipush d_Ru_init_13 (by decide) rfl) <| mt_cons (sn_newInt d_Ru_init_15 rfl) <| mt_cons (sn_putF d_Ru_init_17 kc_Ru (by decide) rfl lf_Ru_15 rfl rfl rfl (fun _ => ⟨rfl, rfl⟩) rfl) <| mt_cons (sn_aload_n rfl d_Ru_init_20 rfl) <| mt_cons (sn_bipush d_Ru_init_21 (by decide) rfl) <| mt_cons (sn_newInt d_Ru_init_23 rfl) <| mt_cons (sn_putF d_Ru_init_25 kc_Ru (by decide) rfl lf_Ru_19 rfl rfl rfl (fun _ => ⟨rfl, rfl⟩) rfl) <| mt_cons (sn_aload_n rfl d_Ru_init_28 rfl) <| mt_cons (sn_iconst d_Ru_init_29 (by decide) rfl) <| mt_cons (sn_putI d_Ru_init_30 kc_Ru (by decide) rfl lk_Ru_22 rfl rfl rfl) <| mt_nil (sn_ret d_Ru_init_33 rfl)) <|
  mt_sc0
theorem os_Ru_init : mt_OkS y_Ru_init c_Ru_init 1 none 1 20 sm_Ru_init := mt_okS (by decide) rfl rfl sd_Ru_init
set_option maxRecDepth 100000 in
theorem sd_Ru_append : mt_Sc (fun _ _ => True) c_Ru_append 4 R_Ru "append" (some .boolean) 0 0 cd_Ru_append :=
  mt_sc1 (mt_cons (sn_aload_n rfl d_Ru_append_0 rfl) <| mt_cons (sn_get d_Ru_append_1 kc_Ru (by decide) rfl lk_Ru_22 rfl) <| mt_cons (sn_bipush d_Ru_append_4 (by decide) rfl) <| mt_nil (sn_iclt d_Ru_append_6 (by decide) rfl)) <|
  mt_sc1 (mt_cons (sn_iconst d_Ru_append_9 (by decide) rfl) <| mt_nil (sn_zret d_Ru_append_10 rfl)) <|
  mt_sc1 (mt_cons (sn_aload_n rfl d_Ru_append_11 rfl) <| mt_cons (sn_get d_Ru_append_12 kc_Ru (by decide) rfl lk_Ru_9 rfl) <| mt_cons (sn_aload_n rfl d_Ru_append_15 rfl) <| mt_cons (sn_get d_Ru_append_16 kc_Ru (by decide) rfl lk_Ru_22 rfl) <| mt_cons (sn_iload_n rfl d_Ru_append_19 rfl) <| mt_cons (sn_zast d_Ru_append_20 rfl) <| mt_cons (sn_aload_n rfl d_Ru_append_21 rfl) <| mt_cons (sn_get d_Ru_append_22 kc_Ru (by decide) rfl lk_Ru_15 rfl) <| mt_cons (sn_aload_n rfl d_Ru_append_25 rfl) <| mt_cons (sn_get d_Ru_append_26 kc_Ru (by decide) rfl lk_Ru_22 rfl) <| mt_cons (sn_iload_n rfl d_Ru_append_29 rfl) <| mt_cons (sn_iast d_Ru_append_30 rfl) <| mt_cons (sn_aload_n rfl d_Ru_append_31 rfl) <| mt_cons (sn_get d_Ru_append_32 kc_Ru (by decide) rfl lk_Ru_19 rfl) <| mt_cons (sn_aload_n rfl d_Ru_append_35 rfl) <| mt_cons (sn_get d_Ru_append_36 kc_Ru (by decide) rfl lk_Ru_22 rfl) <| mt_cons (sn_iload_n rfl d_Ru_append_39 rfl) <| mt_cons (sn_iast d_Ru_append_40 rfl) <| mt_cons (sn_aload_n rfl d_Ru_append_41 rfl) <| mt_cons (sn_dup d_Ru_append_42 rfl) <| mt_cons (sn_get d_Ru_append_43 kc_Ru (by decide) rfl lk_Ru_22 rfl) <| mt_cons (sn_iconst d_Ru_append_46 (by decide) rfl) <| mt_cons (sn_add d_Ru_append_47 rfl) <| mt_cons (sn_putI d_Ru_append_48 kc_Ru (by decide) rfl lk_Ru_22 rfl rfl rfl) <| mt_cons (sn_iconst d_Ru_append_51 (by decide) rfl) <| mt_nil (sn_zret d_Ru_append_52 rfl)) <|
  mt_sc0
theorem os_Ru_append : mt_OkS y_Ru_append c_Ru_append 4 (some .boolean) 0 0 sm_Ru_append := mt_okS (by decide) rfl rfl sd_Ru_append
set_option maxRecDepth 100000 in
theorem sd_Ru_select : mt_Sc (fun _ _ => True) c_Ru_select 3 R_Ru "select" (some .boolean) 0 0 cd_Ru_select :=
  mt_sc1 (mt_cons (sn_iconst d_Ru_select_0 (by decide) rfl) <| mt_cons (sn_istore_n rfl d_Ru_select_1 (by decide) rfl) <| mt_nil (sn_fall)) <|
  mt_sc1 (mt_cons (sn_iload_n rfl d_Ru_select_2 rfl) <| mt_cons (sn_aload_n rfl d_Ru_select_3 rfl) <| mt_cons (sn_get d_Ru_select_4 kc_Ru (by decide) rfl lk_Ru_22 rfl) <| mt_nil (sn_icge d_Ru_select_7 (by decide) rfl)) <|
  mt_sc1 (mt_cons (sn_iload_n rfl d_Ru_select_10 rfl) <| mt_cons (sn_aload_n rfl d_Ru_select_11 rfl) <| mt_cons (sn_get d_Ru_select_12 kc_Ru (by decide) rfl lk_Ru_15 rfl) <| mt_cons (sn_iload_n rfl d_Ru_select_15 rfl) <| mt_cons (sn_iald d_Ru_select_16 rfl) <| mt_cons (sn_and d_Ru_select_17 rfl) <| mt_cons (sn_aload_n rfl d_Ru_select_18 rfl) <| mt_cons (sn_get d_Ru_select_19 kc_Ru (by decide) rfl lk_Ru_19 rfl) <| mt_cons (sn_iload_n rfl d_Ru_select_22 rfl) <| mt_cons (sn_iald d_Ru_select_23 rfl) <| mt_nil (sn_icne d_Ru_select_24 (by decide) rfl)) <|
  mt_sc1 (mt_cons (sn_aload_n rfl d_Ru_select_27 rfl) <| mt_cons (sn_get d_Ru_select_28 kc_Ru (by decide) rfl lk_Ru_9 rfl) <| mt_cons (sn_iload_n rfl d_Ru_select_31 rfl) <| mt_cons (sn_zald d_Ru_select_32 rfl) <| mt_nil (sn_zret d_Ru_select_33 rfl)) <|
  mt_sc1 (mt_cons (sn_iinc d_Ru_select_34 (by decide) (by decide) rfl) <| mt_nil (sn_goto d_Ru_select_37 (by decide))) <|
  mt_sc1 (mt_cons (sn_iconst d_Ru_select_40 (by decide) rfl) <| mt_nil (sn_zret d_Ru_select_41 rfl)) <|
  mt_sc0
theorem os_Ru_select : mt_OkS y_Ru_select c_Ru_select 3 (some .boolean) 0 0 sm_Ru_select := mt_okS (by decide) rfl rfl sd_Ru_select
set_option maxRecDepth 100000 in
theorem sd_Sf_init : mt_Sc (fun _ _ => True) c_Sf_init 1 R_Sf "<init>" none 2 40 cd_Sf_init :=
  mt_sc1 (mt_cons (sn_aload_n rfl d_Sf_init_0 rfl) <| mt_cons (sn_objinit d_Sf_init_1 lo_Sf_1 w_oi_i w_oi_c (by decide) rfl) <| mt_cons (sn_aload_n rfl d_Sf_init_4 rfl) <| mt_cons (sn_new d_Sf_init_5 kc_Ro ln_Sf_7 (by decide +kernel) rfl rfl) <| mt_cons (sn_dup d_Sf_init_8 rfl) <| mt_nil (sn_callI (k := 0) d_Sf_init_9 os_Ro_init rfl lm_Sf_9 wi_Ro_init (by decide) (by decide) rfl)) <|
  mt_sc1 (mt_cons (sn_putF d_Sf_init_12 kc_Sf (by decide) rfl lf_Sf_10 rfl rfl rfl (fun _ => ⟨rfl, rfl⟩) rfl) <| mt_cons (sn_aload_n rfl d_Sf_init_15 rfl) <| mt_cons (sn_iconst d_Sf_init_16 (by decide) rfl) <| mt_cons (sn_putZ d_Sf_init_17 kc_Sf (by decide) rfl lk_Sf_16 rfl rfl rfl) <| mt_cons (sn_aload_n rfl d_Sf_init_20 rfl) <| mt_cons (sn_iconst d_Sf_init_21 (by decide) rfl) <| mt_cons (sn_putI d_Sf_init_22 kc_Sf (by decide) rfl lk_Sf_20 rfl rfl rfl) <| mt_nil (sn_ret d_Sf_init_25 rfl)) <|
  mt_sc0
theorem os_Sf_init : mt_OkS y_Sf_init c_Sf_init 1 none 2 40 sm_Sf_init := mt_okS (by decide) rfl rfl sd_Sf_init
set_option maxRecDepth 100000 in
theorem sd_Sf_erase : mt_Sc (fun _ _ => True) c_Sf_erase 1 R_Sf "erase" none 1 20 cd_Sf_erase :=
  mt_sc1 (mt_cons (sn_aload_n rfl d_Sf_erase_0 rfl) <| mt_cons (sn_iconst d_Sf_erase_1 (by decide) rfl) <| mt_cons (sn_putZ d_Sf_erase_2 kc_Sf (by decide) rfl lk_Sf_16 rfl rfl rfl) <| mt_cons (sn_aload_n rfl d_Sf_erase_5 rfl) <| mt_cons (sn_get d_Sf_erase_6 kc_Sf (by decide) rfl lk_Sf_10 rfl) <| mt_nil (sn_callV (k := 0) d_Sf_erase_9 os_Ro_clear rfl rfl lm_Sf_24 wi_Ro_clear ws_Ro_clear (by decide) (by decide) rfl)) <|
  mt_sc1 (mt_nil (sn_ret d_Sf_erase_12 rfl)) <|
  mt_sc0
theorem os_Sf_erase : mt_OkS y_Sf_erase c_Sf_erase 1 none 1 20 sm_Sf_erase := mt_okS (by decide) rfl rfl sd_Sf_erase
set_option maxRecDepth 100000 in
theorem sd_TC_init : mt_Sc (fun _ _ => True) c_TC_init 2 R_TC "<init>" none 4 81 cd_TC_init :=
  mt_sc1 (mt_cons (sn_aload_n rfl d_TC_init_0 rfl) <| mt_cons (sn_objinit d_TC_init_1 lo_TC_3 w_oi_i w_oi_c (by decide) rfl) <| mt_cons (sn_aload_n rfl d_TC_init_4 rfl) <| mt_cons (sn_bipush d_TC_init_5 (by decide) rfl) <| mt_cons (sn_newA d_TC_init_7 ln_TC_9 (fun _ _ _ h => h.2.2.2.1) (fun _ => rfl) rfl) <| mt_cons (sn_putF d_TC_init_10 kc_TC (by decide) rfl lf_TC_11 rfl rfl rfl (fun _ => ⟨rfl, rfl⟩) rfl) <| mt_cons (sn_aload_n rfl d_TC_init_13 rfl) <| mt_cons (sn_new d_TC_init_14 kc_Ru ln_TC_15 (by decide +kernel) rfl rfl) <| mt_cons (sn_dup d_TC_init_17 rfl) <| mt_nil (sn_callI (k := 0) d_TC_init_18 os_Ru_init rfl lm_TC_17 wi_Ru_init (by decide) (by decide) rfl)) <|
  mt_sc1 (mt_cons (sn_putF d_TC_init_21 kc_TC (by decide) rfl lf_TC_18 rfl rfl rfl (fun _ => ⟨rfl, rfl⟩) rfl) <| mt_cons (sn_aload_n rfl d_TC_init_24 rfl) <| mt_cons (sn_new d_TC_init_25 kc_Li ln_TC_22 (by decide +kernel) rfl rfl) <| mt_cons (sn_dup d_TC_init_28 rfl) <| mt_nil (sn_callI (k := 0) d_TC_init_29 os_Li_init rfl lm_TC_24 wi_Li_init (by decide) (by decide) rfl)) <|
  mt_sc1 (mt_cons (sn_putF d_TC_init_32 kc_TC (by decide) rfl lf_TC_25 rfl rfl rfl (fun _ => ⟨rfl, rfl⟩) rfl) <| mt_cons (sn_aload_n rfl d_TC_init_35 rfl) <| mt_cons (sn_new d_TC_init_36 kc_Li ln_TC_22 (by decide +kernel) rfl rfl) <| mt_cons (sn_dup d_TC_init_39 rfl) <| mt_nil (sn_callI (k := 0) d_TC_init_40 os_Li_init rfl lm_TC_24 wi_Li_init (by decide) (by decide) rfl)) <|
  mt_sc1 (mt_cons (sn_putF d_TC_init_43 kc_TC (by decide) rfl lf_TC_29 rfl rfl rfl (fun _ => ⟨rfl, rfl⟩) rfl) <| mt_cons (sn_aload_n rfl d_TC_init_46 rfl) <| mt_cons (sn_bipush d_TC_init_47 (by decide) rfl) <| mt_cons (sn_newA d_TC_init_49 ln_TC_32 (fun _ _ _ h => h.2.2.2.2.1) (fun _ => rfl) rfl) <| mt_cons (sn_putF d_TC_init_52 kc_TC (by decide) rfl lf_TC_34 rfl rfl rfl (fun _ => ⟨rfl, rfl⟩) rfl) <| mt_cons (sn_aload_n rfl d_TC_init_55 rfl) <| mt_cons (sn_new d_TC_init_56 kc_Jo ln_TC_38 (by decide +kernel) rfl rfl) <| mt_cons (sn_dup d_TC_init_59 rfl) <| mt_nil (sn_callI (k := 0) d_TC_init_60 os_Jo_init rfl lm_TC_40 wi_Jo_init (by decide) (by decide) rfl)) <|
  mt_sc1 (mt_cons (sn_putF d_TC_init_63 kc_TC (by decide) rfl lf_TC_41 rfl rfl rfl (fun _ => ⟨rfl, rfl⟩) rfl) <| mt_cons (sn_aload_n rfl d_TC_init_66 rfl) <| mt_cons (sn_new d_TC_init_67 kc_Ro ln_TC_45 (by decide +kernel) rfl rfl) <| mt_cons (sn_dup d_TC_init_70 rfl) <| mt_nil (sn_callI (k := 0) d_TC_init_71 os_Ro_init rfl lm_TC_47 wi_Ro_init (by decide) (by decide) rfl)) <|
  mt_sc1 (mt_cons (sn_putF d_TC_init_74 kc_TC (by decide) rfl lf_TC_48 rfl rfl rfl (fun _ => ⟨rfl, rfl⟩) rfl) <| mt_cons (sn_aload_n rfl d_TC_init_77 rfl) <| mt_cons (sn_bipush d_TC_init_78 (by decide) rfl) <| mt_cons (sn_newInt d_TC_init_80 rfl) <| mt_cons (sn_putF d_TC_init_82 kc_TC (by decide) rfl lf_TC_52 rfl rfl rfl (fun _ => ⟨rfl, rfl⟩) rfl) <| mt_cons (sn_aload_n rfl d_TC_init_85 rfl) <| mt_cons (sn_iconst d_TC_init_86 (by decide) rfl) <| mt_cons (sn_putI d_TC_init_87 kc_TC (by decide) rfl lk_TC_56 rfl rfl rfl) <| mt_cons (sn_aload_n rfl d_TC_init_90 rfl) <| mt_cons (sn_iconst d_TC_init_91 (by decide) rfl) <| mt_cons (sn_putZ d_TC_init_92 kc_TC (by decide) rfl lk_TC_60 rfl rfl rfl) <| mt_cons (sn_aload_n rfl d_TC_init_95 rfl) <| mt_cons (sn_iconst d_TC_init_96 (by decide) rfl) <| mt_cons (sn_putZ d_TC_init_97 kc_TC (by decide) rfl lk_TC_64 rfl rfl rfl) <| mt_cons (sn_aload_n rfl d_TC_init_100 rfl) <| mt_cons (sn_iconst d_TC_init_101 (by decide) rfl) <| mt_cons (sn_putI d_TC_init_102 kc_TC (by decide) rfl lk_TC_67 rfl rfl rfl) <| mt_cons (sn_iconst d_TC_init_105 (by decide) rfl) <| mt_cons (sn_istore_n rfl d_TC_init_106 (by decide) rfl) <| mt_nil (sn_fall)) <|
  mt_sc1 (mt_cons (sn_iload_n rfl d_TC_init_107 rfl) <| mt_cons (sn_aload_n rfl d_TC_init_108 rfl) <| mt_cons (sn_get d_TC_init_109 kc_TC (by decide) rfl lk_TC_11 rfl) <| mt_cons (sn_alen (fun _ => rfl) d_TC_init_112 rfl) <| mt_nil (sn_icge d_TC_init_113 (by decide) rfl)) <|
  mt_sc1 (mt_cons (sn_aload_n rfl d_TC_init_116 rfl) <| mt_cons (sn_get d_TC_init_117 kc_TC (by decide) rfl lk_TC_11 rfl) <| mt_cons (sn_iload_n rfl d_TC_init_120 rfl) <| mt_cons (sn_new d_TC_init_121 kc_Sf ln_TC_9 (by decide +kernel) rfl rfl) <| mt_cons (sn_dup d_TC_init_124 rfl) <| mt_nil (sn_callI (k := 0) d_TC_init_125 os_Sf_init rfl lm_TC_70 wi_Sf_init (by decide) (by decide) rfl)) <|
  mt_sc1 (mt_cons (sn_aast rfl (fun _ => rfl) d_TC_init_128 rfl) <| mt_cons (sn_iinc d_TC_init_129 (by decide) (by decide) rfl) <| mt_nil (sn_goto d_TC_init_132 (by decide))) <|
  mt_sc1 (mt_cons (sn_iconst d_TC_init_135 (by decide) rfl) <| mt_cons (sn_istore_n rfl d_TC_init_136 (by decide) rfl) <| mt_nil (sn_fall)) <|
  mt_sc1 (mt_cons (sn_iload_n rfl d_TC_init_137 rfl) <| mt_cons (sn_bipush d_TC_init_138 (by decide) rfl) <| mt_nil (sn_icge d_TC_init_140 (by decide) rfl)) <|
  mt_sc1 (mt_cons (sn_aload_n rfl d_TC_init_143 rfl) <| mt_cons (sn_get d_TC_init_144 kc_TC (by decide) rfl lk_TC_34 rfl) <| mt_cons (sn_iload_n rfl d_TC_init_147 rfl) <| mt_cons (sn_new d_TC_init_148 kc_En ln_TC_32 (by decide +kernel) rfl rfl) <| mt_cons (sn_dup d_TC_init_151 rfl) <| mt_nil (sn_callI (k := 0) d_TC_init_152 os_En_init rfl lm_TC_71 wi_En_init (by decide) (by decide) rfl)) <|
  mt_sc1 (mt_cons (sn_aast rfl (fun _ => rfl) d_TC_init_155 rfl) <| mt_cons (sn_iinc d_TC_init_156 (by decide) (by decide) rfl) <| mt_nil (sn_goto d_TC_init_159 (by decide))) <|
  mt_sc1 (mt_nil (sn_ret d_TC_init_162 rfl)) <|
  mt_sc0
theorem os_TC_init : mt_OkS y_TC_init c_TC_init 2 none 4 81 sm_TC_init := mt_okS (by decide) rfl rfl sd_TC_init
set_option maxRecDepth 100000 in
theorem sd_TC_isMask : mt_Sc (fun _ _ => True) c_TC_isMask 1 R_TC "isMask" (some .boolean) 0 0 cd_TC_isMask :=
  mt_sc1 (mt_cons (sn_iload_n rfl d_TC_isMask_0 rfl) <| mt_nil (sn_iflt d_TC_isMask_1 (by decide) rfl)) <|
  mt_sc1 (mt_cons (sn_iload_n rfl d_TC_isMask_4 rfl) <| mt_cons (sn_bipush d_TC_isMask_5 (by decide) rfl) <| mt_nil (sn_icgt d_TC_isMask_7 (by decide) rfl)) <|
  mt_sc1 (mt_cons (sn_iconst d_TC_isMask_10 (by decide) rfl) <| mt_nil (sn_goto d_TC_isMask_11 (by decide))) <|
  mt_sc1 (mt_cons (sn_iconst d_TC_isMask_14 (by decide) rfl) <| mt_nil (sn_fall)) <|
  mt_sc1 (mt_nil (sn_zret d_TC_isMask_15 rfl)) <|
  mt_sc0
theorem os_TC_isMask : mt_OkS y_TC_isMask c_TC_isMask 1 (some .boolean) 0 0 sm_TC_isMask := mt_okS (by decide) rfl rfl sd_TC_isMask
set_option maxRecDepth 100000 in
theorem sd_TC_rule : mt_Sc (fun _ _ => True) c_TC_rule 4 R_TC "rule" (some .boolean) 1 23 cd_TC_rule :=
  mt_sc1 (mt_cons (sn_iload_n rfl d_TC_rule_0 rfl) <| mt_nil (sn_callS (k := 1) d_TC_rule_1 os_TC_isMask rfl lm_TC_72 wst_TC_isMask (by decide) (by decide) rfl)) <|
  mt_sc1 (mt_nil (sn_ifeq d_TC_rule_4 (by decide) rfl)) <|
  mt_sc1 (mt_cons (sn_iload_n rfl d_TC_rule_7 rfl) <| mt_nil (sn_callS (k := 1) d_TC_rule_8 os_TC_isMask rfl lm_TC_72 wst_TC_isMask (by decide) (by decide) rfl)) <|
  mt_sc1 (mt_nil (sn_ifne d_TC_rule_11 (by decide) rfl)) <|
  mt_sc1 (mt_cons (sn_iconst d_TC_rule_14 (by decide) rfl) <| mt_nil (sn_zret d_TC_rule_15 rfl)) <|
  mt_sc1 (mt_cons (sn_aload_n rfl d_TC_rule_16 rfl) <| mt_cons (sn_get d_TC_rule_17 kc_TC (by decide) rfl lk_TC_18 rfl) <| mt_cons (sn_iload_n rfl d_TC_rule_20 rfl) <| mt_cons (sn_iload_n rfl d_TC_rule_21 rfl) <| mt_cons (sn_iload_n rfl d_TC_rule_22 rfl) <| mt_nil (sn_callV (k := 3) d_TC_rule_23 os_Ru_append rfl rfl lm_TC_76 wi_Ru_append ws_Ru_append (by decide) (by decide) rfl)) <|
  mt_sc1 (mt_nil (sn_zret d_TC_rule_26 rfl)) <|
  mt_sc0
theorem os_TC_rule : mt_OkS y_TC_rule c_TC_rule 4 (some .boolean) 1 23 sm_TC_rule := mt_okS (by decide) rfl rfl sd_TC_rule
set_option maxRecDepth 100000 in
theorem sd_TC_isName : mt_Sc (fun _ _ => True) c_TC_isName 1 R_TC "isName" (some .boolean) 0 0 cd_TC_isName :=
  mt_sc1 (mt_cons (sn_iload_n rfl d_TC_isName_0 rfl) <| mt_nil (sn_iflt d_TC_isName_1 (by decide) rfl)) <|
  mt_sc1 (mt_cons (sn_iload_n rfl d_TC_isName_4 rfl) <| mt_cons (sn_bipush d_TC_isName_5 (by decide) rfl) <| mt_nil (sn_icge d_TC_isName_7 (by decide) rfl)) <|
  mt_sc1 (mt_cons (sn_iconst d_TC_isName_10 (by decide) rfl) <| mt_nil (sn_goto d_TC_isName_11 (by decide))) <|
  mt_sc1 (mt_cons (sn_iconst d_TC_isName_14 (by decide) rfl) <| mt_nil (sn_fall)) <|
  mt_sc1 (mt_nil (sn_zret d_TC_isName_15 rfl)) <|
  mt_sc0
theorem os_TC_isName : mt_OkS y_TC_isName c_TC_isName 1 (some .boolean) 0 0 sm_TC_isName := mt_okS (by decide) rfl rfl sd_TC_isName
set_option maxRecDepth 100000 in
theorem sd_TC_slotOf : mt_Sc (fun _ _ => True) c_TC_slotOf 3 R_TC "slotOf" (some (.object "TreeCarrier$StoredFile")) 1 20 cd_TC_slotOf :=
  mt_sc1 (mt_cons (sn_iload_n rfl d_TC_slotOf_0 rfl) <| mt_nil (sn_iflt d_TC_slotOf_1 (by decide) rfl)) <|
  mt_sc1 (mt_cons (sn_iload_n rfl d_TC_slotOf_4 rfl) <| mt_cons (sn_iconst d_TC_slotOf_5 (by decide) rfl) <| mt_nil (sn_icge d_TC_slotOf_6 (by decide) rfl)) <|
  mt_sc1 (mt_cons (sn_iload_n rfl d_TC_slotOf_9 rfl) <| mt_nil (sn_callS (k := 1) d_TC_slotOf_10 os_TC_isName rfl lm_TC_159 wst_TC_isName (by decide) (by decide) rfl)) <|
  mt_sc1 (mt_nil (sn_ifne d_TC_slotOf_13 (by decide) rfl)) <|
  mt_sc1 (mt_cons (sn_null d_TC_slotOf_16 rfl) <| mt_nil (sn_aret d_TC_slotOf_17 rfl)) <|
  mt_sc1 (mt_cons (sn_aload_n rfl d_TC_slotOf_18 rfl) <| mt_cons (sn_get d_TC_slotOf_19 kc_TC (by decide) rfl lk_TC_11 rfl) <| mt_cons (sn_iload_n rfl d_TC_slotOf_22 rfl) <| mt_cons (sn_bipush d_TC_slotOf_23 (by decide) rfl) <| mt_cons (sn_mul d_TC_slotOf_25 rfl) <| mt_cons (sn_iload_n rfl d_TC_slotOf_26 rfl) <| mt_cons (sn_add d_TC_slotOf_27 rfl) <| mt_cons (sn_aald (fun _ => rfl) d_TC_slotOf_28 rfl) <| mt_nil (sn_aret d_TC_slotOf_29 rfl)) <|
  mt_sc0
theorem os_TC_slotOf : mt_OkS y_TC_slotOf c_TC_slotOf 3 (some (.object "TreeCarrier$StoredFile")) 1 20 sm_TC_slotOf := mt_okS (by decide) rfl rfl sd_TC_slotOf
set_option maxRecDepth 100000 in
theorem sd_TC_isByte : mt_Sc (fun _ _ => True) c_TC_isByte 1 R_TC "isByte" (some .boolean) 0 0 cd_TC_isByte :=
  mt_sc1 (mt_cons (sn_iload_n rfl d_TC_isByte_0 rfl) <| mt_nil (sn_iflt d_TC_isByte_1 (by decide) rfl)) <|
  mt_sc1 (mt_cons (sn_iload_n rfl d_TC_isByte_4 rfl) <| mt_cons (sn_sipush d_TC_isByte_5 (by decide) rfl) <| mt_nil (sn_icgt d_TC_isByte_8 (by decide) rfl)) <|
  mt_sc1 (mt_cons (sn_iconst d_TC_isByte_11 (by decide) rfl) <| mt_nil (sn_goto d_TC_isByte_12 (by decide))) <|
  mt_sc1 (mt_cons (sn_iconst d_TC_isByte_15 (by decide) rfl) <| mt_nil (sn_fall)) <|
  mt_sc1 (mt_nil (sn_zret d_TC_isByte_16 rfl)) <|
  mt_sc0
theorem os_TC_isByte : mt_OkS y_TC_isByte c_TC_isByte 1 (some .boolean) 0 0 sm_TC_isByte := mt_okS (by decide) rfl rfl sd_TC_isByte
set_option maxRecDepth 100000 in
theorem sd_TC_tick : mt_Sc (fun _ _ => True) c_TC_tick 1 R_TC "tick" (some .int) 0 0 cd_TC_tick :=
  mt_sc1 (mt_cons (sn_aload_n rfl d_TC_tick_0 rfl) <| mt_cons (sn_dup d_TC_tick_1 rfl) <| mt_cons (sn_get d_TC_tick_2 kc_TC (by decide) rfl lk_TC_56 rfl) <| mt_cons (sn_iconst d_TC_tick_5 (by decide) rfl) <| mt_cons (sn_add d_TC_tick_6 rfl) <| mt_cons (sn_putI d_TC_tick_7 kc_TC (by decide) rfl lk_TC_56 rfl rfl rfl) <| mt_cons (sn_aload_n rfl d_TC_tick_10 rfl) <| mt_cons (sn_get d_TC_tick_11 kc_TC (by decide) rfl lk_TC_56 rfl) <| mt_nil (sn_iret d_TC_tick_14 rfl)) <|
  mt_sc0
theorem os_TC_tick : mt_OkS y_TC_tick c_TC_tick 1 (some .int) 0 0 sm_TC_tick := mt_okS (by decide) rfl rfl sd_TC_tick
set_option maxRecDepth 100000 in
theorem sd_TC_put : mt_Sc (fun _ _ => True) c_TC_put 5 R_TC "put" (some .boolean) 2 42 cd_TC_put :=
  mt_sc1 (mt_cons (sn_aload_n rfl d_TC_put_0 rfl) <| mt_cons (sn_iload_n rfl d_TC_put_1 rfl) <| mt_cons (sn_iload_n rfl d_TC_put_2 rfl) <| mt_nil (sn_callV (k := 2) d_TC_put_3 os_TC_slotOf rfl rfl lm_TC_80 wi_TC_slotOf ws_TC_slotOf (by decide) (by decide) rfl)) <|
  mt_sc1 (mt_cons (sn_astore d_TC_put_6 (by decide) rfl) <| mt_cons (sn_aload d_TC_put_8 rfl) <| mt_nil (sn_ifnull d_TC_put_10 (by decide) rfl)) <|
  mt_sc1 (mt_cons (sn_iload_n rfl d_TC_put_13 rfl) <| mt_nil (sn_callS (k := 1) d_TC_put_14 os_TC_isByte rfl lm_TC_84 wst_TC_isByte (by decide) (by decide) rfl)) <|
  mt_sc1 (mt_nil (sn_ifeq d_TC_put_17 (by decide) rfl)) <|
  mt_sc1 (mt_cons (sn_aload d_TC_put_20 rfl) <| mt_cons (sn_get d_TC_put_22 kc_Sf (by decide) rfl lk_TC_87 rfl) <| mt_nil (sn_callV (k := 0) d_TC_put_25 os_Ro_isFull rfl rfl lm_TC_90 wi_Ro_isFull ws_Ro_isFull (by decide) (by decide) rfl)) <|
  mt_sc1 (mt_nil (sn_ifeq d_TC_put_28 (by decide) rfl)) <|
  mt_sc1 (mt_cons (sn_iconst d_TC_put_31 (by decide) rfl) <| mt_nil (sn_zret d_TC_put_32 rfl)) <|
  mt_sc1 (mt_cons (sn_aload d_TC_put_33 rfl) <| mt_cons (sn_iconst d_TC_put_35 (by decide) rfl) <| mt_cons (sn_putZ d_TC_put_36 kc_Sf (by decide) rfl lk_TC_94 rfl rfl rfl) <| mt_cons (sn_aload d_TC_put_39 rfl) <| mt_cons (sn_get d_TC_put_41 kc_Sf (by decide) rfl lk_TC_87 rfl) <| mt_cons (sn_iload_n rfl d_TC_put_44 rfl) <| mt_nil (sn_callV (k := 1) d_TC_put_45 os_Ro_append rfl rfl lm_TC_97 wi_Ro_append ws_Ro_append (by decide) (by decide) rfl)) <|
  mt_sc1 (mt_cons (sn_aload d_TC_put_48 rfl) <| mt_cons (sn_aload_n rfl d_TC_put_50 rfl) <| mt_nil (sn_callV (k := 0) d_TC_put_51 os_TC_tick rfl rfl lm_TC_100 wi_TC_tick ws_TC_tick (by decide) (by decide) rfl)) <|
  mt_sc1 (mt_cons (sn_putI d_TC_put_54 kc_Sf (by decide) rfl lk_TC_104 rfl rfl rfl) <| mt_cons (sn_iconst d_TC_put_57 (by decide) rfl) <| mt_nil (sn_zret d_TC_put_58 rfl)) <|
  mt_sc0
theorem os_TC_put : mt_OkS y_TC_put c_TC_put 5 (some .boolean) 2 42 sm_TC_put := mt_okS (by decide) rfl rfl sd_TC_put
set_option maxRecDepth 100000 in
theorem sd_TC_fileOf : mt_Sc (fun _ _ => True) c_TC_fileOf 4 R_TC "fileOf" (some (.object "TreeCarrier$StoredFile")) 2 42 cd_TC_fileOf :=
  mt_sc1 (mt_cons (sn_aload_n rfl d_TC_fileOf_0 rfl) <| mt_cons (sn_iload_n rfl d_TC_fileOf_1 rfl) <| mt_cons (sn_iload_n rfl d_TC_fileOf_2 rfl) <| mt_nil (sn_callV (k := 2) d_TC_fileOf_3 os_TC_slotOf rfl rfl lm_TC_80 wi_TC_slotOf ws_TC_slotOf (by decide) (by decide) rfl)) <|
  mt_sc1 (mt_cons (sn_astore_n rfl d_TC_fileOf_6 (by decide) rfl) <| mt_cons (sn_aload_n rfl d_TC_fileOf_7 rfl) <| mt_nil (sn_ifnull d_TC_fileOf_8 (by decide) rfl)) <|
  mt_sc1 (mt_cons (sn_aload_n rfl d_TC_fileOf_11 rfl) <| mt_cons (sn_get d_TC_fileOf_12 kc_Sf (by decide) rfl lk_TC_94 rfl) <| mt_nil (sn_ifeq d_TC_fileOf_15 (by decide) rfl)) <|
  mt_sc1 (mt_cons (sn_aload_n rfl d_TC_fileOf_18 rfl) <| mt_nil (sn_goto d_TC_fileOf_19 (by decide))) <|
  mt_sc1 (mt_cons (sn_null d_TC_fileOf_22 rfl) <| mt_nil (sn_fall)) <|
  mt_sc1 (mt_nil (sn_aret d_TC_fileOf_23 rfl)) <|
  mt_sc0
theorem os_TC_fileOf : mt_OkS y_TC_fileOf c_TC_fileOf 4 (some (.object "TreeCarrier$StoredFile")) 2 42 sm_TC_fileOf := mt_okS (by decide) rfl rfl sd_TC_fileOf
set_option maxRecDepth 100000 in
theorem sd_TC_set : mt_Sc (fun _ _ => True) c_TC_set 6 R_TC "set" (some .boolean) 3 65 cd_TC_set :=
  mt_sc1 (mt_cons (sn_aload_n rfl d_TC_set_0 rfl) <| mt_cons (sn_iload_n rfl d_TC_set_1 rfl) <| mt_cons (sn_iload_n rfl d_TC_set_2 rfl) <| mt_nil (sn_callV (k := 2) d_TC_set_3 os_TC_fileOf rfl rfl lm_TC_107 wi_TC_fileOf ws_TC_fileOf (by decide) (by decide) rfl)) <|
  mt_sc1 (mt_cons (sn_astore d_TC_set_6 (by decide) rfl) <| mt_cons (sn_aload d_TC_set_8 rfl) <| mt_nil (sn_ifnull d_TC_set_10 (by decide) rfl)) <|
  mt_sc1 (mt_cons (sn_aload d_TC_set_13 rfl) <| mt_cons (sn_get d_TC_set_15 kc_Sf (by decide) rfl lk_TC_87 rfl) <| mt_cons (sn_iload_n rfl d_TC_set_18 rfl) <| mt_nil (sn_callV (k := 1) d_TC_set_19 os_Ro_holds rfl rfl lm_TC_110 wi_Ro_holds ws_Ro_holds (by decide) (by decide) rfl)) <|
  mt_sc1 (mt_nil (sn_ifeq d_TC_set_22 (by decide) rfl)) <|
  mt_sc1 (mt_cons (sn_iload d_TC_set_25 rfl) <| mt_nil (sn_callS (k := 1) d_TC_set_27 os_TC_isByte rfl lm_TC_84 wst_TC_isByte (by decide) (by decide) rfl)) <|
  mt_sc1 (mt_nil (sn_ifne d_TC_set_30 (by decide) rfl)) <|
  mt_sc1 (mt_cons (sn_iconst d_TC_set_33 (by decide) rfl) <| mt_nil (sn_zret d_TC_set_34 rfl)) <|
  mt_sc1 (mt_cons (sn_aload d_TC_set_35 rfl) <| mt_cons (sn_get d_TC_set_37 kc_Sf (by decide) rfl lk_TC_87 rfl) <| mt_cons (sn_iload_n rfl d_TC_set_40 rfl) <| mt_cons (sn_iload d_TC_set_41 rfl) <| mt_nil (sn_callV (k := 2) d_TC_set_43 os_Ro_replace rfl rfl lm_TC_113 wi_Ro_replace ws_Ro_replace (by decide) (by decide) rfl)) <|
  mt_sc1 (mt_cons (sn_aload d_TC_set_46 rfl) <| mt_cons (sn_aload_n rfl d_TC_set_48 rfl) <| mt_nil (sn_callV (k := 0) d_TC_set_49 os_TC_tick rfl rfl lm_TC_100 wi_TC_tick ws_TC_tick (by decide) (by decide) rfl)) <|
  mt_sc1 (mt_cons (sn_putI d_TC_set_52 kc_Sf (by decide) rfl lk_TC_104 rfl rfl rfl) <| mt_cons (sn_iconst d_TC_set_55 (by decide) rfl) <| mt_nil (sn_zret d_TC_set_56 rfl)) <|
  mt_sc0
theorem os_TC_set : mt_OkS y_TC_set c_TC_set 6 (some .boolean) 3 65 sm_TC_set := mt_okS (by decide) rfl rfl sd_TC_set
set_option maxRecDepth 100000 in
theorem sd_TC_remove : mt_Sc (fun _ _ => True) c_TC_remove 4 R_TC "remove" (some .boolean) 3 65 cd_TC_remove :=
  mt_sc1 (mt_cons (sn_aload_n rfl d_TC_remove_0 rfl) <| mt_cons (sn_iload_n rfl d_TC_remove_1 rfl) <| mt_cons (sn_iload_n rfl d_TC_remove_2 rfl) <| mt_nil (sn_callV (k := 2) d_TC_remove_3 os_TC_fileOf rfl rfl lm_TC_107 wi_TC_fileOf ws_TC_fileOf (by decide) (by decide) rfl)) <|
  mt_sc1 (mt_cons (sn_astore_n rfl d_TC_remove_6 (by decide) rfl) <| mt_cons (sn_aload_n rfl d_TC_remove_7 rfl) <| mt_nil (sn_ifnonnull d_TC_remove_8 (by decide) rfl)) <|
  mt_sc1 (mt_cons (sn_iconst d_TC_remove_11 (by decide) rfl) <| mt_nil (sn_zret d_TC_remove_12 rfl)) <|
  mt_sc1 (mt_cons (sn_aload_n rfl d_TC_remove_13 rfl) <| mt_nil (sn_callV (k := 0) d_TC_remove_14 os_Sf_erase rfl rfl lm_TC_117 wi_Sf_erase ws_Sf_erase (by decide) (by decide) rfl)) <|
  mt_sc1 (mt_cons (sn_aload_n rfl d_TC_remove_17 rfl) <| mt_nil (sn_callV (k := 0) d_TC_remove_18 os_TC_tick rfl rfl lm_TC_100 wi_TC_tick ws_TC_tick (by decide) (by decide) rfl)) <|
  mt_sc1 (mt_cons (sn_pop d_TC_remove_21 rfl) <| mt_cons (sn_iconst d_TC_remove_22 (by decide) rfl) <| mt_nil (sn_zret d_TC_remove_23 rfl)) <|
  mt_sc0
theorem os_TC_remove : mt_OkS y_TC_remove c_TC_remove 4 (some .boolean) 3 65 sm_TC_remove := mt_okS (by decide) rfl rfl sd_TC_remove
set_option maxRecDepth 100000 in
theorem sd_TC_doOldestRecord : mt_Sc (fun _ _ => True) c_TC_doOldestRecord 3 R_TC "doOldestRecord" none 2 42 cd_TC_doOldestRecord :=
  mt_sc1 (mt_cons (sn_aload_n rfl d_TC_doOldestRecord_0 rfl) <| mt_cons (sn_get d_TC_doOldestRecord_1 kc_TC (by decide) rfl lk_TC_41 rfl) <| mt_nil (sn_callV (k := 0) d_TC_doOldestRecord_4 os_Jo_take rfl rfl lm_TC_262 wi_Jo_take ws_Jo_take (by decide) (by decide) rfl)) <|
  mt_sc1 (mt_cons (sn_astore_n rfl d_TC_doOldestRecord_7 (by decide) rfl) <| mt_cons (sn_aload_n rfl d_TC_doOldestRecord_8 rfl) <| mt_nil (sn_ifnonnull d_TC_doOldestRecord_9 (by decide) rfl)) <|
  mt_sc1 (mt_cons (sn_null d_TC_doOldestRecord_12 rfl) <| mt_nil (sn_goto d_TC_doOldestRecord_13 (by decide))) <|
  mt_sc1 (mt_cons (sn_aload_n rfl d_TC_doOldestRecord_16 rfl) <| mt_cons (sn_iconst d_TC_doOldestRecord_17 (by decide) rfl) <| mt_cons (sn_aload_n rfl d_TC_doOldestRecord_18 rfl) <| mt_cons (sn_get d_TC_doOldestRecord_19 kc_Jr (by decide) rfl lk_TC_265 rfl) <| mt_nil (sn_callV (k := 2) d_TC_doOldestRecord_22 os_TC_slotOf rfl rfl lm_TC_80 wi_TC_slotOf ws_TC_slotOf (by decide) (by decide) rfl)) <|
  mt_sc1 (mt_cons (sn_astore_n rfl d_TC_doOldestRecord_25 (by decide) rfl) <| mt_cons (sn_aload_n rfl d_TC_doOldestRecord_26 rfl) <| mt_nil (sn_ifnull d_TC_doOldestRecord_27 (by decide) rfl)) <|
  mt_sc1 (mt_cons (sn_aload_n rfl d_TC_doOldestRecord_30 rfl) <| mt_cons (sn_iconst d_TC_doOldestRecord_31 (by decide) rfl) <| mt_cons (sn_putZ d_TC_doOldestRecord_32 kc_Sf (by decide) rfl lk_TC_94 rfl rfl rfl) <| mt_cons (sn_aload_n rfl d_TC_doOldestRecord_35 rfl) <| mt_cons (sn_get d_TC_doOldestRecord_36 kc_Sf (by decide) rfl lk_TC_87 rfl) <| mt_cons (sn_aload_n rfl d_TC_doOldestRecord_39 rfl) <| mt_cons (sn_get d_TC_doOldestRecord_40 kc_Jr (by decide) rfl lk_TC_268 rfl) <| mt_nil (sn_callV (k := 1) d_TC_doOldestRecord_43 os_Ro_become rfl rfl lm_TC_269 wi_Ro_become ws_Ro_become (by decide) (by decide) rfl)) <|
  mt_sc1 (mt_cons (sn_aload_n rfl d_TC_doOldestRecord_46 rfl) <| mt_cons (sn_aload_n rfl d_TC_doOldestRecord_47 rfl) <| mt_cons (sn_get d_TC_doOldestRecord_48 kc_Jr (by decide) rfl lk_TC_273 rfl) <| mt_cons (sn_putI d_TC_doOldestRecord_51 kc_Sf (by decide) rfl lk_TC_104 rfl rfl rfl) <| mt_cons (sn_aload_n rfl d_TC_doOldestRecord_54 rfl) <| mt_cons (sn_get d_TC_doOldestRecord_55 kc_TC (by decide) rfl lk_TC_52 rfl) <| mt_cons (sn_bipush d_TC_doOldestRecord_58 (by decide) rfl) <| mt_cons (sn_dup2 d_TC_doOldestRecord_60 rfl) <| mt_cons (sn_iald d_TC_doOldestRecord_61 rfl) <| mt_cons (sn_iconst d_TC_doOldestRecord_62 (by decide) rfl) <| mt_cons (sn_add d_TC_doOldestRecord_63 rfl) <| mt_cons (sn_iast d_TC_doOldestRecord_64 rfl) <| mt_nil (sn_fall)) <|
  mt_sc1 (mt_nil (sn_ret d_TC_doOldestRecord_65 rfl)) <|
  mt_sc0
theorem os_TC_doOldestRecord : mt_OkS y_TC_doOldestRecord c_TC_doOldestRecord 3 none 2 42 sm_TC_doOldestRecord := mt_okS (by decide) rfl rfl sd_TC_doOldestRecord
set_option maxRecDepth 100000 in
theorem sd_TC_doAllRecords : mt_Sc (fun _ _ => True) c_TC_doAllRecords 3 R_TC "doAllRecords" none 3 64 cd_TC_doAllRecords :=
  mt_sc1 (mt_cons (sn_aload_n rfl d_TC_doAllRecords_0 rfl) <| mt_cons (sn_get d_TC_doAllRecords_1 kc_TC (by decide) rfl lk_TC_41 rfl) <| mt_cons (sn_get d_TC_doAllRecords_4 kc_Jo (by decide) rfl lk_TC_169 rfl) <| mt_cons (sn_istore_n rfl d_TC_doAllRecords_7 (by decide) rfl) <| mt_cons (sn_iconst d_TC_doAllRecords_8 (by decide) rfl) <| mt_cons (sn_istore_n rfl d_TC_doAllRecords_9 (by decide) rfl) <| mt_nil (sn_fall)) <|
  mt_sc1 (mt_cons (sn_iload_n rfl d_TC_doAllRecords_10 rfl) <| mt_cons (sn_iload_n rfl d_TC_doAllRecords_11 rfl) <| mt_nil (sn_icge d_TC_doAllRecords_12 (by decide) rfl)) <|
  mt_sc1 (mt_cons (sn_aload_n rfl d_TC_doAllRecords_15 rfl) <| mt_nil (sn_callV (k := 0) d_TC_doAllRecords_16 os_TC_doOldestRecord rfl rfl lm_TC_139 wi_TC_doOldestRecord ws_TC_doOldestRecord (by decide) (by decide) rfl)) <|
  mt_sc1 (mt_cons (sn_iinc d_TC_doAllRecords_19 (by decide) (by decide) rfl) <| mt_nil (sn_goto d_TC_doAllRecords_22 (by decide))) <|
  mt_sc1 (mt_nil (sn_ret d_TC_doAllRecords_25 rfl)) <|
  mt_sc0
theorem os_TC_doAllRecords : mt_OkS y_TC_doAllRecords c_TC_doAllRecords 3 none 3 64 sm_TC_doAllRecords := mt_okS (by decide) rfl rfl sd_TC_doAllRecords
set_option maxRecDepth 100000 in
theorem sd_TC_sendEntries : mt_Sc (fun _ _ => True) c_TC_sendEntries 4 R_TC "sendEntries" none 3 65 cd_TC_sendEntries :=
  mt_sc1 (mt_cons (sn_iconst d_TC_sendEntries_0 (by decide) rfl) <| mt_cons (sn_istore_n rfl d_TC_sendEntries_1 (by decide) rfl) <| mt_nil (sn_fall)) <|
  mt_sc1 (mt_cons (sn_iload_n rfl d_TC_sendEntries_2 rfl) <| mt_cons (sn_bipush d_TC_sendEntries_3 (by decide) rfl) <| mt_nil (sn_icge d_TC_sendEntries_5 (by decide) rfl)) <|
  mt_sc1 (mt_cons (sn_aload_n rfl d_TC_sendEntries_8 rfl) <| mt_cons (sn_iconst d_TC_sendEntries_9 (by decide) rfl) <| mt_cons (sn_iload_n rfl d_TC_sendEntries_10 rfl) <| mt_nil (sn_callV (k := 2) d_TC_sendEntries_11 os_TC_fileOf rfl rfl lm_TC_107 wi_TC_fileOf ws_TC_fileOf (by decide) (by decide) rfl)) <|
  mt_sc1 (mt_cons (sn_astore_n rfl d_TC_sendEntries_14 (by decide) rfl) <| mt_cons (sn_aload_n rfl d_TC_sendEntries_15 rfl) <| mt_nil (sn_ifnull d_TC_sendEntries_16 (by decide) rfl)) <|
  mt_sc1 (mt_cons (sn_aload_n rfl d_TC_sendEntries_19 rfl) <| mt_cons (sn_get d_TC_sendEntries_20 kc_TC (by decide) rfl lk_TC_18 rfl) <| mt_cons (sn_iload_n rfl d_TC_sendEntries_23 rfl) <| mt_nil (sn_callV (k := 1) d_TC_sendEntries_24 os_Ru_select rfl rfl lm_TC_162 wi_Ru_select ws_Ru_select (by decide) (by decide) rfl)) <|
  mt_sc1 (mt_nil (sn_ifeq d_TC_sendEntries_27 (by decide) rfl)) <|
  mt_sc1 (mt_cons (sn_aload_n rfl d_TC_sendEntries_30 rfl) <| mt_cons (sn_get d_TC_sendEntries_31 kc_TC (by decide) rfl lk_TC_29 rfl) <| mt_cons (sn_iconst d_TC_sendEntries_34 (by decide) rfl) <| mt_cons (sn_iload_n rfl d_TC_sendEntries_35 rfl) <| mt_nil (sn_callV (k := 2) d_TC_sendEntries_36 os_Li_append rfl rfl lm_TC_170 wi_Li_append ws_Li_append (by decide) (by decide) rfl)) <|
  mt_sc1 (mt_cons (sn_astore_n rfl d_TC_sendEntries_39 (by decide) rfl) <| mt_cons (sn_aload_n rfl d_TC_sendEntries_40 rfl) <| mt_cons (sn_aload_n rfl d_TC_sendEntries_41 rfl) <| mt_cons (sn_get d_TC_sendEntries_42 kc_Sf (by decide) rfl lk_TC_87 rfl) <| mt_cons (sn_get d_TC_sendEntries_45 kc_Ro (by decide) rfl lk_TC_152 rfl) <| mt_cons (sn_putI d_TC_sendEntries_48 kc_Ms (by decide) rfl lk_TC_173 rfl rfl rfl) <| mt_cons (sn_aload_n rfl d_TC_sendEntries_51 rfl) <| mt_cons (sn_aload_n rfl d_TC_sendEntries_52 rfl) <| mt_cons (sn_get d_TC_sendEntries_53 kc_Sf (by decide) rfl lk_TC_104 rfl) <| mt_cons (sn_putI d_TC_sendEntries_56 kc_Ms (by decide) rfl lk_TC_176 rfl rfl rfl) <| mt_nil (sn_fall)) <|
  mt_sc1 (mt_cons (sn_iinc d_TC_sendEntries_59 (by decide) (by decide) rfl) <| mt_nil (sn_goto d_TC_sendEntries_62 (by decide))) <|
  mt_sc1 (mt_cons (sn_aload_n rfl d_TC_sendEntries_65 rfl) <| mt_cons (sn_get d_TC_sendEntries_66 kc_TC (by decide) rfl lk_TC_29 rfl) <| mt_cons (sn_iconst d_TC_sendEntries_69 (by decide) rfl) <| mt_cons (sn_iconst d_TC_sendEntries_70 (by decide) rfl) <| mt_nil (sn_callV (k := 2) d_TC_sendEntries_71 os_Li_append rfl rfl lm_TC_170 wi_Li_append ws_Li_append (by decide) (by decide) rfl)) <|
  mt_sc1 (mt_cons (sn_pop d_TC_sendEntries_74 rfl) <| mt_nil (sn_ret d_TC_sendEntries_75 rfl)) <|
  mt_sc0
theorem os_TC_sendEntries : mt_OkS y_TC_sendEntries c_TC_sendEntries 4 none 3 65 sm_TC_sendEntries := mt_okS (by decide) rfl rfl sd_TC_sendEntries
set_option maxRecDepth 100000 in
theorem sd_TC_begin : mt_Sc (fun _ _ => True) c_TC_begin 3 R_TC "begin" (some .boolean) 4 88 cd_TC_begin :=
  mt_sc1 (mt_cons (sn_aload_n rfl d_TC_begin_0 rfl) <| mt_cons (sn_get d_TC_begin_1 kc_TC (by decide) rfl lk_TC_60 rfl) <| mt_nil (sn_ifne d_TC_begin_4 (by decide) rfl)) <|
  mt_sc1 (mt_cons (sn_iload_n rfl d_TC_begin_7 rfl) <| mt_cons (sn_iconst d_TC_begin_8 (by decide) rfl) <| mt_nil (sn_iclt d_TC_begin_9 (by decide) rfl)) <|
  mt_sc1 (mt_cons (sn_iload_n rfl d_TC_begin_12 rfl) <| mt_cons (sn_bipush d_TC_begin_13 (by decide) rfl) <| mt_nil (sn_icle d_TC_begin_15 (by decide) rfl)) <|
  mt_sc1 (mt_cons (sn_iconst d_TC_begin_18 (by decide) rfl) <| mt_nil (sn_zret d_TC_begin_19 rfl)) <|
  mt_sc1 (mt_cons (sn_aload_n rfl d_TC_begin_20 rfl) <| mt_nil (sn_callV (k := 0) d_TC_begin_21 os_TC_doAllRecords rfl rfl lm_TC_120 wi_TC_doAllRecords ws_TC_doAllRecords (by decide) (by decide) rfl)) <|
  mt_sc1 (mt_cons (sn_aload_n rfl d_TC_begin_24 rfl) <| mt_cons (sn_iconst d_TC_begin_25 (by decide) rfl) <| mt_cons (sn_putZ d_TC_begin_26 kc_TC (by decide) rfl lk_TC_60 rfl rfl rfl) <| mt_cons (sn_aload_n rfl d_TC_begin_29 rfl) <| mt_cons (sn_iload_n rfl d_TC_begin_30 rfl) <| mt_cons (sn_putZ d_TC_begin_31 kc_TC (by decide) rfl lk_TC_64 rfl rfl rfl) <| mt_cons (sn_aload_n rfl d_TC_begin_34 rfl) <| mt_cons (sn_iload_n rfl d_TC_begin_35 rfl) <| mt_cons (sn_putI d_TC_begin_36 kc_TC (by decide) rfl lk_TC_67 rfl rfl rfl) <| mt_cons (sn_aload_n rfl d_TC_begin_39 rfl) <| mt_nil (sn_callV (k := 0) d_TC_begin_40 os_TC_sendEntries rfl rfl lm_TC_123 wi_TC_sendEntries ws_TC_sendEntries (by decide) (by decide) rfl)) <|
  mt_sc1 (mt_cons (sn_iconst d_TC_begin_43 (by decide) rfl) <| mt_nil (sn_zret d_TC_begin_44 rfl)) <|
  mt_sc0
theorem os_TC_begin : mt_OkS y_TC_begin c_TC_begin 3 (some .boolean) 4 88 sm_TC_begin := mt_okS (by decide) rfl rfl sd_TC_begin
set_option maxRecDepth 100000 in
theorem sd_TC_lineOf : mt_Sc (fun _ _ => True) c_TC_lineOf 2 R_TC "lineOf" (some (.object "TreeCarrier$Line")) 0 0 cd_TC_lineOf :=
  mt_sc1 (mt_cons (sn_iload_n rfl d_TC_lineOf_0 rfl) <| mt_nil (sn_ifne d_TC_lineOf_1 (by decide) rfl)) <|
  mt_sc1 (mt_cons (sn_aload_n rfl d_TC_lineOf_4 rfl) <| mt_cons (sn_get d_TC_lineOf_5 kc_TC (by decide) rfl lk_TC_25 rfl) <| mt_nil (sn_aret d_TC_lineOf_8 rfl)) <|
  mt_sc1 (mt_cons (sn_iload_n rfl d_TC_lineOf_9 rfl) <| mt_cons (sn_iconst d_TC_lineOf_10 (by decide) rfl) <| mt_nil (sn_icne d_TC_lineOf_11 (by decide) rfl)) <|
  mt_sc1 (mt_cons (sn_aload_n rfl d_TC_lineOf_14 rfl) <| mt_cons (sn_get d_TC_lineOf_15 kc_TC (by decide) rfl lk_TC_29 rfl) <| mt_nil (sn_goto d_TC_lineOf_18 (by decide))) <|
  mt_sc1 (mt_cons (sn_null d_TC_lineOf_21 rfl) <| mt_nil (sn_fall)) <|
  mt_sc1 (mt_nil (sn_aret d_TC_lineOf_22 rfl)) <|
  mt_sc0
theorem os_TC_lineOf : mt_OkS y_TC_lineOf c_TC_lineOf 2 (some (.object "TreeCarrier$Line")) 0 0 sm_TC_lineOf := mt_okS (by decide) rfl rfl sd_TC_lineOf
set_option maxRecDepth 100000 in
theorem sd_TC_entryOf : mt_Sc (fun _ _ => True) c_TC_entryOf 2 R_TC "entryOf" (some (.object "TreeCarrier$Entry")) 1 20 cd_TC_entryOf :=
  mt_sc1 (mt_cons (sn_iload_n rfl d_TC_entryOf_0 rfl) <| mt_nil (sn_callS (k := 1) d_TC_entryOf_1 os_TC_isName rfl lm_TC_159 wst_TC_isName (by decide) (by decide) rfl)) <|
  mt_sc1 (mt_nil (sn_ifeq d_TC_entryOf_4 (by decide) rfl)) <|
  mt_sc1 (mt_cons (sn_aload_n rfl d_TC_entryOf_7 rfl) <| mt_cons (sn_get d_TC_entryOf_8 kc_TC (by decide) rfl lk_TC_34 rfl) <| mt_cons (sn_iload_n rfl d_TC_entryOf_11 rfl) <| mt_cons (sn_aald (fun _ => rfl) d_TC_entryOf_12 rfl) <| mt_nil (sn_goto d_TC_entryOf_13 (by decide))) <|
  mt_sc1 (mt_cons (sn_null d_TC_entryOf_16 rfl) <| mt_nil (sn_fall)) <|
  mt_sc1 (mt_nil (sn_aret d_TC_entryOf_17 rfl)) <|
  mt_sc0
theorem os_TC_entryOf : mt_OkS y_TC_entryOf c_TC_entryOf 2 (some (.object "TreeCarrier$Entry")) 1 20 sm_TC_entryOf := mt_okS (by decide) rfl rfl sd_TC_entryOf
set_option maxRecDepth 100000 in
theorem sd_TC_noteEntry : mt_Sc (fun _ _ => True) c_TC_noteEntry 3 R_TC "noteEntry" none 2 41 cd_TC_noteEntry :=
  mt_sc1 (mt_cons (sn_aload_n rfl d_TC_noteEntry_0 rfl) <| mt_cons (sn_aload_n rfl d_TC_noteEntry_1 rfl) <| mt_cons (sn_get d_TC_noteEntry_2 kc_Ms (by decide) rfl lk_TC_188 rfl) <| mt_nil (sn_callV (k := 1) d_TC_noteEntry_5 os_TC_entryOf rfl rfl lm_TC_200 wi_TC_entryOf ws_TC_entryOf (by decide) (by decide) rfl)) <|
  mt_sc1 (mt_cons (sn_astore_n rfl d_TC_noteEntry_8 (by decide) rfl) <| mt_cons (sn_aload_n rfl d_TC_noteEntry_9 rfl) <| mt_nil (sn_ifnull d_TC_noteEntry_10 (by decide) rfl)) <|
  mt_sc1 (mt_cons (sn_aload_n rfl d_TC_noteEntry_13 rfl) <| mt_cons (sn_iconst d_TC_noteEntry_14 (by decide) rfl) <| mt_cons (sn_putZ d_TC_noteEntry_15 kc_En (by decide) rfl lk_TC_204 rfl rfl rfl) <| mt_cons (sn_aload_n rfl d_TC_noteEntry_18 rfl) <| mt_cons (sn_aload_n rfl d_TC_noteEntry_19 rfl) <| mt_cons (sn_get d_TC_noteEntry_20 kc_Ms (by decide) rfl lk_TC_173 rfl) <| mt_cons (sn_putI d_TC_noteEntry_23 kc_En (by decide) rfl lk_TC_207 rfl rfl rfl) <| mt_cons (sn_aload_n rfl d_TC_noteEntry_26 rfl) <| mt_cons (sn_aload_n rfl d_TC_noteEntry_27 rfl) <| mt_cons (sn_get d_TC_noteEntry_28 kc_Ms (by decide) rfl lk_TC_176 rfl) <| mt_cons (sn_putI d_TC_noteEntry_31 kc_En (by decide) rfl lk_TC_208 rfl rfl rfl) <| mt_nil (sn_fall)) <|
  mt_sc1 (mt_nil (sn_ret d_TC_noteEntry_34 rfl)) <|
  mt_sc0
theorem os_TC_noteEntry : mt_OkS y_TC_noteEntry c_TC_noteEntry 3 none 2 41 sm_TC_noteEntry := mt_okS (by decide) rfl rfl sd_TC_noteEntry
set_option maxRecDepth 100000 in
theorem sd_TC_sendSignature : mt_Sc (fun _ _ => True) c_TC_sendSignature 7 R_TC "sendSignature" none 3 72 cd_TC_sendSignature :=
  mt_sc1 (mt_cons (sn_aload_n rfl d_TC_sendSignature_0 rfl) <| mt_cons (sn_iconst d_TC_sendSignature_1 (by decide) rfl) <| mt_cons (sn_iload_n rfl d_TC_sendSignature_2 rfl) <| mt_nil (sn_callV (k := 2) d_TC_sendSignature_3 os_TC_slotOf rfl rfl lm_TC_80 wi_TC_slotOf ws_TC_slotOf (by decide) (by decide) rfl)) <|
  mt_sc1 (mt_cons (sn_astore_n rfl d_TC_sendSignature_6 (by decide) rfl) <| mt_cons (sn_aload_n rfl d_TC_sendSignature_7 rfl) <| mt_nil (sn_ifnonnull d_TC_sendSignature_8 (by decide) rfl)) <|
  mt_sc1 (mt_nil (sn_ret d_TC_sendSignature_11 rfl)) <|
  mt_sc1 (mt_cons (sn_aload_n rfl d_TC_sendSignature_12 rfl) <| mt_cons (sn_get d_TC_sendSignature_13 kc_TC (by decide) rfl lk_TC_25 rfl) <| mt_cons (sn_iconst d_TC_sendSignature_16 (by decide) rfl) <| mt_cons (sn_iload_n rfl d_TC_sendSignature_17 rfl) <| mt_nil (sn_callV (k := 2) d_TC_sendSignature_18 os_Li_append rfl rfl lm_TC_170 wi_Li_append ws_Li_append (by decide) (by decide) rfl)) <|
  mt_sc1 (mt_cons (sn_astore d_TC_sendSignature_21 (by decide) rfl) <| mt_cons (sn_aload d_TC_sendSignature_23 rfl) <| mt_cons (sn_iload_n rfl d_TC_sendSignature_25 rfl) <| mt_cons (sn_putI d_TC_sendSignature_26 kc_Ms (by decide) rfl lk_TC_219 rfl rfl rfl) <| mt_cons (sn_aload_n rfl d_TC_sendSignature_29 rfl) <| mt_cons (sn_get d_TC_sendSignature_30 kc_TC (by decide) rfl lk_TC_67 rfl) <| mt_cons (sn_iconst d_TC_sendSignature_33 (by decide) rfl) <| mt_nil (sn_icge d_TC_sendSignature_34 (by decide) rfl)) <|
  mt_sc1 (mt_cons (sn_iconst d_TC_sendSignature_37 (by decide) rfl) <| mt_nil (sn_goto d_TC_sendSignature_38 (by decide))) <|
  mt_sc1 (mt_cons (sn_aload_n rfl d_TC_sendSignature_41 rfl) <| mt_cons (sn_get d_TC_sendSignature_42 kc_Sf (by decide) rfl lk_TC_87 rfl) <| mt_cons (sn_get d_TC_sendSignature_45 kc_Ro (by decide) rfl lk_TC_152 rfl) <| mt_cons (sn_aload_n rfl d_TC_sendSignature_48 rfl) <| mt_cons (sn_get d_TC_sendSignature_49 kc_TC (by decide) rfl lk_TC_67 rfl) <| mt_cons (sn_div d_TC_sendSignature_52 rfl) <| mt_nil (sn_fall)) <|
  mt_sc1 (mt_cons (sn_istore d_TC_sendSignature_53 (by decide) rfl) <| mt_cons (sn_iconst d_TC_sendSignature_55 (by decide) rfl) <| mt_cons (sn_istore d_TC_sendSignature_56 (by decide) rfl) <| mt_nil (sn_fall)) <|
  mt_sc1 (mt_cons (sn_iload d_TC_sendSignature_58 rfl) <| mt_cons (sn_iload d_TC_sendSignature_60 rfl) <| mt_nil (sn_icge d_TC_sendSignature_62 (by decide) rfl)) <|
  mt_sc1 (mt_cons (sn_aload d_TC_sendSignature_65 rfl) <| mt_cons (sn_aload_n rfl d_TC_sendSignature_67 rfl) <| mt_cons (sn_get d_TC_sendSignature_68 kc_Sf (by decide) rfl lk_TC_87 rfl) <| mt_cons (sn_iload d_TC_sendSignature_71 rfl) <| mt_cons (sn_aload_n rfl d_TC_sendSignature_73 rfl) <| mt_cons (sn_get d_TC_sendSignature_74 kc_TC (by decide) rfl lk_TC_67 rfl) <| mt_cons (sn_mul d_TC_sendSignature_77 rfl) <| mt_cons (sn_aload_n rfl d_TC_sendSignature_78 rfl) <| mt_cons (sn_get d_TC_sendSignature_79 kc_TC (by decide) rfl lk_TC_67 rfl) <| mt_cons (sn_iload_n rfl d_TC_sendSignature_82 rfl) <| mt_nil (sn_callV (k := 3) d_TC_sendSignature_83 os_Ro_sums rfl rfl lm_TC_222 wi_Ro_sums ws_Ro_sums (by decide) (by decide) rfl)) <|
  mt_sc1 (mt_nil (sn_callV (k := 1) d_TC_sendSignature_86 os_Ms_addItem rfl rfl lm_TC_226 wi_Ms_addItem ws_Ms_addItem (by decide) (by decide) rfl)) <|
  mt_sc1 (mt_cons (sn_iinc d_TC_sendSignature_89 (by decide) (by decide) rfl) <| mt_nil (sn_goto d_TC_sendSignature_92 (by decide))) <|
  mt_sc1 (mt_nil (sn_ret d_TC_sendSignature_95 rfl)) <|
  mt_sc0
theorem os_TC_sendSignature : mt_OkS y_TC_sendSignature c_TC_sendSignature 7 none 3 72 sm_TC_sendSignature := mt_okS (by decide) rfl rfl sd_TC_sendSignature
set_option maxRecDepth 100000 in
theorem sd_TC_openEntries : mt_Sc (fun _ _ => True) c_TC_openEntries 3 R_TC "openEntries" none 4 98 cd_TC_openEntries :=
  mt_sc1 (mt_cons (sn_iconst d_TC_openEntries_0 (by decide) rfl) <| mt_cons (sn_istore_n rfl d_TC_openEntries_1 (by decide) rfl) <| mt_nil (sn_fall)) <|
  mt_sc1 (mt_cons (sn_iload_n rfl d_TC_openEntries_2 rfl) <| mt_cons (sn_bipush d_TC_openEntries_3 (by decide) rfl) <| mt_nil (sn_icge d_TC_openEntries_5 (by decide) rfl)) <|
  mt_sc1 (mt_cons (sn_aload_n rfl d_TC_openEntries_8 rfl) <| mt_cons (sn_get d_TC_openEntries_9 kc_TC (by decide) rfl lk_TC_34 rfl) <| mt_cons (sn_iload_n rfl d_TC_openEntries_12 rfl) <| mt_cons (sn_aald (fun _ => rfl) d_TC_openEntries_13 rfl) <| mt_cons (sn_astore_n rfl d_TC_openEntries_14 (by decide) rfl) <| mt_cons (sn_aload_n rfl d_TC_openEntries_15 rfl) <| mt_cons (sn_get d_TC_openEntries_16 kc_En (by decide) rfl lk_TC_204 rfl) <| mt_nil (sn_ifne d_TC_openEntries_19 (by decide) rfl)) <|
  mt_sc1 (mt_nil (sn_goto d_TC_openEntries_22 (by decide))) <|
  mt_sc1 (mt_cons (sn_aload_n rfl d_TC_openEntries_25 rfl) <| mt_cons (sn_aload_n rfl d_TC_openEntries_26 rfl) <| mt_cons (sn_iconst d_TC_openEntries_27 (by decide) rfl) <| mt_cons (sn_iload_n rfl d_TC_openEntries_28 rfl) <| mt_nil (sn_callV (k := 2) d_TC_openEntries_29 os_TC_fileOf rfl rfl lm_TC_107 wi_TC_fileOf ws_TC_fileOf (by decide) (by decide) rfl)) <|
  mt_sc1 (mt_nil (sn_callV (k := 1) d_TC_openEntries_32 os_En_agreesWith rfl rfl lm_TC_209 wi_En_agreesWith ws_En_agreesWith (by decide) (by decide) rfl)) <|
  mt_sc1 (mt_nil (sn_ifeq d_TC_openEntries_35 (by decide) rfl)) <|
  mt_sc1 (mt_cons (sn_aload_n rfl d_TC_openEntries_38 rfl) <| mt_cons (sn_get d_TC_openEntries_39 kc_TC (by decide) rfl lk_TC_52 rfl) <| mt_cons (sn_iconst d_TC_openEntries_42 (by decide) rfl) <| mt_cons (sn_dup2 d_TC_openEntries_43 rfl) <| mt_cons (sn_iald d_TC_openEntries_44 rfl) <| mt_cons (sn_iconst d_TC_openEntries_45 (by decide) rfl) <| mt_cons (sn_add d_TC_openEntries_46 rfl) <| mt_cons (sn_iast d_TC_openEntries_47 rfl) <| mt_nil (sn_goto d_TC_openEntries_48 (by decide))) <|
  mt_sc1 (mt_cons (sn_aload_n rfl d_TC_openEntries_51 rfl) <| mt_cons (sn_iconst d_TC_openEntries_52 (by decide) rfl) <| mt_cons (sn_putZ d_TC_openEntries_53 kc_En (by decide) rfl lk_TC_213 rfl rfl rfl) <| mt_cons (sn_aload_n rfl d_TC_openEntries_56 rfl) <| mt_cons (sn_iload_n rfl d_TC_openEntries_57 rfl) <| mt_cons (sn_iconst d_TC_openEntries_58 (by decide) rfl) <| mt_nil (sn_callV (k := 2) d_TC_openEntries_59 os_TC_sendSignature rfl rfl lm_TC_216 wi_TC_sendSignature ws_TC_sendSignature (by decide) (by decide) rfl)) <|
  mt_sc1 (mt_cons (sn_iinc d_TC_openEntries_62 (by decide) (by decide) rfl) <| mt_nil (sn_goto d_TC_openEntries_65 (by decide))) <|
  mt_sc1 (mt_nil (sn_ret d_TC_openEntries_68 rfl)) <|
  mt_sc0
theorem os_TC_openEntries : mt_OkS y_TC_openEntries c_TC_openEntries 3 none 4 98 sm_TC_openEntries := mt_okS (by decide) rfl rfl sd_TC_openEntries
set_option maxRecDepth 100000 in
theorem sd_TC_rebuild : mt_Sc (fun _ _ => True) c_TC_rebuild 5 R_TC "rebuild" none 2 45 cd_TC_rebuild :=
  mt_sc1 (mt_cons (sn_aload_n rfl d_TC_rebuild_0 rfl) <| mt_cons (sn_get d_TC_rebuild_1 kc_TC (by decide) rfl lk_TC_48 rfl) <| mt_nil (sn_callV (k := 0) d_TC_rebuild_4 os_Ro_clear rfl rfl lm_TC_255 wi_Ro_clear ws_Ro_clear (by decide) (by decide) rfl)) <|
  mt_sc1 (mt_cons (sn_iconst d_TC_rebuild_7 (by decide) rfl) <| mt_cons (sn_istore_n rfl d_TC_rebuild_8 (by decide) rfl) <| mt_nil (sn_fall)) <|
  mt_sc1 (mt_cons (sn_iload_n rfl d_TC_rebuild_9 rfl) <| mt_cons (sn_aload_n rfl d_TC_rebuild_10 rfl) <| mt_cons (sn_get d_TC_rebuild_11 kc_Ms (by decide) rfl lk_TC_242 rfl) <| mt_nil (sn_icge d_TC_rebuild_14 (by decide) rfl)) <|
  mt_sc1 (mt_cons (sn_aload_n rfl d_TC_rebuild_17 rfl) <| mt_cons (sn_get d_TC_rebuild_18 kc_Ms (by decide) rfl lk_TC_245 rfl) <| mt_cons (sn_iload_n rfl d_TC_rebuild_21 rfl) <| mt_cons (sn_iald d_TC_rebuild_22 rfl) <| mt_cons (sn_istore d_TC_rebuild_23 (by decide) rfl) <| mt_cons (sn_iload d_TC_rebuild_25 rfl) <| mt_cons (sn_sipush d_TC_rebuild_27 (by decide) rfl) <| mt_nil (sn_icge d_TC_rebuild_30 (by decide) rfl)) <|
  mt_sc1 (mt_cons (sn_aload_n rfl d_TC_rebuild_33 rfl) <| mt_cons (sn_get d_TC_rebuild_34 kc_TC (by decide) rfl lk_TC_48 rfl) <| mt_cons (sn_iload d_TC_rebuild_37 rfl) <| mt_nil (sn_callV (k := 1) d_TC_rebuild_39 os_Ro_append rfl rfl lm_TC_97 wi_Ro_append ws_Ro_append (by decide) (by decide) rfl)) <|
  mt_sc1 (mt_nil (sn_goto d_TC_rebuild_42 (by decide))) <|
  mt_sc1 (mt_cons (sn_aload_n rfl d_TC_rebuild_45 rfl) <| mt_cons (sn_get d_TC_rebuild_46 kc_TC (by decide) rfl lk_TC_48 rfl) <| mt_cons (sn_aload_n rfl d_TC_rebuild_49 rfl) <| mt_cons (sn_iload d_TC_rebuild_50 rfl) <| mt_cons (sn_sipush d_TC_rebuild_52 (by decide) rfl) <| mt_cons (sn_sub d_TC_rebuild_55 rfl) <| mt_cons (sn_aload_n rfl d_TC_rebuild_56 rfl) <| mt_cons (sn_get d_TC_rebuild_57 kc_TC (by decide) rfl lk_TC_67 rfl) <| mt_cons (sn_mul d_TC_rebuild_60 rfl) <| mt_cons (sn_aload_n rfl d_TC_rebuild_61 rfl) <| mt_cons (sn_get d_TC_rebuild_62 kc_TC (by decide) rfl lk_TC_67 rfl) <| mt_nil (sn_callV (k := 3) d_TC_rebuild_65 os_Ro_appendPart rfl rfl lm_TC_258 wi_Ro_appendPart ws_Ro_appendPart (by decide) (by decide) rfl)) <|
  mt_sc1 (mt_cons (sn_iinc d_TC_rebuild_68 (by decide) (by decide) rfl) <| mt_nil (sn_goto d_TC_rebuild_71 (by decide))) <|
  mt_sc1 (mt_nil (sn_ret d_TC_rebuild_74 rfl)) <|
  mt_sc0
theorem os_TC_rebuild : mt_OkS y_TC_rebuild c_TC_rebuild 5 none 2 45 sm_TC_rebuild := mt_okS (by decide) rfl rfl sd_TC_rebuild
set_option maxRecDepth 100000 in
theorem sd_TC_failEntry : mt_Sc (fun _ _ => True) c_TC_failEntry 3 R_TC "failEntry" none 2 41 cd_TC_failEntry :=
  mt_sc1 (mt_cons (sn_aload_n rfl d_TC_failEntry_0 rfl) <| mt_cons (sn_iload_n rfl d_TC_failEntry_1 rfl) <| mt_nil (sn_callV (k := 1) d_TC_failEntry_2 os_TC_entryOf rfl rfl lm_TC_200 wi_TC_entryOf ws_TC_entryOf (by decide) (by decide) rfl)) <|
  mt_sc1 (mt_cons (sn_astore_n rfl d_TC_failEntry_5 (by decide) rfl) <| mt_cons (sn_aload_n rfl d_TC_failEntry_6 rfl) <| mt_nil (sn_ifnull d_TC_failEntry_7 (by decide) rfl)) <|
  mt_sc1 (mt_cons (sn_aload_n rfl d_TC_failEntry_10 rfl) <| mt_cons (sn_iconst d_TC_failEntry_11 (by decide) rfl) <| mt_cons (sn_putZ d_TC_failEntry_12 kc_En (by decide) rfl lk_TC_213 rfl rfl rfl) <| mt_cons (sn_aload_n rfl d_TC_failEntry_15 rfl) <| mt_cons (sn_get d_TC_failEntry_16 kc_TC (by decide) rfl lk_TC_52 rfl) <| mt_cons (sn_iconst d_TC_failEntry_19 (by decide) rfl) <| mt_cons (sn_dup2 d_TC_failEntry_20 rfl) <| mt_cons (sn_iald d_TC_failEntry_21 rfl) <| mt_cons (sn_iconst d_TC_failEntry_22 (by decide) rfl) <| mt_cons (sn_add d_TC_failEntry_23 rfl) <| mt_cons (sn_iast d_TC_failEntry_24 rfl) <| mt_nil (sn_fall)) <|
  mt_sc1 (mt_nil (sn_ret d_TC_failEntry_25 rfl)) <|
  mt_sc0
theorem os_TC_failEntry : mt_OkS y_TC_failEntry c_TC_failEntry 3 none 2 41 sm_TC_failEntry := mt_okS (by decide) rfl rfl sd_TC_failEntry
set_option maxRecDepth 100000 in
theorem sd_TC_receiveDelta : mt_Sc (fun _ _ => True) c_TC_receiveDelta 4 R_TC "receiveDelta" none 4 98 cd_TC_receiveDelta :=
  mt_sc1 (mt_cons (sn_aload_n rfl d_TC_receiveDelta_0 rfl) <| mt_cons (sn_aload_n rfl d_TC_receiveDelta_1 rfl) <| mt_cons (sn_get d_TC_receiveDelta_2 kc_Ms (by decide) rfl lk_TC_188 rfl) <| mt_nil (sn_callV (k := 1) d_TC_receiveDelta_5 os_TC_entryOf rfl rfl lm_TC_200 wi_TC_entryOf ws_TC_entryOf (by decide) (by decide) rfl)) <|
  mt_sc1 (mt_cons (sn_astore_n rfl d_TC_receiveDelta_8 (by decide) rfl) <| mt_cons (sn_aload_n rfl d_TC_receiveDelta_9 rfl) <| mt_cons (sn_iconst d_TC_receiveDelta_10 (by decide) rfl) <| mt_cons (sn_aload_n rfl d_TC_receiveDelta_11 rfl) <| mt_cons (sn_get d_TC_receiveDelta_12 kc_Ms (by decide) rfl lk_TC_188 rfl) <| mt_nil (sn_callV (k := 2) d_TC_receiveDelta_15 os_TC_slotOf rfl rfl lm_TC_80 wi_TC_slotOf ws_TC_slotOf (by decide) (by decide) rfl)) <|
  mt_sc1 (mt_cons (sn_astore_n rfl d_TC_receiveDelta_18 (by decide) rfl) <| mt_cons (sn_aload_n rfl d_TC_receiveDelta_19 rfl) <| mt_nil (sn_ifnull d_TC_receiveDelta_20 (by decide) rfl)) <|
  mt_sc1 (mt_cons (sn_aload_n rfl d_TC_receiveDelta_23 rfl) <| mt_nil (sn_ifnonnull d_TC_receiveDelta_24 (by decide) rfl)) <|
  mt_sc1 (mt_nil (sn_ret d_TC_receiveDelta_27 rfl)) <|
  mt_sc1 (mt_cons (sn_aload_n rfl d_TC_receiveDelta_28 rfl) <| mt_cons (sn_aload_n rfl d_TC_receiveDelta_29 rfl) <| mt_cons (sn_get d_TC_receiveDelta_30 kc_Sf (by decide) rfl lk_TC_87 rfl) <| mt_cons (sn_aload_n rfl d_TC_receiveDelta_33 rfl) <| mt_nil (sn_callV (k := 2) d_TC_receiveDelta_34 os_TC_rebuild rfl rfl lm_TC_248 wi_TC_rebuild ws_TC_rebuild (by decide) (by decide) rfl)) <|
  mt_sc1 (mt_cons (sn_aload_n rfl d_TC_receiveDelta_37 rfl) <| mt_cons (sn_get d_TC_receiveDelta_38 kc_TC (by decide) rfl lk_TC_48 rfl) <| mt_nil (sn_callV (k := 0) d_TC_receiveDelta_41 os_Ro_digest rfl rfl lm_TC_229 wi_Ro_digest ws_Ro_digest (by decide) (by decide) rfl)) <|
  mt_sc1 (mt_cons (sn_aload_n rfl d_TC_receiveDelta_44 rfl) <| mt_cons (sn_get d_TC_receiveDelta_45 kc_Ms (by decide) rfl lk_TC_232 rfl) <| mt_nil (sn_icne d_TC_receiveDelta_48 (by decide) rfl)) <|
  mt_sc1 (mt_cons (sn_aload_n rfl d_TC_receiveDelta_51 rfl) <| mt_cons (sn_get d_TC_receiveDelta_52 kc_TC (by decide) rfl lk_TC_41 rfl) <| mt_cons (sn_aload_n rfl d_TC_receiveDelta_55 rfl) <| mt_cons (sn_get d_TC_receiveDelta_56 kc_Ms (by decide) rfl lk_TC_188 rfl) <| mt_cons (sn_aload_n rfl d_TC_receiveDelta_59 rfl) <| mt_cons (sn_get d_TC_receiveDelta_60 kc_TC (by decide) rfl lk_TC_48 rfl) <| mt_cons (sn_aload_n rfl d_TC_receiveDelta_63 rfl) <| mt_cons (sn_get d_TC_receiveDelta_64 kc_En (by decide) rfl lk_TC_208 rfl) <| mt_nil (sn_callV (k := 3) d_TC_receiveDelta_67 os_Jo_append rfl rfl lm_TC_252 wi_Jo_append ws_Jo_append (by decide) (by decide) rfl)) <|
  mt_sc1 (mt_cons (sn_aload_n rfl d_TC_receiveDelta_70 rfl) <| mt_cons (sn_iconst d_TC_receiveDelta_71 (by decide) rfl) <| mt_cons (sn_putZ d_TC_receiveDelta_72 kc_En (by decide) rfl lk_TC_213 rfl rfl rfl) <| mt_nil (sn_goto d_TC_receiveDelta_75 (by decide))) <|
  mt_sc1 (mt_cons (sn_aload_n rfl d_TC_receiveDelta_78 rfl) <| mt_cons (sn_get d_TC_receiveDelta_79 kc_Ms (by decide) rfl lk_TC_219 rfl) <| mt_cons (sn_iconst d_TC_receiveDelta_82 (by decide) rfl) <| mt_nil (sn_icne d_TC_receiveDelta_83 (by decide) rfl)) <|
  mt_sc1 (mt_cons (sn_aload_n rfl d_TC_receiveDelta_86 rfl) <| mt_cons (sn_get d_TC_receiveDelta_87 kc_TC (by decide) rfl lk_TC_52 rfl) <| mt_cons (sn_iconst d_TC_receiveDelta_90 (by decide) rfl) <| mt_cons (sn_dup2 d_TC_receiveDelta_91 rfl) <| mt_cons (sn_iald d_TC_receiveDelta_92 rfl) <| mt_cons (sn_iconst d_TC_receiveDelta_93 (by decide) rfl) <| mt_cons (sn_add d_TC_receiveDelta_94 rfl) <| mt_cons (sn_iast d_TC_receiveDelta_95 rfl) <| mt_cons (sn_aload_n rfl d_TC_receiveDelta_96 rfl) <| mt_cons (sn_aload_n rfl d_TC_receiveDelta_97 rfl) <| mt_cons (sn_get d_TC_receiveDelta_98 kc_Ms (by decide) rfl lk_TC_188 rfl) <| mt_cons (sn_iconst d_TC_receiveDelta_101 (by decide) rfl) <| mt_nil (sn_callV (k := 2) d_TC_receiveDelta_102 os_TC_sendSignature rfl rfl lm_TC_216 wi_TC_sendSignature ws_TC_sendSignature (by decide) (by decide) rfl)) <|
  mt_sc1 (mt_nil (sn_goto d_TC_receiveDelta_105 (by decide))) <|
  mt_sc1 (mt_cons (sn_aload_n rfl d_TC_receiveDelta_108 rfl) <| mt_cons (sn_aload_n rfl d_TC_receiveDelta_109 rfl) <| mt_cons (sn_get d_TC_receiveDelta_110 kc_Ms (by decide) rfl lk_TC_188 rfl) <| mt_nil (sn_callV (k := 1) d_TC_receiveDelta_113 os_TC_failEntry rfl rfl lm_TC_191 wi_TC_failEntry ws_TC_failEntry (by decide) (by decide) rfl)) <|
  mt_sc1 (mt_nil (sn_ret d_TC_receiveDelta_116 rfl)) <|
  mt_sc0
theorem os_TC_receiveDelta : mt_OkS y_TC_receiveDelta c_TC_receiveDelta 4 none 4 98 sm_TC_receiveDelta := mt_okS (by decide) rfl rfl sd_TC_receiveDelta
set_option maxRecDepth 100000 in
theorem sd_TC_hasOpenEntry : mt_Sc (fun _ _ => True) c_TC_hasOpenEntry 2 R_TC "hasOpenEntry" (some .boolean) 0 0 cd_TC_hasOpenEntry :=
  mt_sc1 (mt_cons (sn_iconst d_TC_hasOpenEntry_0 (by decide) rfl) <| mt_cons (sn_istore_n rfl d_TC_hasOpenEntry_1 (by decide) rfl) <| mt_nil (sn_fall)) <|
  mt_sc1 (mt_cons (sn_iload_n rfl d_TC_hasOpenEntry_2 rfl) <| mt_cons (sn_bipush d_TC_hasOpenEntry_3 (by decide) rfl) <| mt_nil (sn_icge d_TC_hasOpenEntry_5 (by decide) rfl)) <|
  mt_sc1 (mt_cons (sn_aload_n rfl d_TC_hasOpenEntry_8 rfl) <| mt_cons (sn_get d_TC_hasOpenEntry_9 kc_TC (by decide) rfl lk_TC_34 rfl) <| mt_cons (sn_iload_n rfl d_TC_hasOpenEntry_12 rfl) <| mt_cons (sn_aald (fun _ => rfl) d_TC_hasOpenEntry_13 rfl) <| mt_cons (sn_get d_TC_hasOpenEntry_14 kc_En (by decide) rfl lk_TC_213 rfl) <| mt_nil (sn_ifeq d_TC_hasOpenEntry_17 (by decide) rfl)) <|
  mt_sc1 (mt_cons (sn_iconst d_TC_hasOpenEntry_20 (by decide) rfl) <| mt_nil (sn_zret d_TC_hasOpenEntry_21 rfl)) <|
  mt_sc1 (mt_cons (sn_iinc d_TC_hasOpenEntry_22 (by decide) (by decide) rfl) <| mt_nil (sn_goto d_TC_hasOpenEntry_25 (by decide))) <|
  mt_sc1 (mt_cons (sn_iconst d_TC_hasOpenEntry_28 (by decide) rfl) <| mt_nil (sn_zret d_TC_hasOpenEntry_29 rfl)) <|
  mt_sc0
theorem os_TC_hasOpenEntry : mt_OkS y_TC_hasOpenEntry c_TC_hasOpenEntry 2 (some .boolean) 0 0 sm_TC_hasOpenEntry := mt_okS (by decide) rfl rfl sd_TC_hasOpenEntry
set_option maxRecDepth 100000 in
theorem sd_TC_deleteUnlisted : mt_Sc (fun _ _ => True) c_TC_deleteUnlisted 3 R_TC "deleteUnlisted" none 3 65 cd_TC_deleteUnlisted :=
  mt_sc1 (mt_cons (sn_iconst d_TC_deleteUnlisted_0 (by decide) rfl) <| mt_cons (sn_istore_n rfl d_TC_deleteUnlisted_1 (by decide) rfl) <| mt_nil (sn_fall)) <|
  mt_sc1 (mt_cons (sn_iload_n rfl d_TC_deleteUnlisted_2 rfl) <| mt_cons (sn_bipush d_TC_deleteUnlisted_3 (by decide) rfl) <| mt_nil (sn_icge d_TC_deleteUnlisted_5 (by decide) rfl)) <|
  mt_sc1 (mt_cons (sn_aload_n rfl d_TC_deleteUnlisted_8 rfl) <| mt_cons (sn_iconst d_TC_deleteUnlisted_9 (by decide) rfl) <| mt_cons (sn_iload_n rfl d_TC_deleteUnlisted_10 rfl) <| mt_nil (sn_callV (k := 2) d_TC_deleteUnlisted_11 os_TC_fileOf rfl rfl lm_TC_107 wi_TC_fileOf ws_TC_fileOf (by decide) (by decide) rfl)) <|
  mt_sc1 (mt_cons (sn_astore_n rfl d_TC_deleteUnlisted_14 (by decide) rfl) <| mt_cons (sn_aload_n rfl d_TC_deleteUnlisted_15 rfl) <| mt_nil (sn_ifnull d_TC_deleteUnlisted_16 (by decide) rfl)) <|
  mt_sc1 (mt_cons (sn_aload_n rfl d_TC_deleteUnlisted_19 rfl) <| mt_cons (sn_get d_TC_deleteUnlisted_20 kc_TC (by decide) rfl lk_TC_18 rfl) <| mt_cons (sn_iload_n rfl d_TC_deleteUnlisted_23 rfl) <| mt_nil (sn_callV (k := 1) d_TC_deleteUnlisted_24 os_Ru_select rfl rfl lm_TC_162 wi_Ru_select ws_Ru_select (by decide) (by decide) rfl)) <|
  mt_sc1 (mt_nil (sn_ifeq d_TC_deleteUnlisted_27 (by decide) rfl)) <|
  mt_sc1 (mt_cons (sn_aload_n rfl d_TC_deleteUnlisted_30 rfl) <| mt_cons (sn_get d_TC_deleteUnlisted_31 kc_TC (by decide) rfl lk_TC_34 rfl) <| mt_cons (sn_iload_n rfl d_TC_deleteUnlisted_34 rfl) <| mt_cons (sn_aald (fun _ => rfl) d_TC_deleteUnlisted_35 rfl) <| mt_cons (sn_get d_TC_deleteUnlisted_36 kc_En (by decide) rfl lk_TC_204 rfl) <| mt_nil (sn_ifne d_TC_deleteUnlisted_39 (by decide) rfl)) <|
  mt_sc1 (mt_cons (sn_aload_n rfl d_TC_deleteUnlisted_42 rfl) <| mt_nil (sn_callV (k := 0) d_TC_deleteUnlisted_43 os_Sf_erase rfl rfl lm_TC_117 wi_Sf_erase ws_Sf_erase (by decide) (by decide) rfl)) <|
  mt_sc1 (mt_cons (sn_aload_n rfl d_TC_deleteUnlisted_46 rfl) <| mt_cons (sn_get d_TC_deleteUnlisted_47 kc_TC (by decide) rfl lk_TC_52 rfl) <| mt_cons (sn_bipush d_TC_deleteUnlisted_50 (by decide) rfl) <| mt_cons (sn_dup2 d_TC_deleteUnlisted_52 rfl) <| mt_cons (sn_iald d_TC_deleteUnlisted_53 rfl) <| mt_cons (sn_iconst d_TC_deleteUnlisted_54 (by decide) rfl) <| mt_cons (sn_add d_TC_deleteUnlisted_55 rfl) <| mt_cons (sn_iast d_TC_deleteUnlisted_56 rfl) <| mt_nil (sn_fall)) <|
  mt_sc1 (mt_cons (sn_iinc d_TC_deleteUnlisted_57 (by decide) (by decide) rfl) <| mt_nil (sn_goto d_TC_deleteUnlisted_60 (by decide))) <|
  mt_sc1 (mt_nil (sn_ret d_TC_deleteUnlisted_63 rfl)) <|
  mt_sc0
theorem os_TC_deleteUnlisted : mt_OkS y_TC_deleteUnlisted c_TC_deleteUnlisted 3 none 3 65 sm_TC_deleteUnlisted := mt_okS (by decide) rfl rfl sd_TC_deleteUnlisted
set_option maxRecDepth 100000 in
theorem sd_TC_endSession : mt_Sc (fun _ _ => True) c_TC_endSession 2 R_TC "endSession" none 1 20 cd_TC_endSession :=
  mt_sc1 (mt_cons (sn_aload_n rfl d_TC_endSession_0 rfl) <| mt_cons (sn_iconst d_TC_endSession_1 (by decide) rfl) <| mt_cons (sn_putZ d_TC_endSession_2 kc_TC (by decide) rfl lk_TC_60 rfl rfl rfl) <| mt_cons (sn_aload_n rfl d_TC_endSession_5 rfl) <| mt_cons (sn_get d_TC_endSession_6 kc_TC (by decide) rfl lk_TC_25 rfl) <| mt_nil (sn_callV (k := 0) d_TC_endSession_9 os_Li_clear rfl rfl lm_TC_277 wi_Li_clear ws_Li_clear (by decide) (by decide) rfl)) <|
  mt_sc1 (mt_cons (sn_aload_n rfl d_TC_endSession_12 rfl) <| mt_cons (sn_get d_TC_endSession_13 kc_TC (by decide) rfl lk_TC_29 rfl) <| mt_nil (sn_callV (k := 0) d_TC_endSession_16 os_Li_clear rfl rfl lm_TC_277 wi_Li_clear ws_Li_clear (by decide) (by decide) rfl)) <|
  mt_sc1 (mt_cons (sn_iconst d_TC_endSession_19 (by decide) rfl) <| mt_cons (sn_istore_n rfl d_TC_endSession_20 (by decide) rfl) <| mt_nil (sn_fall)) <|
  mt_sc1 (mt_cons (sn_iload_n rfl d_TC_endSession_21 rfl) <| mt_cons (sn_bipush d_TC_endSession_22 (by decide) rfl) <| mt_nil (sn_icge d_TC_endSession_24 (by decide) rfl)) <|
  mt_sc1 (mt_cons (sn_aload_n rfl d_TC_endSession_27 rfl) <| mt_cons (sn_get d_TC_endSession_28 kc_TC (by decide) rfl lk_TC_34 rfl) <| mt_cons (sn_iload_n rfl d_TC_endSession_31 rfl) <| mt_cons (sn_aald (fun _ => rfl) d_TC_endSession_32 rfl) <| mt_nil (sn_callV (k := 0) d_TC_endSession_33 os_En_forget rfl rfl lm_TC_278 wi_En_forget ws_En_forget (by decide) (by decide) rfl)) <|
  mt_sc1 (mt_cons (sn_iinc d_TC_endSession_36 (by decide) (by decide) rfl) <| mt_nil (sn_goto d_TC_endSession_39 (by decide))) <|
  mt_sc1 (mt_nil (sn_ret d_TC_endSession_42 rfl)) <|
  mt_sc0
theorem os_TC_endSession : mt_OkS y_TC_endSession c_TC_endSession 2 none 1 20 sm_TC_endSession := mt_okS (by decide) rfl rfl sd_TC_endSession
set_option maxRecDepth 100000 in
theorem sd_TC_concludeSession : mt_Sc (fun _ _ => True) c_TC_concludeSession 1 R_TC "concludeSession" none 4 87 cd_TC_concludeSession :=
  mt_sc1 (mt_cons (sn_aload_n rfl d_TC_concludeSession_0 rfl) <| mt_nil (sn_callV (k := 0) d_TC_concludeSession_1 os_TC_doAllRecords rfl rfl lm_TC_120 wi_TC_doAllRecords ws_TC_doAllRecords (by decide) (by decide) rfl)) <|
  mt_sc1 (mt_cons (sn_aload_n rfl d_TC_concludeSession_4 rfl) <| mt_cons (sn_get d_TC_concludeSession_5 kc_TC (by decide) rfl lk_TC_64 rfl) <| mt_nil (sn_ifeq d_TC_concludeSession_8 (by decide) rfl)) <|
  mt_sc1 (mt_cons (sn_aload_n rfl d_TC_concludeSession_11 rfl) <| mt_nil (sn_callV (k := 0) d_TC_concludeSession_12 os_TC_deleteUnlisted rfl rfl lm_TC_274 wi_TC_deleteUnlisted ws_TC_deleteUnlisted (by decide) (by decide) rfl)) <|
  mt_sc1 (mt_cons (sn_aload_n rfl d_TC_concludeSession_15 rfl) <| mt_nil (sn_callV (k := 0) d_TC_concludeSession_16 os_TC_endSession rfl rfl lm_TC_149 wi_TC_endSession ws_TC_endSession (by decide) (by decide) rfl)) <|
  mt_sc1 (mt_cons (sn_aload_n rfl d_TC_concludeSession_19 rfl) <| mt_cons (sn_get d_TC_concludeSession_20 kc_TC (by decide) rfl lk_TC_52 rfl) <| mt_cons (sn_iconst d_TC_concludeSession_23 (by decide) rfl) <| mt_cons (sn_dup2 d_TC_concludeSession_24 rfl) <| mt_cons (sn_iald d_TC_concludeSession_25 rfl) <| mt_cons (sn_iconst d_TC_concludeSession_26 (by decide) rfl) <| mt_cons (sn_add d_TC_concludeSession_27 rfl) <| mt_cons (sn_iast d_TC_concludeSession_28 rfl) <| mt_nil (sn_ret d_TC_concludeSession_29 rfl)) <|
  mt_sc0
theorem os_TC_concludeSession : mt_OkS y_TC_concludeSession c_TC_concludeSession 1 none 4 87 sm_TC_concludeSession := mt_okS (by decide) rfl rfl sd_TC_concludeSession
set_option maxRecDepth 100000 in
theorem sd_TC_receive : mt_Sc (fun _ _ => True) c_TC_receive 2 R_TC "receive" none 5 121 cd_TC_receive :=
  mt_sc1 (mt_cons (sn_aload_n rfl d_TC_receive_0 rfl) <| mt_cons (sn_get d_TC_receive_1 kc_Ms (by decide) rfl lk_TC_134 rfl) <| mt_nil (sn_tsw d_TC_receive_4 (by decide) (by decide))) <|
  mt_sc1 (mt_cons (sn_aload_n rfl d_TC_receive_40 rfl) <| mt_cons (sn_aload_n rfl d_TC_receive_41 rfl) <| mt_nil (sn_callV (k := 1) d_TC_receive_42 os_TC_noteEntry rfl rfl lm_TC_179 wi_TC_noteEntry ws_TC_noteEntry (by decide) (by decide) rfl)) <|
  mt_sc1 (mt_nil (sn_goto d_TC_receive_45 (by decide))) <|
  mt_sc1 (mt_cons (sn_aload_n rfl d_TC_receive_48 rfl) <| mt_nil (sn_callV (k := 0) d_TC_receive_49 os_TC_openEntries rfl rfl lm_TC_182 wi_TC_openEntries ws_TC_openEntries (by decide) (by decide) rfl)) <|
  mt_sc1 (mt_nil (sn_goto d_TC_receive_52 (by decide))) <|
  mt_sc1 (mt_cons (sn_aload_n rfl d_TC_receive_55 rfl) <| mt_cons (sn_aload_n rfl d_TC_receive_56 rfl) <| mt_nil (sn_callV (k := 1) d_TC_receive_57 os_TC_receiveDelta rfl rfl lm_TC_185 wi_TC_receiveDelta ws_TC_receiveDelta (by decide) (by decide) rfl)) <|
  mt_sc1 (mt_nil (sn_goto d_TC_receive_60 (by decide))) <|
  mt_sc1 (mt_cons (sn_aload_n rfl d_TC_receive_63 rfl) <| mt_cons (sn_aload_n rfl d_TC_receive_64 rfl) <| mt_cons (sn_get d_TC_receive_65 kc_Ms (by decide) rfl lk_TC_188 rfl) <| mt_nil (sn_callV (k := 1) d_TC_receive_68 os_TC_failEntry rfl rfl lm_TC_191 wi_TC_failEntry ws_TC_failEntry (by decide) (by decide) rfl)) <|
  mt_sc1 (mt_nil (sn_goto d_TC_receive_71 (by decide))) <|
  mt_sc1 (mt_cons (sn_aload_n rfl d_TC_receive_74 rfl) <| mt_cons (sn_get d_TC_receive_75 kc_Ms (by decide) rfl lk_TC_134 rfl) <| mt_cons (sn_iconst d_TC_receive_78 (by decide) rfl) <| mt_nil (sn_iceq d_TC_receive_79 (by decide) rfl)) <|
  mt_sc1 (mt_cons (sn_aload_n rfl d_TC_receive_82 rfl) <| mt_nil (sn_callV (k := 0) d_TC_receive_83 os_TC_hasOpenEntry rfl rfl lm_TC_194 wi_TC_hasOpenEntry ws_TC_hasOpenEntry (by decide) (by decide) rfl)) <|
  mt_sc1 (mt_nil (sn_ifne d_TC_receive_86 (by decide) rfl)) <|
  mt_sc1 (mt_cons (sn_aload_n rfl d_TC_receive_89 rfl) <| mt_nil (sn_callV (k := 0) d_TC_receive_90 os_TC_concludeSession rfl rfl lm_TC_197 wi_TC_concludeSession ws_TC_concludeSession (by decide) (by decide) rfl)) <|
  mt_sc1 (mt_nil (sn_ret d_TC_receive_93 rfl)) <|
  mt_sc0
theorem os_TC_receive : mt_OkS y_TC_receive c_TC_receive 2 none 5 121 sm_TC_receive := mt_okS (by decide) rfl rfl sd_TC_receive
set_option maxRecDepth 100000 in
theorem sd_TC_findBlock : mt_Sc (fun _ _ => True) c_TC_findBlock 6 R_TC "findBlock" (some .int) 3 72 cd_TC_findBlock :=
  mt_sc1 (mt_cons (sn_iload_n rfl d_TC_findBlock_0 rfl) <| mt_cons (sn_aload_n rfl d_TC_findBlock_1 rfl) <| mt_cons (sn_get d_TC_findBlock_2 kc_TC (by decide) rfl lk_TC_67 rfl) <| mt_cons (sn_add d_TC_findBlock_5 rfl) <| mt_cons (sn_aload_n rfl d_TC_findBlock_6 rfl) <| mt_cons (sn_get d_TC_findBlock_7 kc_Ro (by decide) rfl lk_TC_152 rfl) <| mt_nil (sn_icle d_TC_findBlock_10 (by decide) rfl)) <|
  mt_sc1 (mt_cons (sn_iconst d_TC_findBlock_13 (by decide) rfl) <| mt_nil (sn_iret d_TC_findBlock_14 rfl)) <|
  mt_sc1 (mt_cons (sn_aload_n rfl d_TC_findBlock_15 rfl) <| mt_cons (sn_iload_n rfl d_TC_findBlock_16 rfl) <| mt_cons (sn_aload_n rfl d_TC_findBlock_17 rfl) <| mt_cons (sn_get d_TC_findBlock_18 kc_TC (by decide) rfl lk_TC_67 rfl) <| mt_cons (sn_aload_n rfl d_TC_findBlock_21 rfl) <| mt_cons (sn_get d_TC_findBlock_22 kc_Ms (by decide) rfl lk_TC_219 rfl) <| mt_nil (sn_callV (k := 3) d_TC_findBlock_25 os_Ro_sums rfl rfl lm_TC_222 wi_Ro_sums ws_Ro_sums (by decide) (by decide) rfl)) <|
  mt_sc1 (mt_cons (sn_istore d_TC_findBlock_28 (by decide) rfl) <| mt_cons (sn_iconst d_TC_findBlock_30 (by decide) rfl) <| mt_cons (sn_istore d_TC_findBlock_31 (by decide) rfl) <| mt_nil (sn_fall)) <|
  mt_sc1 (mt_cons (sn_iload d_TC_findBlock_33 rfl) <| mt_cons (sn_aload_n rfl d_TC_findBlock_35 rfl) <| mt_cons (sn_get d_TC_findBlock_36 kc_Ms (by decide) rfl lk_TC_242 rfl) <| mt_nil (sn_icge d_TC_findBlock_39 (by decide) rfl)) <|
  mt_sc1 (mt_cons (sn_aload_n rfl d_TC_findBlock_42 rfl) <| mt_cons (sn_get d_TC_findBlock_43 kc_Ms (by decide) rfl lk_TC_245 rfl) <| mt_cons (sn_iload d_TC_findBlock_46 rfl) <| mt_cons (sn_iald d_TC_findBlock_48 rfl) <| mt_cons (sn_iload d_TC_findBlock_49 rfl) <| mt_nil (sn_icne d_TC_findBlock_51 (by decide) rfl)) <|
  mt_sc1 (mt_cons (sn_iload d_TC_findBlock_54 rfl) <| mt_nil (sn_iret d_TC_findBlock_56 rfl)) <|
  mt_sc1 (mt_cons (sn_iinc d_TC_findBlock_57 (by decide) (by decide) rfl) <| mt_nil (sn_goto d_TC_findBlock_60 (by decide))) <|
  mt_sc1 (mt_cons (sn_iconst d_TC_findBlock_63 (by decide) rfl) <| mt_nil (sn_iret d_TC_findBlock_64 rfl)) <|
  mt_sc0
theorem os_TC_findBlock : mt_OkS y_TC_findBlock c_TC_findBlock 6 (some .int) 3 72 sm_TC_findBlock := mt_okS (by decide) rfl rfl sd_TC_findBlock
set_option maxRecDepth 100000 in
theorem sd_TC_fillDelta : mt_Sc (fun _ _ => True) c_TC_fillDelta 7 R_TC "fillDelta" none 4 97 cd_TC_fillDelta :=
  mt_sc1 (mt_cons (sn_iconst d_TC_fillDelta_0 (by decide) rfl) <| mt_cons (sn_istore d_TC_fillDelta_1 (by decide) rfl) <| mt_cons (sn_iconst d_TC_fillDelta_3 (by decide) rfl) <| mt_cons (sn_istore d_TC_fillDelta_4 (by decide) rfl) <| mt_nil (sn_fall)) <|
  mt_sc1 (mt_cons (sn_iload d_TC_fillDelta_6 rfl) <| mt_cons (sn_aload_n rfl d_TC_fillDelta_8 rfl) <| mt_cons (sn_get d_TC_fillDelta_9 kc_Ro (by decide) rfl lk_TC_152 rfl) <| mt_nil (sn_icge d_TC_fillDelta_12 (by decide) rfl)) <|
  mt_sc1 (mt_cons (sn_iload d_TC_fillDelta_15 rfl) <| mt_cons (sn_iload d_TC_fillDelta_17 rfl) <| mt_nil (sn_icge d_TC_fillDelta_19 (by decide) rfl)) <|
  mt_sc1 (mt_nil (sn_goto d_TC_fillDelta_22 (by decide))) <|
  mt_sc1 (mt_cons (sn_aload_n rfl d_TC_fillDelta_25 rfl) <| mt_cons (sn_aload_n rfl d_TC_fillDelta_26 rfl) <| mt_cons (sn_iload d_TC_fillDelta_27 rfl) <| mt_cons (sn_aload_n rfl d_TC_fillDelta_29 rfl) <| mt_nil (sn_callV (k := 3) d_TC_fillDelta_30 os_TC_findBlock rfl rfl lm_TC_238 wi_TC_findBlock ws_TC_findBlock (by decide) (by decide) rfl)) <|
  mt_sc1 (mt_cons (sn_istore d_TC_fillDelta_33 (by decide) rfl) <| mt_cons (sn_iload d_TC_fillDelta_35 rfl) <| mt_cons (sn_iconst d_TC_fillDelta_37 (by decide) rfl) <| mt_nil (sn_icne d_TC_fillDelta_38 (by decide) rfl)) <|
  mt_sc1 (mt_cons (sn_aload_n rfl d_TC_fillDelta_41 rfl) <| mt_cons (sn_aload_n rfl d_TC_fillDelta_42 rfl) <| mt_cons (sn_iload d_TC_fillDelta_43 rfl) <| mt_nil (sn_callV (k := 1) d_TC_fillDelta_45 os_Ro_byteAt rfl rfl lm_TC_155 wi_Ro_byteAt ws_Ro_byteAt (by decide) (by decide) rfl)) <|
  mt_sc1 (mt_nil (sn_callV (k := 1) d_TC_fillDelta_48 os_Ms_addItem rfl rfl lm_TC_226 wi_Ms_addItem ws_Ms_addItem (by decide) (by decide) rfl)) <|
  mt_sc1 (mt_cons (sn_aload_n rfl d_TC_fillDelta_51 rfl) <| mt_cons (sn_get d_TC_fillDelta_52 kc_TC (by decide) rfl lk_TC_52 rfl) <| mt_cons (sn_iconst d_TC_fillDelta_55 (by decide) rfl) <| mt_cons (sn_dup2 d_TC_fillDelta_56 rfl) <| mt_cons (sn_iald d_TC_fillDelta_57 rfl) <| mt_cons (sn_iconst d_TC_fillDelta_58 (by decide) rfl) <| mt_cons (sn_add d_TC_fillDelta_59 rfl) <| mt_cons (sn_iast d_TC_fillDelta_60 rfl) <| mt_nil (sn_goto d_TC_fillDelta_61 (by decide))) <|
  mt_sc1 (mt_cons (sn_aload_n rfl d_TC_fillDelta_64 rfl) <| mt_cons (sn_sipush d_TC_fillDelta_65 (by decide) rfl) <| mt_cons (sn_iload d_TC_fillDelta_68 rfl) <| mt_cons (sn_add d_TC_fillDelta_70 rfl) <| mt_nil (sn_callV (k := 1) d_TC_fillDelta_71 os_Ms_addItem rfl rfl lm_TC_226 wi_Ms_addItem ws_Ms_addItem (by decide) (by decide) rfl)) <|
  mt_sc1 (mt_cons (sn_aload_n rfl d_TC_fillDelta_74 rfl) <| mt_cons (sn_get d_TC_fillDelta_75 kc_TC (by decide) rfl lk_TC_52 rfl) <| mt_cons (sn_iconst d_TC_fillDelta_78 (by decide) rfl) <| mt_cons (sn_dup2 d_TC_fillDelta_79 rfl) <| mt_cons (sn_iald d_TC_fillDelta_80 rfl) <| mt_cons (sn_iconst d_TC_fillDelta_81 (by decide) rfl) <| mt_cons (sn_add d_TC_fillDelta_82 rfl) <| mt_cons (sn_iast d_TC_fillDelta_83 rfl) <| mt_cons (sn_iload d_TC_fillDelta_84 rfl) <| mt_cons (sn_aload_n rfl d_TC_fillDelta_86 rfl) <| mt_cons (sn_get d_TC_fillDelta_87 kc_TC (by decide) rfl lk_TC_67 rfl) <| mt_cons (sn_add d_TC_fillDelta_90 rfl) <| mt_cons (sn_istore d_TC_fillDelta_91 (by decide) rfl) <| mt_nil (sn_fall)) <|
  mt_sc1 (mt_cons (sn_iinc d_TC_fillDelta_93 (by decide) (by decide) rfl) <| mt_nil (sn_goto d_TC_fillDelta_96 (by decide))) <|
  mt_sc1 (mt_nil (sn_ret d_TC_fillDelta_99 rfl)) <|
  mt_sc0
theorem os_TC_fillDelta : mt_OkS y_TC_fillDelta c_TC_fillDelta 7 none 4 97 sm_TC_fillDelta := mt_okS (by decide) rfl rfl sd_TC_fillDelta
set_option maxRecDepth 100000 in
theorem sd_TC_answerSignature : mt_Sc (fun _ _ => True) c_TC_answerSignature 4 R_TC "answerSignature" none 5 123 cd_TC_answerSignature :=
  mt_sc1 (mt_cons (sn_aload_n rfl d_TC_answerSignature_0 rfl) <| mt_cons (sn_iconst d_TC_answerSignature_1 (by decide) rfl) <| mt_cons (sn_aload_n rfl d_TC_answerSignature_2 rfl) <| mt_cons (sn_get d_TC_answerSignature_3 kc_Ms (by decide) rfl lk_TC_188 rfl) <| mt_nil (sn_callV (k := 2) d_TC_answerSignature_6 os_TC_fileOf rfl rfl lm_TC_107 wi_TC_fileOf ws_TC_fileOf (by decide) (by decide) rfl)) <|
  mt_sc1 (mt_cons (sn_astore_n rfl d_TC_answerSignature_9 (by decide) rfl) <| mt_cons (sn_aload_n rfl d_TC_answerSignature_10 rfl) <| mt_nil (sn_ifnonnull d_TC_answerSignature_11 (by decide) rfl)) <|
  mt_sc1 (mt_cons (sn_aload_n rfl d_TC_answerSignature_14 rfl) <| mt_cons (sn_get d_TC_answerSignature_15 kc_TC (by decide) rfl lk_TC_29 rfl) <| mt_cons (sn_iconst d_TC_answerSignature_18 (by decide) rfl) <| mt_cons (sn_aload_n rfl d_TC_answerSignature_19 rfl) <| mt_cons (sn_get d_TC_answerSignature_20 kc_Ms (by decide) rfl lk_TC_188 rfl) <| mt_nil (sn_callV (k := 2) d_TC_answerSignature_23 os_Li_append rfl rfl lm_TC_170 wi_Li_append ws_Li_append (by decide) (by decide) rfl)) <|
  mt_sc1 (mt_cons (sn_pop d_TC_answerSignature_26 rfl) <| mt_nil (sn_ret d_TC_answerSignature_27 rfl)) <|
  mt_sc1 (mt_cons (sn_aload_n rfl d_TC_answerSignature_28 rfl) <| mt_cons (sn_get d_TC_answerSignature_29 kc_TC (by decide) rfl lk_TC_29 rfl) <| mt_cons (sn_iconst d_TC_answerSignature_32 (by decide) rfl) <| mt_cons (sn_aload_n rfl d_TC_answerSignature_33 rfl) <| mt_cons (sn_get d_TC_answerSignature_34 kc_Ms (by decide) rfl lk_TC_188 rfl) <| mt_nil (sn_callV (k := 2) d_TC_answerSignature_37 os_Li_append rfl rfl lm_TC_170 wi_Li_append ws_Li_append (by decide) (by decide) rfl)) <|
  mt_sc1 (mt_cons (sn_astore_n rfl d_TC_answerSignature_40 (by decide) rfl) <| mt_cons (sn_aload_n rfl d_TC_answerSignature_41 rfl) <| mt_cons (sn_aload_n rfl d_TC_answerSignature_42 rfl) <| mt_cons (sn_get d_TC_answerSignature_43 kc_Ms (by decide) rfl lk_TC_219 rfl) <| mt_cons (sn_putI d_TC_answerSignature_46 kc_Ms (by decide) rfl lk_TC_219 rfl rfl rfl) <| mt_cons (sn_aload_n rfl d_TC_answerSignature_49 rfl) <| mt_cons (sn_aload_n rfl d_TC_answerSignature_50 rfl) <| mt_cons (sn_get d_TC_answerSignature_51 kc_Sf (by decide) rfl lk_TC_87 rfl) <| mt_nil (sn_callV (k := 0) d_TC_answerSignature_54 os_Ro_digest rfl rfl lm_TC_229 wi_Ro_digest ws_Ro_digest (by decide) (by decide) rfl)) <|
  mt_sc1 (mt_cons (sn_putI d_TC_answerSignature_57 kc_Ms (by decide) rfl lk_TC_232 rfl rfl rfl) <| mt_cons (sn_aload_n rfl d_TC_answerSignature_60 rfl) <| mt_cons (sn_aload_n rfl d_TC_answerSignature_61 rfl) <| mt_cons (sn_aload_n rfl d_TC_answerSignature_62 rfl) <| mt_cons (sn_get d_TC_answerSignature_63 kc_Sf (by decide) rfl lk_TC_87 rfl) <| mt_cons (sn_aload_n rfl d_TC_answerSignature_66 rfl) <| mt_nil (sn_callV (k := 3) d_TC_answerSignature_67 os_TC_fillDelta rfl rfl lm_TC_234 wi_TC_fillDelta ws_TC_fillDelta (by decide) (by decide) rfl)) <|
  mt_sc1 (mt_nil (sn_ret d_TC_answerSignature_70 rfl)) <|
  mt_sc0
theorem os_TC_answerSignature : mt_OkS y_TC_answerSignature c_TC_answerSignature 4 none 5 123 sm_TC_answerSignature := mt_okS (by decide) rfl rfl sd_TC_answerSignature
set_option maxRecDepth 100000 in
theorem sd_TC_deliver : mt_Sc (fun _ _ => True) c_TC_deliver 5 R_TC "deliver" (some .int) 6 146 cd_TC_deliver :=
  mt_sc1 (mt_cons (sn_aload_n rfl d_TC_deliver_0 rfl) <| mt_cons (sn_iload_n rfl d_TC_deliver_1 rfl) <| mt_nil (sn_callV (k := 1) d_TC_deliver_2 os_TC_lineOf rfl rfl lm_TC_126 wi_TC_lineOf ws_TC_lineOf (by decide) (by decide) rfl)) <|
  mt_sc1 (mt_cons (sn_astore_n rfl d_TC_deliver_5 (by decide) rfl) <| mt_cons (sn_aload_n rfl d_TC_deliver_6 rfl) <| mt_nil (sn_ifnonnull d_TC_deliver_7 (by decide) rfl)) <|
  mt_sc1 (mt_cons (sn_null d_TC_deliver_10 rfl) <| mt_nil (sn_goto d_TC_deliver_11 (by decide))) <|
  mt_sc1 (mt_cons (sn_aload_n rfl d_TC_deliver_14 rfl) <| mt_nil (sn_callV (k := 0) d_TC_deliver_15 os_Li_take rfl rfl lm_TC_130 wi_Li_take ws_Li_take (by decide) (by decide) rfl)) <|
  mt_sc1 (mt_cons (sn_astore_n rfl d_TC_deliver_18 (by decide) rfl) <| mt_cons (sn_aload_n rfl d_TC_deliver_19 rfl) <| mt_nil (sn_ifnonnull d_TC_deliver_20 (by decide) rfl)) <|
  mt_sc1 (mt_cons (sn_iconst d_TC_deliver_23 (by decide) rfl) <| mt_nil (sn_iret d_TC_deliver_24 rfl)) <|
  mt_sc1 (mt_cons (sn_aload_n rfl d_TC_deliver_25 rfl) <| mt_cons (sn_get d_TC_deliver_26 kc_Ms (by decide) rfl lk_TC_134 rfl) <| mt_cons (sn_istore d_TC_deliver_29 (by decide) rfl) <| mt_cons (sn_aload_n rfl d_TC_deliver_31 rfl) <| mt_cons (sn_aload_n rfl d_TC_deliver_32 rfl) <| mt_cons (sn_get d_TC_deliver_33 kc_TC (by decide) rfl lk_TC_29 rfl) <| mt_nil (sn_acne d_TC_deliver_36 (by decide) rfl)) <|
  mt_sc1 (mt_cons (sn_aload_n rfl d_TC_deliver_39 rfl) <| mt_nil (sn_callV (k := 0) d_TC_deliver_40 os_TC_doOldestRecord rfl rfl lm_TC_139 wi_TC_doOldestRecord ws_TC_doOldestRecord (by decide) (by decide) rfl)) <|
  mt_sc1 (mt_cons (sn_aload_n rfl d_TC_deliver_43 rfl) <| mt_cons (sn_aload_n rfl d_TC_deliver_44 rfl) <| mt_nil (sn_callV (k := 1) d_TC_deliver_45 os_TC_receive rfl rfl lm_TC_142 wi_TC_receive ws_TC_receive (by decide) (by decide) rfl)) <|
  mt_sc1 (mt_nil (sn_goto d_TC_deliver_48 (by decide))) <|
  mt_sc1 (mt_cons (sn_aload_n rfl d_TC_deliver_51 rfl) <| mt_cons (sn_aload_n rfl d_TC_deliver_52 rfl) <| mt_nil (sn_callV (k := 1) d_TC_deliver_53 os_TC_answerSignature rfl rfl lm_TC_146 wi_TC_answerSignature ws_TC_answerSignature (by decide) (by decide) rfl)) <|
  mt_sc1 (mt_cons (sn_iload d_TC_deliver_56 rfl) <| mt_nil (sn_iret d_TC_deliver_58 rfl)) <|
  mt_sc0
theorem os_TC_deliver : mt_OkS y_TC_deliver c_TC_deliver 5 (some .int) 6 146 sm_TC_deliver := mt_okS (by decide) rfl rfl sd_TC_deliver
set_option maxRecDepth 100000 in
theorem sd_TC_crash : mt_Sc (fun _ _ => True) c_TC_crash 1 R_TC "crash" (some .boolean) 2 41 cd_TC_crash :=
  mt_sc1 (mt_cons (sn_aload_n rfl d_TC_crash_0 rfl) <| mt_cons (sn_get d_TC_crash_1 kc_TC (by decide) rfl lk_TC_60 rfl) <| mt_nil (sn_ifne d_TC_crash_4 (by decide) rfl)) <|
  mt_sc1 (mt_cons (sn_iconst d_TC_crash_7 (by decide) rfl) <| mt_nil (sn_zret d_TC_crash_8 rfl)) <|
  mt_sc1 (mt_cons (sn_aload_n rfl d_TC_crash_9 rfl) <| mt_nil (sn_callV (k := 0) d_TC_crash_10 os_TC_endSession rfl rfl lm_TC_149 wi_TC_endSession ws_TC_endSession (by decide) (by decide) rfl)) <|
  mt_sc1 (mt_cons (sn_iconst d_TC_crash_13 (by decide) rfl) <| mt_nil (sn_zret d_TC_crash_14 rfl)) <|
  mt_sc0
theorem os_TC_crash : mt_OkS y_TC_crash c_TC_crash 1 (some .boolean) 2 41 sm_TC_crash := mt_okS (by decide) rfl rfl sd_TC_crash
set_option maxRecDepth 100000 in
theorem sd_TC_on : mt_Sc (fun _ _ => True) c_TC_on 1 R_TC "on" (some .boolean) 0 0 cd_TC_on :=
  mt_sc1 (mt_cons (sn_aload_n rfl d_TC_on_0 rfl) <| mt_cons (sn_get d_TC_on_1 kc_TC (by decide) rfl lk_TC_60 rfl) <| mt_nil (sn_zret d_TC_on_4 rfl)) <|
  mt_sc0
theorem os_TC_on : mt_OkS y_TC_on c_TC_on 1 (some .boolean) 0 0 sm_TC_on := mt_okS (by decide) rfl rfl sd_TC_on
set_option maxRecDepth 100000 in
theorem sd_TC_size : mt_Sc (fun _ _ => True) c_TC_size 4 R_TC "size" (some .int) 3 65 cd_TC_size :=
  mt_sc1 (mt_cons (sn_aload_n rfl d_TC_size_0 rfl) <| mt_cons (sn_iload_n rfl d_TC_size_1 rfl) <| mt_cons (sn_iload_n rfl d_TC_size_2 rfl) <| mt_nil (sn_callV (k := 2) d_TC_size_3 os_TC_fileOf rfl rfl lm_TC_107 wi_TC_fileOf ws_TC_fileOf (by decide) (by decide) rfl)) <|
  mt_sc1 (mt_cons (sn_astore_n rfl d_TC_size_6 (by decide) rfl) <| mt_cons (sn_aload_n rfl d_TC_size_7 rfl) <| mt_nil (sn_ifnonnull d_TC_size_8 (by decide) rfl)) <|
  mt_sc1 (mt_cons (sn_iconst d_TC_size_11 (by decide) rfl) <| mt_nil (sn_goto d_TC_size_12 (by decide))) <|
  mt_sc1 (mt_cons (sn_aload_n rfl d_TC_size_15 rfl) <| mt_cons (sn_get d_TC_size_16 kc_Sf (by decide) rfl lk_TC_87 rfl) <| mt_cons (sn_get d_TC_size_19 kc_Ro (by decide) rfl lk_TC_152 rfl) <| mt_nil (sn_fall)) <|
  mt_sc1 (mt_nil (sn_iret d_TC_size_22 rfl)) <|
  mt_sc0
theorem os_TC_size : mt_OkS y_TC_size c_TC_size 4 (some .int) 3 65 sm_TC_size := mt_okS (by decide) rfl rfl sd_TC_size
set_option maxRecDepth 100000 in
theorem sd_TC_at : mt_Sc (fun _ _ => True) c_TC_at 5 R_TC "at" (some .int) 3 65 cd_TC_at :=
  mt_sc1 (mt_cons (sn_aload_n rfl d_TC_at_0 rfl) <| mt_cons (sn_iload_n rfl d_TC_at_1 rfl) <| mt_cons (sn_iload_n rfl d_TC_at_2 rfl) <| mt_nil (sn_callV (k := 2) d_TC_at_3 os_TC_fileOf rfl rfl lm_TC_107 wi_TC_fileOf ws_TC_fileOf (by decide) (by decide) rfl)) <|
  mt_sc1 (mt_cons (sn_astore d_TC_at_6 (by decide) rfl) <| mt_cons (sn_aload d_TC_at_8 rfl) <| mt_nil (sn_ifnonnull d_TC_at_10 (by decide) rfl)) <|
  mt_sc1 (mt_cons (sn_iconst d_TC_at_13 (by decide) rfl) <| mt_nil (sn_goto d_TC_at_14 (by decide))) <|
  mt_sc1 (mt_cons (sn_aload d_TC_at_17 rfl) <| mt_cons (sn_get d_TC_at_19 kc_Sf (by decide) rfl lk_TC_87 rfl) <| mt_cons (sn_iload_n rfl d_TC_at_22 rfl) <| mt_nil (sn_callV (k := 1) d_TC_at_23 os_Ro_byteAt rfl rfl lm_TC_155 wi_Ro_byteAt ws_Ro_byteAt (by decide) (by decide) rfl)) <|
  mt_sc1 (mt_nil (sn_iret d_TC_at_26 rfl)) <|
  mt_sc0
theorem os_TC_at : mt_OkS y_TC_at c_TC_at 5 (some .int) 3 65 sm_TC_at := mt_okS (by decide) rfl rfl sd_TC_at
set_option maxRecDepth 100000 in
theorem sd_TC_time : mt_Sc (fun _ _ => True) c_TC_time 4 R_TC "time" (some .int) 3 65 cd_TC_time :=
  mt_sc1 (mt_cons (sn_aload_n rfl d_TC_time_0 rfl) <| mt_cons (sn_iload_n rfl d_TC_time_1 rfl) <| mt_cons (sn_iload_n rfl d_TC_time_2 rfl) <| mt_nil (sn_callV (k := 2) d_TC_time_3 os_TC_fileOf rfl rfl lm_TC_107 wi_TC_fileOf ws_TC_fileOf (by decide) (by decide) rfl)) <|
  mt_sc1 (mt_cons (sn_astore_n rfl d_TC_time_6 (by decide) rfl) <| mt_cons (sn_aload_n rfl d_TC_time_7 rfl) <| mt_nil (sn_ifnonnull d_TC_time_8 (by decide) rfl)) <|
  mt_sc1 (mt_cons (sn_iconst d_TC_time_11 (by decide) rfl) <| mt_nil (sn_goto d_TC_time_12 (by decide))) <|
  mt_sc1 (mt_cons (sn_aload_n rfl d_TC_time_15 rfl) <| mt_cons (sn_get d_TC_time_16 kc_Sf (by decide) rfl lk_TC_104 rfl) <| mt_nil (sn_fall)) <|
  mt_sc1 (mt_nil (sn_iret d_TC_time_19 rfl)) <|
  mt_sc0
theorem os_TC_time : mt_OkS y_TC_time c_TC_time 4 (some .int) 3 65 sm_TC_time := mt_okS (by decide) rfl rfl sd_TC_time
set_option maxRecDepth 100000 in
theorem sd_TC_selected : mt_Sc (fun _ _ => True) c_TC_selected 2 R_TC "selected" (some .boolean) 1 22 cd_TC_selected :=
  mt_sc1 (mt_cons (sn_iload_n rfl d_TC_selected_0 rfl) <| mt_nil (sn_callS (k := 1) d_TC_selected_1 os_TC_isName rfl lm_TC_159 wst_TC_isName (by decide) (by decide) rfl)) <|
  mt_sc1 (mt_nil (sn_ifeq d_TC_selected_4 (by decide) rfl)) <|
  mt_sc1 (mt_cons (sn_aload_n rfl d_TC_selected_7 rfl) <| mt_cons (sn_get d_TC_selected_8 kc_TC (by decide) rfl lk_TC_18 rfl) <| mt_cons (sn_iload_n rfl d_TC_selected_11 rfl) <| mt_nil (sn_callV (k := 1) d_TC_selected_12 os_Ru_select rfl rfl lm_TC_162 wi_Ru_select ws_Ru_select (by decide) (by decide) rfl)) <|
  mt_sc1 (mt_nil (sn_ifeq d_TC_selected_15 (by decide) rfl)) <|
  mt_sc1 (mt_cons (sn_iconst d_TC_selected_18 (by decide) rfl) <| mt_nil (sn_goto d_TC_selected_19 (by decide))) <|
  mt_sc1 (mt_cons (sn_iconst d_TC_selected_22 (by decide) rfl) <| mt_nil (sn_fall)) <|
  mt_sc1 (mt_nil (sn_zret d_TC_selected_23 rfl)) <|
  mt_sc0
theorem os_TC_selected : mt_OkS y_TC_selected c_TC_selected 2 (some .boolean) 1 22 sm_TC_selected := mt_okS (by decide) rfl rfl sd_TC_selected
set_option maxRecDepth 100000 in
theorem sd_TC_waiting : mt_Sc (fun _ _ => True) c_TC_waiting 3 R_TC "waiting" (some .int) 1 21 cd_TC_waiting :=
  mt_sc1 (mt_cons (sn_aload_n rfl d_TC_waiting_0 rfl) <| mt_cons (sn_iload_n rfl d_TC_waiting_1 rfl) <| mt_nil (sn_callV (k := 1) d_TC_waiting_2 os_TC_lineOf rfl rfl lm_TC_126 wi_TC_lineOf ws_TC_lineOf (by decide) (by decide) rfl)) <|
  mt_sc1 (mt_cons (sn_astore_n rfl d_TC_waiting_5 (by decide) rfl) <| mt_cons (sn_aload_n rfl d_TC_waiting_6 rfl) <| mt_nil (sn_ifnonnull d_TC_waiting_7 (by decide) rfl)) <|
  mt_sc1 (mt_cons (sn_iconst d_TC_waiting_10 (by decide) rfl) <| mt_nil (sn_goto d_TC_waiting_11 (by decide))) <|
  mt_sc1 (mt_cons (sn_aload_n rfl d_TC_waiting_14 rfl) <| mt_cons (sn_get d_TC_waiting_15 kc_Li (by decide) rfl lk_TC_165 rfl) <| mt_nil (sn_fall)) <|
  mt_sc1 (mt_nil (sn_iret d_TC_waiting_18 rfl)) <|
  mt_sc0
theorem os_TC_waiting : mt_OkS y_TC_waiting c_TC_waiting 3 (some .int) 1 21 sm_TC_waiting := mt_okS (by decide) rfl rfl sd_TC_waiting
set_option maxRecDepth 100000 in
theorem sd_TC_next : mt_Sc (fun _ _ => True) c_TC_next 3 R_TC "next" (some .int) 1 21 cd_TC_next :=
  mt_sc1 (mt_cons (sn_aload_n rfl d_TC_next_0 rfl) <| mt_cons (sn_iload_n rfl d_TC_next_1 rfl) <| mt_nil (sn_callV (k := 1) d_TC_next_2 os_TC_lineOf rfl rfl lm_TC_126 wi_TC_lineOf ws_TC_lineOf (by decide) (by decide) rfl)) <|
  mt_sc1 (mt_cons (sn_astore_n rfl d_TC_next_5 (by decide) rfl) <| mt_cons (sn_aload_n rfl d_TC_next_6 rfl) <| mt_nil (sn_ifnonnull d_TC_next_7 (by decide) rfl)) <|
  mt_sc1 (mt_cons (sn_iconst d_TC_next_10 (by decide) rfl) <| mt_nil (sn_goto d_TC_next_11 (by decide))) <|
  mt_sc1 (mt_cons (sn_aload_n rfl d_TC_next_14 rfl) <| mt_nil (sn_callV (k := 0) d_TC_next_15 os_Li_oldestKind rfl rfl lm_TC_166 wi_Li_oldestKind ws_Li_oldestKind (by decide) (by decide) rfl)) <|
  mt_sc1 (mt_nil (sn_iret d_TC_next_18 rfl)) <|
  mt_sc0
theorem os_TC_next : mt_OkS y_TC_next c_TC_next 3 (some .int) 1 21 sm_TC_next := mt_okS (by decide) rfl rfl sd_TC_next
set_option maxRecDepth 100000 in
theorem sd_TC_journal : mt_Sc (fun _ _ => True) c_TC_journal 1 R_TC "journal" (some .int) 0 0 cd_TC_journal :=
  mt_sc1 (mt_cons (sn_aload_n rfl d_TC_journal_0 rfl) <| mt_cons (sn_get d_TC_journal_1 kc_TC (by decide) rfl lk_TC_41 rfl) <| mt_cons (sn_get d_TC_journal_4 kc_Jo (by decide) rfl lk_TC_169 rfl) <| mt_nil (sn_iret d_TC_journal_7 rfl)) <|
  mt_sc0
theorem os_TC_journal : mt_OkS y_TC_journal c_TC_journal 1 (some .int) 0 0 sm_TC_journal := mt_okS (by decide) rfl rfl sd_TC_journal
set_option maxRecDepth 100000 in
theorem sd_TC_count : mt_Sc (fun _ _ => True) c_TC_count 2 R_TC "count" (some .int) 0 0 cd_TC_count :=
  mt_sc1 (mt_cons (sn_iload_n rfl d_TC_count_0 rfl) <| mt_nil (sn_iflt d_TC_count_1 (by decide) rfl)) <|
  mt_sc1 (mt_cons (sn_iload_n rfl d_TC_count_4 rfl) <| mt_cons (sn_bipush d_TC_count_5 (by decide) rfl) <| mt_nil (sn_iclt d_TC_count_7 (by decide) rfl)) <|
  mt_sc1 (mt_cons (sn_iconst d_TC_count_10 (by decide) rfl) <| mt_nil (sn_goto d_TC_count_11 (by decide))) <|
  mt_sc1 (mt_cons (sn_aload_n rfl d_TC_count_14 rfl) <| mt_cons (sn_get d_TC_count_15 kc_TC (by decide) rfl lk_TC_52 rfl) <| mt_cons (sn_iload_n rfl d_TC_count_18 rfl) <| mt_cons (sn_iald d_TC_count_19 rfl) <| mt_nil (sn_fall)) <|
  mt_sc1 (mt_nil (sn_iret d_TC_count_20 rfl)) <|
  mt_sc0
theorem os_TC_count : mt_OkS y_TC_count c_TC_count 2 (some .int) 0 0 sm_TC_count := mt_okS (by decide) rfl rfl sd_TC_count
