abbrev n_fs_En : List m_V := [.inl 0, .inl 0, .inl 0, .inl 0]
abbrev n_fs_Jo : List m_V := [.inr none, .inl 0, .inl 0]
abbrev n_fs_Jr : List m_V := [.inr none, .inl 0, .inl 0]
abbrev n_fs_Li : List m_V := [.inr none, .inl 0, .inl 0]
abbrev n_fs_Ms : List m_V := [.inl 0, .inl 0, .inl 0, .inl 0, .inl 0, .inl 0, .inl 0, .inr none]
abbrev n_fs_Ro : List m_V := [.inr none, .inl 0]
abbrev n_fs_Ru : List m_V := [.inr none, .inr none, .inr none, .inl 0]
abbrev n_fs_Sf : List m_V := [.inr none, .inl 0, .inl 0]
abbrev n_fs_TC : List m_V := [.inr none, .inr none, .inr none, .inr none, .inr none, .inr none, .inr none, .inr none, .inl 0, .inl 0, .inl 0, .inl 0]
abbrev n_fs_MD : List m_V := [.inr none, .inr none, .inr none, .inr none, .inl 0, .inl 0, .inr none, .inr none, .inr none, .inl 0, .inl 0, .inl 0, .inl 0, .inr none, .inr none, .inr none, .inr none, .inr none, .inr none, .inl 0, .inl 0, .inr none, .inr none, .inr none, .inr none, .inr none, .inl 0, .inr none]
-- TreeCarrier$Entry.<init> ()V
noncomputable def cd_En_init : List m_B := [(0, [o_aload 0, o_objinit, o_aload 0, o_const (nI 0), o_putZ 0 0, o_aload 0, o_const (nI 0), o_putZ 0 1, o_aload 0, o_const (nI 0), o_putI 0 2, o_aload 0, o_const (nI 0), o_putI 0 3], o_ret)]
noncomputable def sm_En_init : List m_V → m_M → Option m_R := mt_sem cd_En_init 1
theorem k_En_init_0 (q : m_C) (Q : m_R → Prop) : mt_T cd_En_init 0 q Q = mt_go [o_aload 0, o_objinit, o_aload 0, o_const (nI 0), o_putZ 0 0, o_aload 0, o_const (nI 0), o_putZ 0 1, o_aload 0, o_const (nI 0), o_putI 0 2, o_aload 0, o_const (nI 0), o_putI 0 3] q (mt_kk cd_En_init Q (o_ret)) := mt_blk rfl q Q
-- TreeCarrier$Entry.agreesWith (LTreeCarrier$StoredFile;)Z
noncomputable def cd_En_agreesWith : List m_B := [(0, [o_aload 1], o_ifnull 33 4), (4, [o_aload 1, o_get 7 0, o_get 5 1, o_aload 0, o_get 0 2], o_icne 33 18), (18, [o_aload 1, o_get 7 2, o_aload 0, o_get 0 3], o_icne 33 29), (29, [o_const (nI 1)], o_fall 34), (33, [o_const (nI 0)], o_fall 34), (34, [], o_zret)]
noncomputable def sm_En_agreesWith : List m_V → m_M → Option m_R := mt_sem cd_En_agreesWith 2
theorem k_En_agreesWith_0 (q : m_C) (Q : m_R → Prop) : mt_T cd_En_agreesWith 0 q Q = mt_go [o_aload 1] q (mt_kk cd_En_agreesWith Q (o_ifnull 33 4)) := mt_blk rfl q Q
theorem k_En_agreesWith_4 (q : m_C) (Q : m_R → Prop) : mt_T cd_En_agreesWith 4 q Q = mt_go [o_aload 1, o_get 7 0, o_get 5 1, o_aload 0, o_get 0 2] q (mt_kk cd_En_agreesWith Q (o_icne 33 18)) := mt_blk rfl q Q
theorem k_En_agreesWith_18 (q : m_C) (Q : m_R → Prop) : mt_T cd_En_agreesWith 18 q Q = mt_go [o_aload 1, o_get 7 2, o_aload 0, o_get 0 3] q (mt_kk cd_En_agreesWith Q (o_icne 33 29)) := mt_blk rfl q Q
theorem k_En_agreesWith_29 (q : m_C) (Q : m_R → Prop) : mt_T cd_En_agreesWith 29 q Q = mt_go [o_const (nI 1)] q (mt_kk cd_En_agreesWith Q (o_fall 34)) := mt_blk rfl q Q
theorem k_En_agreesWith_33 (q : m_C) (Q : m_R → Prop) : mt_T cd_En_agreesWith 33 q Q = mt_go [o_const (nI 0)] q (mt_kk cd_En_agreesWith Q (o_fall 34)) := mt_blk rfl q Q
theorem k_En_agreesWith_34 (q : m_C) (Q : m_R → Prop) : mt_T cd_En_agreesWith 34 q Q = mt_go [] q (mt_kk cd_En_agreesWith Q (o_zret)) := mt_blk rfl q Q
-- TreeCarrier$Entry.forget ()V
noncomputable def cd_En_forget : List m_B := [(0, [o_aload 0, o_const (nI 0), o_putZ 0 0, o_aload 0, o_const (nI 0), o_putZ 0 1], o_ret)]
noncomputable def sm_En_forget : List m_V → m_M → Option m_R := mt_sem cd_En_forget 1
theorem k_En_forget_0 (q : m_C) (Q : m_R → Prop) : mt_T cd_En_forget 0 q Q = mt_go [o_aload 0, o_const (nI 0), o_putZ 0 0, o_aload 0, o_const (nI 0), o_putZ 0 1] q (mt_kk cd_En_forget Q (o_ret)) := mt_blk rfl q Q
-- TreeCarrier$Row.<init> ()V
noncomputable def cd_Ro_init : List m_B := [(0, [o_aload 0, o_objinit, o_aload 0, o_const (nI 40), o_newI 0, o_putA 5 0, o_aload 0, o_const (nI 0), o_putI 5 1], o_ret)]
noncomputable def sm_Ro_init : List m_V → m_M → Option m_R := mt_sem cd_Ro_init 1
theorem k_Ro_init_0 (q : m_C) (Q : m_R → Prop) : mt_T cd_Ro_init 0 q Q = mt_go [o_aload 0, o_objinit, o_aload 0, o_const (nI 40), o_newI 0, o_putA 5 0, o_aload 0, o_const (nI 0), o_putI 5 1] q (mt_kk cd_Ro_init Q (o_ret)) := mt_blk rfl q Q
-- TreeCarrier$JournalRecord.<init> ()V
noncomputable def cd_Jr_init : List m_B := [(0, [o_aload 0, o_objinit, o_aload 0, o_new 5 n_fs_Ro, o_dup], o_callI sm_Ro_init 1 12), (12, [o_putA 2 0, o_aload 0, o_const (nI 0), o_putI 2 1, o_aload 0, o_const (nI 0), o_putI 2 2], o_ret)]
noncomputable def sm_Jr_init : List m_V → m_M → Option m_R := mt_sem cd_Jr_init 1
theorem k_Jr_init_0 (q : m_C) (Q : m_R → Prop) : mt_T cd_Jr_init 0 q Q = mt_go [o_aload 0, o_objinit, o_aload 0, o_new 5 n_fs_Ro, o_dup] q (mt_kk cd_Jr_init Q (o_callI sm_Ro_init 1 12)) := mt_blk rfl q Q
theorem k_Jr_init_12 (q : m_C) (Q : m_R → Prop) : mt_T cd_Jr_init 12 q Q = mt_go [o_putA 2 0, o_aload 0, o_const (nI 0), o_putI 2 1, o_aload 0, o_const (nI 0), o_putI 2 2] q (mt_kk cd_Jr_init Q (o_ret)) := mt_blk rfl q Q
-- TreeCarrier$Journal.<init> ()V
noncomputable def cd_Jo_init : List m_B := [(0, [o_aload 0, o_objinit, o_aload 0, o_const (nI 12), o_newA 5, o_putA 1 0, o_aload 0, o_const (nI 0), o_putI 1 1, o_aload 0, o_const (nI 0), o_putI 1 2, o_const (nI 0), o_istore 1], o_fall 25), (25, [o_iload 1, o_const (nI 12)], o_icge 50 31), (31, [o_aload 0, o_get 1 0, o_iload 1, o_new 2 n_fs_Jr, o_dup], o_callI sm_Jr_init 1 43), (43, [o_aast 5 2, o_iinc 1 (nI 1)], o_fall 25), (50, [], o_ret)]
noncomputable def sm_Jo_init : List m_V → m_M → Option m_R := mt_sem cd_Jo_init 2
theorem k_Jo_init_0 (q : m_C) (Q : m_R → Prop) : mt_T cd_Jo_init 0 q Q = mt_go [o_aload 0, o_objinit, o_aload 0, o_const (nI 12), o_newA 5, o_putA 1 0, o_aload 0, o_const (nI 0), o_putI 1 1, o_aload 0, o_const (nI 0), o_putI 1 2, o_const (nI 0), o_istore 1] q (mt_kk cd_Jo_init Q (o_fall 25)) := mt_blk rfl q Q
theorem k_Jo_init_25 (q : m_C) (Q : m_R → Prop) : mt_T cd_Jo_init 25 q Q = mt_go [o_iload 1, o_const (nI 12)] q (mt_kk cd_Jo_init Q (o_icge 50 31)) := mt_blk rfl q Q
theorem k_Jo_init_31 (q : m_C) (Q : m_R → Prop) : mt_T cd_Jo_init 31 q Q = mt_go [o_aload 0, o_get 1 0, o_iload 1, o_new 2 n_fs_Jr, o_dup] q (mt_kk cd_Jo_init Q (o_callI sm_Jr_init 1 43)) := mt_blk rfl q Q
theorem k_Jo_init_43 (q : m_C) (Q : m_R → Prop) : mt_T cd_Jo_init 43 q Q = mt_go [o_aast 5 2, o_iinc 1 (nI 1)] q (mt_kk cd_Jo_init Q (o_fall 25)) := mt_blk rfl q Q
theorem k_Jo_init_50 (q : m_C) (Q : m_R → Prop) : mt_T cd_Jo_init 50 q Q = mt_go [] q (mt_kk cd_Jo_init Q (o_ret)) := mt_blk rfl q Q
-- TreeCarrier$Row.become (LTreeCarrier$Row;)V
noncomputable def cd_Ro_become : List m_B := [(0, [o_aload 0, o_aload 1, o_get 5 1, o_putI 5 1, o_const (nI 0), o_istore 2], o_fall 10), (10, [o_iload 2, o_aload 0, o_get 5 1], o_icge 36 18), (18, [o_aload 0, o_get 5 0, o_iload 2, o_aload 1, o_get 5 0, o_iload 2, o_iald, o_iast, o_iinc 2 (nI 1)], o_fall 10), (36, [], o_ret)]
noncomputable def sm_Ro_become : List m_V → m_M → Option m_R := mt_sem cd_Ro_become 3
theorem k_Ro_become_0 (q : m_C) (Q : m_R → Prop) : mt_T cd_Ro_become 0 q Q = mt_go [o_aload 0, o_aload 1, o_get 5 1, o_putI 5 1, o_const (nI 0), o_istore 2] q (mt_kk cd_Ro_become Q (o_fall 10)) := mt_blk rfl q Q
theorem k_Ro_become_10 (q : m_C) (Q : m_R → Prop) : mt_T cd_Ro_become 10 q Q = mt_go [o_iload 2, o_aload 0, o_get 5 1] q (mt_kk cd_Ro_become Q (o_icge 36 18)) := mt_blk rfl q Q
theorem k_Ro_become_18 (q : m_C) (Q : m_R → Prop) : mt_T cd_Ro_become 18 q Q = mt_go [o_aload 0, o_get 5 0, o_iload 2, o_aload 1, o_get 5 0, o_iload 2, o_iald, o_iast, o_iinc 2 (nI 1)] q (mt_kk cd_Ro_become Q (o_fall 10)) := mt_blk rfl q Q
theorem k_Ro_become_36 (q : m_C) (Q : m_R → Prop) : mt_T cd_Ro_become 36 q Q = mt_go [] q (mt_kk cd_Ro_become Q (o_ret)) := mt_blk rfl q Q
-- TreeCarrier$Journal.append (ILTreeCarrier$Row;I)V
noncomputable def cd_Jo_append : List m_B := [(0, [o_aload 0, o_get 1 0, o_aload 0, o_get 1 1, o_aload 0, o_get 1 2, o_add, o_const (nI 12), o_rem, o_aald 5, o_astore 4, o_aload 4, o_iload 1, o_putI 2 1, o_aload 4, o_get 2 0, o_aload 2], o_callV sm_Ro_become 5 2 34), (34, [o_aload 4, o_iload 3, o_putI 2 2, o_aload 0, o_get 1 2, o_const (nI 12)], o_icge 59 49), (49, [o_aload 0, o_dup, o_get 1 2, o_const (nI 1), o_add, o_putI 1 2], o_fall 59), (59, [], o_ret)]
noncomputable def sm_Jo_append : List m_V → m_M → Option m_R := mt_sem cd_Jo_append 5
theorem k_Jo_append_0 (q : m_C) (Q : m_R → Prop) : mt_T cd_Jo_append 0 q Q = mt_go [o_aload 0, o_get 1 0, o_aload 0, o_get 1 1, o_aload 0, o_get 1 2, o_add, o_const (nI 12), o_rem, o_aald 5, o_astore 4, o_aload 4, o_iload 1, o_putI 2 1, o_aload 4, o_get 2 0, o_aload 2] q (mt_kk cd_Jo_append Q (o_callV sm_Ro_become 5 2 34)) := mt_blk rfl q Q
theorem k_Jo_append_34 (q : m_C) (Q : m_R → Prop) : mt_T cd_Jo_append 34 q Q = mt_go [o_aload 4, o_iload 3, o_putI 2 2, o_aload 0, o_get 1 2, o_const (nI 12)] q (mt_kk cd_Jo_append Q (o_icge 59 49)) := mt_blk rfl q Q
theorem k_Jo_append_49 (q : m_C) (Q : m_R → Prop) : mt_T cd_Jo_append 49 q Q = mt_go [o_aload 0, o_dup, o_get 1 2, o_const (nI 1), o_add, o_putI 1 2] q (mt_kk cd_Jo_append Q (o_fall 59)) := mt_blk rfl q Q
theorem k_Jo_append_59 (q : m_C) (Q : m_R → Prop) : mt_T cd_Jo_append 59 q Q = mt_go [] q (mt_kk cd_Jo_append Q (o_ret)) := mt_blk rfl q Q
-- TreeCarrier$Journal.take ()LTreeCarrier$JournalRecord;
noncomputable def cd_Jo_take : List m_B := [(0, [o_aload 0, o_get 1 2], o_ifne 9 7), (7, [o_null], o_aret), (9, [o_aload 0, o_get 1 0, o_aload 0, o_get 1 1, o_aald 5, o_astore 1, o_aload 0, o_aload 0, o_get 1 1, o_const (nI 1), o_add, o_const (nI 12), o_rem, o_putI 1 1, o_aload 0, o_dup, o_get 1 2, o_const (nI 1), o_sub, o_putI 1 2, o_aload 1], o_aret)]
noncomputable def sm_Jo_take : List m_V → m_M → Option m_R := mt_sem cd_Jo_take 2
theorem k_Jo_take_0 (q : m_C) (Q : m_R → Prop) : mt_T cd_Jo_take 0 q Q = mt_go [o_aload 0, o_get 1 2] q (mt_kk cd_Jo_take Q (o_ifne 9 7)) := mt_blk rfl q Q
theorem k_Jo_take_7 (q : m_C) (Q : m_R → Prop) : mt_T cd_Jo_take 7 q Q = mt_go [o_null] q (mt_kk cd_Jo_take Q (o_aret)) := mt_blk rfl q Q
theorem k_Jo_take_9 (q : m_C) (Q : m_R → Prop) : mt_T cd_Jo_take 9 q Q = mt_go [o_aload 0, o_get 1 0, o_aload 0, o_get 1 1, o_aald 5, o_astore 1, o_aload 0, o_aload 0, o_get 1 1, o_const (nI 1), o_add, o_const (nI 12), o_rem, o_putI 1 1, o_aload 0, o_dup, o_get 1 2, o_const (nI 1), o_sub, o_putI 1 2, o_aload 1] q (mt_kk cd_Jo_take Q (o_aret)) := mt_blk rfl q Q
-- TreeCarrier$Message.<init> ()V
noncomputable def cd_Ms_init : List m_B := [(0, [o_aload 0, o_objinit, o_aload 0, o_const (nI 0), o_putI 4 0, o_aload 0, o_const (nI 0), o_putI 4 1, o_aload 0, o_const (nI 0), o_putI 4 2, o_aload 0, o_const (nI 0), o_putI 4 3, o_aload 0, o_const (nI 0), o_putI 4 4, o_aload 0, o_const (nI 0), o_putI 4 5, o_aload 0, o_const (nI 0), o_putI 4 6, o_aload 0, o_const (nI 40), o_newI 0, o_putA 4 7], o_ret)]
noncomputable def sm_Ms_init : List m_V → m_M → Option m_R := mt_sem cd_Ms_init 1
theorem k_Ms_init_0 (q : m_C) (Q : m_R → Prop) : mt_T cd_Ms_init 0 q Q = mt_go [o_aload 0, o_objinit, o_aload 0, o_const (nI 0), o_putI 4 0, o_aload 0, o_const (nI 0), o_putI 4 1, o_aload 0, o_const (nI 0), o_putI 4 2, o_aload 0, o_const (nI 0), o_putI 4 3, o_aload 0, o_const (nI 0), o_putI 4 4, o_aload 0, o_const (nI 0), o_putI 4 5, o_aload 0, o_const (nI 0), o_putI 4 6, o_aload 0, o_const (nI 40), o_newI 0, o_putA 4 7] q (mt_kk cd_Ms_init Q (o_ret)) := mt_blk rfl q Q
-- TreeCarrier$Line.<init> ()V
noncomputable def cd_Li_init : List m_B := [(0, [o_aload 0, o_objinit, o_aload 0, o_const (nI 13), o_newA 2, o_putA 3 0, o_aload 0, o_const (nI 0), o_putI 3 1, o_aload 0, o_const (nI 0), o_putI 3 2, o_const (nI 0), o_istore 1], o_fall 25), (25, [o_iload 1, o_const (nI 13)], o_icge 50 31), (31, [o_aload 0, o_get 3 0, o_iload 1, o_new 4 n_fs_Ms, o_dup], o_callI sm_Ms_init 1 43), (43, [o_aast 2 4, o_iinc 1 (nI 1)], o_fall 25), (50, [], o_ret)]
noncomputable def sm_Li_init : List m_V → m_M → Option m_R := mt_sem cd_Li_init 2
theorem k_Li_init_0 (q : m_C) (Q : m_R → Prop) : mt_T cd_Li_init 0 q Q = mt_go [o_aload 0, o_objinit, o_aload 0, o_const (nI 13), o_newA 2, o_putA 3 0, o_aload 0, o_const (nI 0), o_putI 3 1, o_aload 0, o_const (nI 0), o_putI 3 2, o_const (nI 0), o_istore 1] q (mt_kk cd_Li_init Q (o_fall 25)) := mt_blk rfl q Q
theorem k_Li_init_25 (q : m_C) (Q : m_R → Prop) : mt_T cd_Li_init 25 q Q = mt_go [o_iload 1, o_const (nI 13)] q (mt_kk cd_Li_init Q (o_icge 50 31)) := mt_blk rfl q Q
theorem k_Li_init_31 (q : m_C) (Q : m_R → Prop) : mt_T cd_Li_init 31 q Q = mt_go [o_aload 0, o_get 3 0, o_iload 1, o_new 4 n_fs_Ms, o_dup] q (mt_kk cd_Li_init Q (o_callI sm_Ms_init 1 43)) := mt_blk rfl q Q
theorem k_Li_init_43 (q : m_C) (Q : m_R → Prop) : mt_T cd_Li_init 43 q Q = mt_go [o_aast 2 4, o_iinc 1 (nI 1)] q (mt_kk cd_Li_init Q (o_fall 25)) := mt_blk rfl q Q
theorem k_Li_init_50 (q : m_C) (Q : m_R → Prop) : mt_T cd_Li_init 50 q Q = mt_go [] q (mt_kk cd_Li_init Q (o_ret)) := mt_blk rfl q Q
-- TreeCarrier$Message.startAs (II)V
noncomputable def cd_Ms_startAs : List m_B := [(0, [o_aload 0, o_iload 1, o_putI 4 0, o_aload 0, o_iload 2, o_putI 4 1, o_aload 0, o_const (nI 0), o_putI 4 6], o_ret)]
noncomputable def sm_Ms_startAs : List m_V → m_M → Option m_R := mt_sem cd_Ms_startAs 3
theorem k_Ms_startAs_0 (q : m_C) (Q : m_R → Prop) : mt_T cd_Ms_startAs 0 q Q = mt_go [o_aload 0, o_iload 1, o_putI 4 0, o_aload 0, o_iload 2, o_putI 4 1, o_aload 0, o_const (nI 0), o_putI 4 6] q (mt_kk cd_Ms_startAs Q (o_ret)) := mt_blk rfl q Q
-- TreeCarrier$Line.append (II)LTreeCarrier$Message;
noncomputable def cd_Li_append : List m_B := [(0, [o_aload 0, o_get 3 0, o_aload 0, o_get 3 1, o_aload 0, o_get 3 2, o_add, o_const (nI 13), o_rem, o_aald 2, o_astore 3, o_aload 3, o_iload 1, o_iload 2], o_callV sm_Ms_startAs 4 3 24), (24, [o_aload 0, o_get 3 2, o_const (nI 13)], o_icge 43 33), (33, [o_aload 0, o_dup, o_get 3 2, o_const (nI 1), o_add, o_putI 3 2], o_fall 43), (43, [o_aload 3], o_aret)]
noncomputable def sm_Li_append : List m_V → m_M → Option m_R := mt_sem cd_Li_append 4
theorem k_Li_append_0 (q : m_C) (Q : m_R → Prop) : mt_T cd_Li_append 0 q Q = mt_go [o_aload 0, o_get 3 0, o_aload 0, o_get 3 1, o_aload 0, o_get 3 2, o_add, o_const (nI 13), o_rem, o_aald 2, o_astore 3, o_aload 3, o_iload 1, o_iload 2] q (mt_kk cd_Li_append Q (o_callV sm_Ms_startAs 4 3 24)) := mt_blk rfl q Q
theorem k_Li_append_24 (q : m_C) (Q : m_R → Prop) : mt_T cd_Li_append 24 q Q = mt_go [o_aload 0, o_get 3 2, o_const (nI 13)] q (mt_kk cd_Li_append Q (o_icge 43 33)) := mt_blk rfl q Q
theorem k_Li_append_33 (q : m_C) (Q : m_R → Prop) : mt_T cd_Li_append 33 q Q = mt_go [o_aload 0, o_dup, o_get 3 2, o_const (nI 1), o_add, o_putI 3 2] q (mt_kk cd_Li_append Q (o_fall 43)) := mt_blk rfl q Q
theorem k_Li_append_43 (q : m_C) (Q : m_R → Prop) : mt_T cd_Li_append 43 q Q = mt_go [o_aload 3] q (mt_kk cd_Li_append Q (o_aret)) := mt_blk rfl q Q
-- TreeCarrier$Line.take ()LTreeCarrier$Message;
noncomputable def cd_Li_take : List m_B := [(0, [o_aload 0, o_get 3 2], o_ifne 9 7), (7, [o_null], o_aret), (9, [o_aload 0, o_get 3 0, o_aload 0, o_get 3 1, o_aald 2, o_astore 1, o_aload 0, o_aload 0, o_get 3 1, o_const (nI 1), o_add, o_const (nI 13), o_rem, o_putI 3 1, o_aload 0, o_dup, o_get 3 2, o_const (nI 1), o_sub, o_putI 3 2, o_aload 1], o_aret)]
noncomputable def sm_Li_take : List m_V → m_M → Option m_R := mt_sem cd_Li_take 2
theorem k_Li_take_0 (q : m_C) (Q : m_R → Prop) : mt_T cd_Li_take 0 q Q = mt_go [o_aload 0, o_get 3 2] q (mt_kk cd_Li_take Q (o_ifne 9 7)) := mt_blk rfl q Q
theorem k_Li_take_7 (q : m_C) (Q : m_R → Prop) : mt_T cd_Li_take 7 q Q = mt_go [o_null] q (mt_kk cd_Li_take Q (o_aret)) := mt_blk rfl q Q
theorem k_Li_take_9 (q : m_C) (Q : m_R → Prop) : mt_T cd_Li_take 9 q Q = mt_go [o_aload 0, o_get 3 0, o_aload 0, o_get 3 1, o_aald 2, o_astore 1, o_aload 0, o_aload 0, o_get 3 1, o_const (nI 1), o_add, o_const (nI 13), o_rem, o_putI 3 1, o_aload 0, o_dup, o_get 3 2, o_const (nI 1), o_sub, o_putI 3 2, o_aload 1] q (mt_kk cd_Li_take Q (o_aret)) := mt_blk rfl q Q
-- TreeCarrier$Line.oldestKind ()I
noncomputable def cd_Li_oldestKind : List m_B := [(0, [o_aload 0, o_get 3 2], o_ifne 11 7), (7, [o_const (nI 0)], o_fall 23), (11, [o_aload 0, o_get 3 0, o_aload 0, o_get 3 1, o_aald 2, o_get 4 0], o_fall 23), (23, [], o_iret)]
noncomputable def sm_Li_oldestKind : List m_V → m_M → Option m_R := mt_sem cd_Li_oldestKind 1
theorem k_Li_oldestKind_0 (q : m_C) (Q : m_R → Prop) : mt_T cd_Li_oldestKind 0 q Q = mt_go [o_aload 0, o_get 3 2] q (mt_kk cd_Li_oldestKind Q (o_ifne 11 7)) := mt_blk rfl q Q
theorem k_Li_oldestKind_7 (q : m_C) (Q : m_R → Prop) : mt_T cd_Li_oldestKind 7 q Q = mt_go [o_const (nI 0)] q (mt_kk cd_Li_oldestKind Q (o_fall 23)) := mt_blk rfl q Q
theorem k_Li_oldestKind_11 (q : m_C) (Q : m_R → Prop) : mt_T cd_Li_oldestKind 11 q Q = mt_go [o_aload 0, o_get 3 0, o_aload 0, o_get 3 1, o_aald 2, o_get 4 0] q (mt_kk cd_Li_oldestKind Q (o_fall 23)) := mt_blk rfl q Q
theorem k_Li_oldestKind_23 (q : m_C) (Q : m_R → Prop) : mt_T cd_Li_oldestKind 23 q Q = mt_go [] q (mt_kk cd_Li_oldestKind Q (o_iret)) := mt_blk rfl q Q
-- TreeCarrier$Line.clear ()V
noncomputable def cd_Li_clear : List m_B := [(0, [o_aload 0, o_const (nI 0), o_putI 3 2], o_ret)]
noncomputable def sm_Li_clear : List m_V → m_M → Option m_R := mt_sem cd_Li_clear 1
theorem k_Li_clear_0 (q : m_C) (Q : m_R → Prop) : mt_T cd_Li_clear 0 q Q = mt_go [o_aload 0, o_const (nI 0), o_putI 3 2] q (mt_kk cd_Li_clear Q (o_ret)) := mt_blk rfl q Q
-- TreeCarrier$Message.addItem (I)V
noncomputable def cd_Ms_addItem : List m_B := [(0, [o_aload 0, o_get 4 6, o_const (nI 40)], o_icge 29 9), (9, [o_aload 0, o_get 4 7, o_aload 0, o_get 4 6, o_iload 1, o_iast, o_aload 0, o_dup, o_get 4 6, o_const (nI 1), o_add, o_putI 4 6], o_fall 29), (29, [], o_ret)]
noncomputable def sm_Ms_addItem : List m_V → m_M → Option m_R := mt_sem cd_Ms_addItem 2
theorem k_Ms_addItem_0 (q : m_C) (Q : m_R → Prop) : mt_T cd_Ms_addItem 0 q Q = mt_go [o_aload 0, o_get 4 6, o_const (nI 40)] q (mt_kk cd_Ms_addItem Q (o_icge 29 9)) := mt_blk rfl q Q
theorem k_Ms_addItem_9 (q : m_C) (Q : m_R → Prop) : mt_T cd_Ms_addItem 9 q Q = mt_go [o_aload 0, o_get 4 7, o_aload 0, o_get 4 6, o_iload 1, o_iast, o_aload 0, o_dup, o_get 4 6, o_const (nI 1), o_add, o_putI 4 6] q (mt_kk cd_Ms_addItem Q (o_fall 29)) := mt_blk rfl q Q
theorem k_Ms_addItem_29 (q : m_C) (Q : m_R → Prop) : mt_T cd_Ms_addItem 29 q Q = mt_go [] q (mt_kk cd_Ms_addItem Q (o_ret)) := mt_blk rfl q Q
-- TreeCarrier$Row.isFull ()Z
noncomputable def cd_Ro_isFull : List m_B := [(0, [o_aload 0, o_get 5 1, o_const (nI 40)], o_iclt 13 9), (9, [o_const (nI 1)], o_fall 14), (13, [o_const (nI 0)], o_fall 14), (14, [], o_zret)]
noncomputable def sm_Ro_isFull : List m_V → m_M → Option m_R := mt_sem cd_Ro_isFull 1
theorem k_Ro_isFull_0 (q : m_C) (Q : m_R → Prop) : mt_T cd_Ro_isFull 0 q Q = mt_go [o_aload 0, o_get 5 1, o_const (nI 40)] q (mt_kk cd_Ro_isFull Q (o_iclt 13 9)) := mt_blk rfl q Q
theorem k_Ro_isFull_9 (q : m_C) (Q : m_R → Prop) : mt_T cd_Ro_isFull 9 q Q = mt_go [o_const (nI 1)] q (mt_kk cd_Ro_isFull Q (o_fall 14)) := mt_blk rfl q Q
theorem k_Ro_isFull_13 (q : m_C) (Q : m_R → Prop) : mt_T cd_Ro_isFull 13 q Q = mt_go [o_const (nI 0)] q (mt_kk cd_Ro_isFull Q (o_fall 14)) := mt_blk rfl q Q
theorem k_Ro_isFull_14 (q : m_C) (Q : m_R → Prop) : mt_T cd_Ro_isFull 14 q Q = mt_go [] q (mt_kk cd_Ro_isFull Q (o_zret)) := mt_blk rfl q Q
-- TreeCarrier$Row.holds (I)Z
noncomputable def cd_Ro_holds : List m_B := [(0, [o_iload 1], o_iflt 16 4), (4, [o_iload 1, o_aload 0, o_get 5 1], o_icge 16 12), (12, [o_const (nI 1)], o_fall 17), (16, [o_const (nI 0)], o_fall 17), (17, [], o_zret)]
noncomputable def sm_Ro_holds : List m_V → m_M → Option m_R := mt_sem cd_Ro_holds 2
theorem k_Ro_holds_0 (q : m_C) (Q : m_R → Prop) : mt_T cd_Ro_holds 0 q Q = mt_go [o_iload 1] q (mt_kk cd_Ro_holds Q (o_iflt 16 4)) := mt_blk rfl q Q
theorem k_Ro_holds_4 (q : m_C) (Q : m_R → Prop) : mt_T cd_Ro_holds 4 q Q = mt_go [o_iload 1, o_aload 0, o_get 5 1] q (mt_kk cd_Ro_holds Q (o_icge 16 12)) := mt_blk rfl q Q
theorem k_Ro_holds_12 (q : m_C) (Q : m_R → Prop) : mt_T cd_Ro_holds 12 q Q = mt_go [o_const (nI 1)] q (mt_kk cd_Ro_holds Q (o_fall 17)) := mt_blk rfl q Q
theorem k_Ro_holds_16 (q : m_C) (Q : m_R → Prop) : mt_T cd_Ro_holds 16 q Q = mt_go [o_const (nI 0)] q (mt_kk cd_Ro_holds Q (o_fall 17)) := mt_blk rfl q Q
theorem k_Ro_holds_17 (q : m_C) (Q : m_R → Prop) : mt_T cd_Ro_holds 17 q Q = mt_go [] q (mt_kk cd_Ro_holds Q (o_zret)) := mt_blk rfl q Q
-- TreeCarrier$Row.byteAt (I)I
noncomputable def cd_Ro_byteAt : List m_B := [(0, [o_iload 1], o_iflt 21 4), (4, [o_iload 1, o_aload 0, o_get 5 1], o_icge 21 12), (12, [o_aload 0, o_get 5 0, o_iload 1, o_iald], o_fall 22), (21, [o_const (-1)], o_fall 22), (22, [], o_iret)]
noncomputable def sm_Ro_byteAt : List m_V → m_M → Option m_R := mt_sem cd_Ro_byteAt 2
theorem k_Ro_byteAt_0 (q : m_C) (Q : m_R → Prop) : mt_T cd_Ro_byteAt 0 q Q = mt_go [o_iload 1] q (mt_kk cd_Ro_byteAt Q (o_iflt 21 4)) := mt_blk rfl q Q
theorem k_Ro_byteAt_4 (q : m_C) (Q : m_R → Prop) : mt_T cd_Ro_byteAt 4 q Q = mt_go [o_iload 1, o_aload 0, o_get 5 1] q (mt_kk cd_Ro_byteAt Q (o_icge 21 12)) := mt_blk rfl q Q
theorem k_Ro_byteAt_12 (q : m_C) (Q : m_R → Prop) : mt_T cd_Ro_byteAt 12 q Q = mt_go [o_aload 0, o_get 5 0, o_iload 1, o_iald] q (mt_kk cd_Ro_byteAt Q (o_fall 22)) := mt_blk rfl q Q
theorem k_Ro_byteAt_21 (q : m_C) (Q : m_R → Prop) : mt_T cd_Ro_byteAt 21 q Q = mt_go [o_const (-1)] q (mt_kk cd_Ro_byteAt Q (o_fall 22)) := mt_blk rfl q Q
theorem k_Ro_byteAt_22 (q : m_C) (Q : m_R → Prop) : mt_T cd_Ro_byteAt 22 q Q = mt_go [] q (mt_kk cd_Ro_byteAt Q (o_iret)) := mt_blk rfl q Q
-- TreeCarrier$Row.clear ()V
noncomputable def cd_Ro_clear : List m_B := [(0, [o_aload 0, o_const (nI 0), o_putI 5 1], o_ret)]
noncomputable def sm_Ro_clear : List m_V → m_M → Option m_R := mt_sem cd_Ro_clear 1
theorem k_Ro_clear_0 (q : m_C) (Q : m_R → Prop) : mt_T cd_Ro_clear 0 q Q = mt_go [o_aload 0, o_const (nI 0), o_putI 5 1] q (mt_kk cd_Ro_clear Q (o_ret)) := mt_blk rfl q Q
-- TreeCarrier$Row.append (I)V
noncomputable def cd_Ro_append : List m_B := [(0, [o_aload 0, o_get 5 1, o_const (nI 40)], o_icge 29 9), (9, [o_aload 0, o_get 5 0, o_aload 0, o_get 5 1, o_iload 1, o_iast, o_aload 0, o_dup, o_get 5 1, o_const (nI 1), o_add, o_putI 5 1], o_fall 29), (29, [], o_ret)]
noncomputable def sm_Ro_append : List m_V → m_M → Option m_R := mt_sem cd_Ro_append 2
theorem k_Ro_append_0 (q : m_C) (Q : m_R → Prop) : mt_T cd_Ro_append 0 q Q = mt_go [o_aload 0, o_get 5 1, o_const (nI 40)] q (mt_kk cd_Ro_append Q (o_icge 29 9)) := mt_blk rfl q Q
theorem k_Ro_append_9 (q : m_C) (Q : m_R → Prop) : mt_T cd_Ro_append 9 q Q = mt_go [o_aload 0, o_get 5 0, o_aload 0, o_get 5 1, o_iload 1, o_iast, o_aload 0, o_dup, o_get 5 1, o_const (nI 1), o_add, o_putI 5 1] q (mt_kk cd_Ro_append Q (o_fall 29)) := mt_blk rfl q Q
theorem k_Ro_append_29 (q : m_C) (Q : m_R → Prop) : mt_T cd_Ro_append 29 q Q = mt_go [] q (mt_kk cd_Ro_append Q (o_ret)) := mt_blk rfl q Q
-- TreeCarrier$Row.replace (II)V
noncomputable def cd_Ro_replace : List m_B := [(0, [o_aload 0, o_iload 1], o_callV sm_Ro_holds 5 2 5), (5, [], o_ifeq 15 8), (8, [o_aload 0, o_get 5 0, o_iload 1, o_iload 2, o_iast], o_fall 15), (15, [], o_ret)]
noncomputable def sm_Ro_replace : List m_V → m_M → Option m_R := mt_sem cd_Ro_replace 3
theorem k_Ro_replace_0 (q : m_C) (Q : m_R → Prop) : mt_T cd_Ro_replace 0 q Q = mt_go [o_aload 0, o_iload 1] q (mt_kk cd_Ro_replace Q (o_callV sm_Ro_holds 5 2 5)) := mt_blk rfl q Q
theorem k_Ro_replace_5 (q : m_C) (Q : m_R → Prop) : mt_T cd_Ro_replace 5 q Q = mt_go [] q (mt_kk cd_Ro_replace Q (o_ifeq 15 8)) := mt_blk rfl q Q
theorem k_Ro_replace_8 (q : m_C) (Q : m_R → Prop) : mt_T cd_Ro_replace 8 q Q = mt_go [o_aload 0, o_get 5 0, o_iload 1, o_iload 2, o_iast] q (mt_kk cd_Ro_replace Q (o_fall 15)) := mt_blk rfl q Q
theorem k_Ro_replace_15 (q : m_C) (Q : m_R → Prop) : mt_T cd_Ro_replace 15 q Q = mt_go [] q (mt_kk cd_Ro_replace Q (o_ret)) := mt_blk rfl q Q
-- TreeCarrier$Row.appendPart (LTreeCarrier$Row;II)V
noncomputable def cd_Ro_appendPart : List m_B := [(0, [o_const (nI 0), o_istore 4], o_fall 3), (3, [o_iload 4, o_iload 3], o_icge 39 9), (9, [o_aload 1, o_iload 2, o_iload 4, o_add], o_callV sm_Ro_holds 5 2 17), (17, [], o_ifeq 33 20), (20, [o_aload 0, o_aload 1, o_get 5 0, o_iload 2, o_iload 4, o_add, o_iald], o_callV sm_Ro_append 5 2 33), (33, [o_iinc 4 (nI 1)], o_fall 3), (39, [], o_ret)]
noncomputable def sm_Ro_appendPart : List m_V → m_M → Option m_R := mt_sem cd_Ro_appendPart 5
theorem k_Ro_appendPart_0 (q : m_C) (Q : m_R → Prop) : mt_T cd_Ro_appendPart 0 q Q = mt_go [o_const (nI 0), o_istore 4] q (mt_kk cd_Ro_appendPart Q (o_fall 3)) := mt_blk rfl q Q
theorem k_Ro_appendPart_3 (q : m_C) (Q : m_R → Prop) : mt_T cd_Ro_appendPart 3 q Q = mt_go [o_iload 4, o_iload 3] q (mt_kk cd_Ro_appendPart Q (o_icge 39 9)) := mt_blk rfl q Q
theorem k_Ro_appendPart_9 (q : m_C) (Q : m_R → Prop) : mt_T cd_Ro_appendPart 9 q Q = mt_go [o_aload 1, o_iload 2, o_iload 4, o_add] q (mt_kk cd_Ro_appendPart Q (o_callV sm_Ro_holds 5 2 17)) := mt_blk rfl q Q
theorem k_Ro_appendPart_17 (q : m_C) (Q : m_R → Prop) : mt_T cd_Ro_appendPart 17 q Q = mt_go [] q (mt_kk cd_Ro_appendPart Q (o_ifeq 33 20)) := mt_blk rfl q Q
theorem k_Ro_appendPart_20 (q : m_C) (Q : m_R → Prop) : mt_T cd_Ro_appendPart 20 q Q = mt_go [o_aload 0, o_aload 1, o_get 5 0, o_iload 2, o_iload 4, o_add, o_iald] q (mt_kk cd_Ro_appendPart Q (o_callV sm_Ro_append 5 2 33)) := mt_blk rfl q Q
theorem k_Ro_appendPart_33 (q : m_C) (Q : m_R → Prop) : mt_T cd_Ro_appendPart 33 q Q = mt_go [o_iinc 4 (nI 1)] q (mt_kk cd_Ro_appendPart Q (o_fall 3)) := mt_blk rfl q Q
theorem k_Ro_appendPart_39 (q : m_C) (Q : m_R → Prop) : mt_T cd_Ro_appendPart 39 q Q = mt_go [] q (mt_kk cd_Ro_appendPart Q (o_ret)) := mt_blk rfl q Q
-- TreeCarrier$Row.strongSum (II)I
noncomputable def cd_Ro_strongSum : List m_B := [(0, [o_const (nI 0), o_istore 3, o_const (nI 0), o_istore 4], o_fall 5), (5, [o_iload 4, o_iload 2], o_icge 36 11), (11, [o_iload 3, o_const (nI 31), o_mul, o_aload 0, o_iload 1, o_iload 4, o_add], o_callV sm_Ro_byteAt 5 2 23), (23, [o_add, o_const (nI 1), o_add, o_const (nI 65521), o_rem, o_istore 3, o_iinc 4 (nI 1)], o_fall 5), (36, [o_iload 3], o_iret)]
noncomputable def sm_Ro_strongSum : List m_V → m_M → Option m_R := mt_sem cd_Ro_strongSum 5
theorem k_Ro_strongSum_0 (q : m_C) (Q : m_R → Prop) : mt_T cd_Ro_strongSum 0 q Q = mt_go [o_const (nI 0), o_istore 3, o_const (nI 0), o_istore 4] q (mt_kk cd_Ro_strongSum Q (o_fall 5)) := mt_blk rfl q Q
theorem k_Ro_strongSum_5 (q : m_C) (Q : m_R → Prop) : mt_T cd_Ro_strongSum 5 q Q = mt_go [o_iload 4, o_iload 2] q (mt_kk cd_Ro_strongSum Q (o_icge 36 11)) := mt_blk rfl q Q
theorem k_Ro_strongSum_11 (q : m_C) (Q : m_R → Prop) : mt_T cd_Ro_strongSum 11 q Q = mt_go [o_iload 3, o_const (nI 31), o_mul, o_aload 0, o_iload 1, o_iload 4, o_add] q (mt_kk cd_Ro_strongSum Q (o_callV sm_Ro_byteAt 5 2 23)) := mt_blk rfl q Q
theorem k_Ro_strongSum_23 (q : m_C) (Q : m_R → Prop) : mt_T cd_Ro_strongSum 23 q Q = mt_go [o_add, o_const (nI 1), o_add, o_const (nI 65521), o_rem, o_istore 3, o_iinc 4 (nI 1)] q (mt_kk cd_Ro_strongSum Q (o_fall 5)) := mt_blk rfl q Q
theorem k_Ro_strongSum_36 (q : m_C) (Q : m_R → Prop) : mt_T cd_Ro_strongSum 36 q Q = mt_go [o_iload 3] q (mt_kk cd_Ro_strongSum Q (o_iret)) := mt_blk rfl q Q
-- TreeCarrier$Row.weakSum (II)I
noncomputable def cd_Ro_weakSum : List m_B := [(0, [o_const (nI 0), o_istore 3, o_const (nI 0), o_istore 4, o_const (nI 0), o_istore 5], o_fall 8), (8, [o_iload 5, o_iload 2], o_icge 47 14), (14, [o_aload 0, o_iload 1, o_iload 5, o_add], o_callV sm_Ro_byteAt 5 2 22), (22, [o_istore 6, o_iload 3, o_iload 6, o_add, o_istore 3, o_iload 4, o_iload 2, o_iload 5, o_sub, o_iload 6, o_mul, o_add, o_istore 4, o_iinc 5 (nI 1)], o_fall 8), (47, [o_iload 3, o_const (nI 16), o_rem, o_const (nI 16), o_iload 4, o_const (nI 16), o_rem, o_mul, o_add], o_iret)]
noncomputable def sm_Ro_weakSum : List m_V → m_M → Option m_R := mt_sem cd_Ro_weakSum 7
theorem k_Ro_weakSum_0 (q : m_C) (Q : m_R → Prop) : mt_T cd_Ro_weakSum 0 q Q = mt_go [o_const (nI 0), o_istore 3, o_const (nI 0), o_istore 4, o_const (nI 0), o_istore 5] q (mt_kk cd_Ro_weakSum Q (o_fall 8)) := mt_blk rfl q Q
theorem k_Ro_weakSum_8 (q : m_C) (Q : m_R → Prop) : mt_T cd_Ro_weakSum 8 q Q = mt_go [o_iload 5, o_iload 2] q (mt_kk cd_Ro_weakSum Q (o_icge 47 14)) := mt_blk rfl q Q
theorem k_Ro_weakSum_14 (q : m_C) (Q : m_R → Prop) : mt_T cd_Ro_weakSum 14 q Q = mt_go [o_aload 0, o_iload 1, o_iload 5, o_add] q (mt_kk cd_Ro_weakSum Q (o_callV sm_Ro_byteAt 5 2 22)) := mt_blk rfl q Q
theorem k_Ro_weakSum_22 (q : m_C) (Q : m_R → Prop) : mt_T cd_Ro_weakSum 22 q Q = mt_go [o_istore 6, o_iload 3, o_iload 6, o_add, o_istore 3, o_iload 4, o_iload 2, o_iload 5, o_sub, o_iload 6, o_mul, o_add, o_istore 4, o_iinc 5 (nI 1)] q (mt_kk cd_Ro_weakSum Q (o_fall 8)) := mt_blk rfl q Q
theorem k_Ro_weakSum_47 (q : m_C) (Q : m_R → Prop) : mt_T cd_Ro_weakSum 47 q Q = mt_go [o_iload 3, o_const (nI 16), o_rem, o_const (nI 16), o_iload 4, o_const (nI 16), o_rem, o_mul, o_add] q (mt_kk cd_Ro_weakSum Q (o_iret)) := mt_blk rfl q Q
-- TreeCarrier$Row.sums (III)I
noncomputable def cd_Ro_sums : List m_B := [(0, [o_aload 0, o_iload 1, o_iload 2], o_callV sm_Ro_strongSum 5 3 6), (6, [o_istore 4, o_iload 3, o_const (nI 1)], o_icne 20 13), (13, [o_iload 4, o_const (nI 4), o_rem], o_fall 22), (20, [o_iload 4], o_fall 22), (22, [o_istore 5, o_aload 0, o_iload 1, o_iload 2], o_callV sm_Ro_weakSum 5 3 30), (30, [o_const (nI 256), o_iload 5, o_mul, o_add], o_iret)]
noncomputable def sm_Ro_sums : List m_V → m_M → Option m_R := mt_sem cd_Ro_sums 6
theorem k_Ro_sums_0 (q : m_C) (Q : m_R → Prop) : mt_T cd_Ro_sums 0 q Q = mt_go [o_aload 0, o_iload 1, o_iload 2] q (mt_kk cd_Ro_sums Q (o_callV sm_Ro_strongSum 5 3 6)) := mt_blk rfl q Q
theorem k_Ro_sums_6 (q : m_C) (Q : m_R → Prop) : mt_T cd_Ro_sums 6 q Q = mt_go [o_istore 4, o_iload 3, o_const (nI 1)] q (mt_kk cd_Ro_sums Q (o_icne 20 13)) := mt_blk rfl q Q
theorem k_Ro_sums_13 (q : m_C) (Q : m_R → Prop) : mt_T cd_Ro_sums 13 q Q = mt_go [o_iload 4, o_const (nI 4), o_rem] q (mt_kk cd_Ro_sums Q (o_fall 22)) := mt_blk rfl q Q
theorem k_Ro_sums_20 (q : m_C) (Q : m_R → Prop) : mt_T cd_Ro_sums 20 q Q = mt_go [o_iload 4] q (mt_kk cd_Ro_sums Q (o_fall 22)) := mt_blk rfl q Q
theorem k_Ro_sums_22 (q : m_C) (Q : m_R → Prop) : mt_T cd_Ro_sums 22 q Q = mt_go [o_istore 5, o_aload 0, o_iload 1, o_iload 2] q (mt_kk cd_Ro_sums Q (o_callV sm_Ro_weakSum 5 3 30)) := mt_blk rfl q Q
theorem k_Ro_sums_30 (q : m_C) (Q : m_R → Prop) : mt_T cd_Ro_sums 30 q Q = mt_go [o_const (nI 256), o_iload 5, o_mul, o_add] q (mt_kk cd_Ro_sums Q (o_iret)) := mt_blk rfl q Q
-- TreeCarrier$Row.digest ()I
noncomputable def cd_Ro_digest : List m_B := [(0, [o_const (-2128831035), o_istore 1, o_const (nI 0), o_istore 2], o_fall 5), (5, [o_iload 2, o_aload 0, o_get 5 1], o_icge 31 13), (13, [o_iload 1, o_aload 0, o_get 5 0, o_iload 2, o_iald, o_xor, o_const (nI 16777619), o_mul, o_istore 1, o_iinc 2 (nI 1)], o_fall 5), (31, [o_iload 1], o_iret)]
noncomputable def sm_Ro_digest : List m_V → m_M → Option m_R := mt_sem cd_Ro_digest 3
theorem k_Ro_digest_0 (q : m_C) (Q : m_R → Prop) : mt_T cd_Ro_digest 0 q Q = mt_go [o_const (-2128831035), o_istore 1, o_const (nI 0), o_istore 2] q (mt_kk cd_Ro_digest Q (o_fall 5)) := mt_blk rfl q Q
theorem k_Ro_digest_5 (q : m_C) (Q : m_R → Prop) : mt_T cd_Ro_digest 5 q Q = mt_go [o_iload 2, o_aload 0, o_get 5 1] q (mt_kk cd_Ro_digest Q (o_icge 31 13)) := mt_blk rfl q Q
theorem k_Ro_digest_13 (q : m_C) (Q : m_R → Prop) : mt_T cd_Ro_digest 13 q Q = mt_go [o_iload 1, o_aload 0, o_get 5 0, o_iload 2, o_iald, o_xor, o_const (nI 16777619), o_mul, o_istore 1, o_iinc 2 (nI 1)] q (mt_kk cd_Ro_digest Q (o_fall 5)) := mt_blk rfl q Q
theorem k_Ro_digest_31 (q : m_C) (Q : m_R → Prop) : mt_T cd_Ro_digest 31 q Q = mt_go [o_iload 1] q (mt_kk cd_Ro_digest Q (o_iret)) := mt_blk rfl q Q
-- TreeCarrier$Rules.<init> ()V
noncomputable def cd_Ru_init : List m_B := [(0, [o_aload 0, o_objinit, o_aload 0, o_const (nI 6), o_newI 1, o_putA 6 0, o_aload 0, o_const (nI 6), o_newI 0, o_putA 6 1, o_aload 0, o_const (nI 6), o_newI 0, o_putA 6 2, o_aload 0, o_const (nI 0), o_putI 6 3], o_ret)]
noncomputable def sm_Ru_init : List m_V → m_M → Option m_R := mt_sem cd_Ru_init 1
theorem k_Ru_init_0 (q : m_C) (Q : m_R → Prop) : mt_T cd_Ru_init 0 q Q = mt_go [o_aload 0, o_objinit, o_aload 0, o_const (nI 6), o_newI 1, o_putA 6 0, o_aload 0, o_const (nI 6), o_newI 0, o_putA 6 1, o_aload 0, o_const (nI 6), o_newI 0, o_putA 6 2, o_aload 0, o_const (nI 0), o_putI 6 3] q (mt_kk cd_Ru_init Q (o_ret)) := mt_blk rfl q Q
-- TreeCarrier$Rules.append (ZII)Z
noncomputable def cd_Ru_append : List m_B := [(0, [o_aload 0, o_get 6 3, o_const (nI 6)], o_iclt 11 9), (9, [o_const (nI 0)], o_zret), (11, [o_aload 0, o_get 6 0, o_aload 0, o_get 6 3, o_iload 1, o_zast, o_aload 0, o_get 6 1, o_aload 0, o_get 6 3, o_iload 2, o_iast, o_aload 0, o_get 6 2, o_aload 0, o_get 6 3, o_iload 3, o_iast, o_aload 0, o_dup, o_get 6 3, o_const (nI 1), o_add, o_putI 6 3, o_const (nI 1)], o_zret)]
noncomputable def sm_Ru_append : List m_V → m_M → Option m_R := mt_sem cd_Ru_append 4
theorem k_Ru_append_0 (q : m_C) (Q : m_R → Prop) : mt_T cd_Ru_append 0 q Q = mt_go [o_aload 0, o_get 6 3, o_const (nI 6)] q (mt_kk cd_Ru_append Q (o_iclt 11 9)) := mt_blk rfl q Q
theorem k_Ru_append_9 (q : m_C) (Q : m_R → Prop) : mt_T cd_Ru_append 9 q Q = mt_go [o_const (nI 0)] q (mt_kk cd_Ru_append Q (o_zret)) := mt_blk rfl q Q
theorem k_Ru_append_11 (q : m_C) (Q : m_R → Prop) : mt_T cd_Ru_append 11 q Q = mt_go [o_aload 0, o_get 6 0, o_aload 0, o_get 6 3, o_iload 1, o_zast, o_aload 0, o_get 6 1, o_aload 0, o_get 6 3, o_iload 2, o_iast, o_aload 0, o_get 6 2, o_aload 0, o_get 6 3, o_iload 3, o_iast, o_aload 0, o_dup, o_get 6 3, o_const (nI 1), o_add, o_putI 6 3, o_const (nI 1)] q (mt_kk cd_Ru_append Q (o_zret)) := mt_blk rfl q Q
-- TreeCarrier$Rules.select (I)Z
noncomputable def cd_Ru_select : List m_B := [(0, [o_const (nI 0), o_istore 2], o_fall 2), (2, [o_iload 2, o_aload 0, o_get 6 3], o_icge 40 10), (10, [o_iload 1, o_aload 0, o_get 6 1, o_iload 2, o_iald, o_and, o_aload 0, o_get 6 2, o_iload 2, o_iald], o_icne 34 27), (27, [o_aload 0, o_get 6 0, o_iload 2, o_zald], o_zret), (34, [o_iinc 2 (nI 1)], o_fall 2), (40, [o_const (nI 1)], o_zret)]
noncomputable def sm_Ru_select : List m_V → m_M → Option m_R := mt_sem cd_Ru_select 3
theorem k_Ru_select_0 (q : m_C) (Q : m_R → Prop) : mt_T cd_Ru_select 0 q Q = mt_go [o_const (nI 0), o_istore 2] q (mt_kk cd_Ru_select Q (o_fall 2)) := mt_blk rfl q Q
theorem k_Ru_select_2 (q : m_C) (Q : m_R → Prop) : mt_T cd_Ru_select 2 q Q = mt_go [o_iload 2, o_aload 0, o_get 6 3] q (mt_kk cd_Ru_select Q (o_icge 40 10)) := mt_blk rfl q Q
theorem k_Ru_select_10 (q : m_C) (Q : m_R → Prop) : mt_T cd_Ru_select 10 q Q = mt_go [o_iload 1, o_aload 0, o_get 6 1, o_iload 2, o_iald, o_and, o_aload 0, o_get 6 2, o_iload 2, o_iald] q (mt_kk cd_Ru_select Q (o_icne 34 27)) := mt_blk rfl q Q
theorem k_Ru_select_27 (q : m_C) (Q : m_R → Prop) : mt_T cd_Ru_select 27 q Q = mt_go [o_aload 0, o_get 6 0, o_iload 2, o_zald] q (mt_kk cd_Ru_select Q (o_zret)) := mt_blk rfl q Q
theorem k_Ru_select_34 (q : m_C) (Q : m_R → Prop) : mt_T cd_Ru_select 34 q Q = mt_go [o_iinc 2 (nI 1)] q (mt_kk cd_Ru_select Q (o_fall 2)) := mt_blk rfl q Q
theorem k_Ru_select_40 (q : m_C) (Q : m_R → Prop) : mt_T cd_Ru_select 40 q Q = mt_go [o_const (nI 1)] q (mt_kk cd_Ru_select Q (o_zret)) := mt_blk rfl q Q
-- TreeCarrier$StoredFile.<init> ()V
noncomputable def cd_Sf_init : List m_B := [(0, [o_aload 0, o_objinit, o_aload 0, o_new 5 n_fs_Ro, o_dup], o_callI sm_Ro_init 1 12), (12, [o_putA 7 0, o_aload 0, o_const (nI 0), o_putZ 7 1, o_aload 0, o_const (nI 0), o_putI 7 2], o_ret)]
noncomputable def sm_Sf_init : List m_V → m_M → Option m_R := mt_sem cd_Sf_init 1
theorem k_Sf_init_0 (q : m_C) (Q : m_R → Prop) : mt_T cd_Sf_init 0 q Q = mt_go [o_aload 0, o_objinit, o_aload 0, o_new 5 n_fs_Ro, o_dup] q (mt_kk cd_Sf_init Q (o_callI sm_Ro_init 1 12)) := mt_blk rfl q Q
theorem k_Sf_init_12 (q : m_C) (Q : m_R → Prop) : mt_T cd_Sf_init 12 q Q = mt_go [o_putA 7 0, o_aload 0, o_const (nI 0), o_putZ 7 1, o_aload 0, o_const (nI 0), o_putI 7 2] q (mt_kk cd_Sf_init Q (o_ret)) := mt_blk rfl q Q
-- TreeCarrier$StoredFile.erase ()V
noncomputable def cd_Sf_erase : List m_B := [(0, [o_aload 0, o_const (nI 0), o_putZ 7 1, o_aload 0, o_get 7 0], o_callV sm_Ro_clear 5 1 12), (12, [], o_ret)]
noncomputable def sm_Sf_erase : List m_V → m_M → Option m_R := mt_sem cd_Sf_erase 1
theorem k_Sf_erase_0 (q : m_C) (Q : m_R → Prop) : mt_T cd_Sf_erase 0 q Q = mt_go [o_aload 0, o_const (nI 0), o_putZ 7 1, o_aload 0, o_get 7 0] q (mt_kk cd_Sf_erase Q (o_callV sm_Ro_clear 5 1 12)) := mt_blk rfl q Q
theorem k_Sf_erase_12 (q : m_C) (Q : m_R → Prop) : mt_T cd_Sf_erase 12 q Q = mt_go [] q (mt_kk cd_Sf_erase Q (o_ret)) := mt_blk rfl q Q
-- TreeCarrier.<init> ()V
noncomputable def cd_TC_init : List m_B := [(0, [o_aload 0, o_objinit, o_aload 0, o_const (nI 24), o_newA 3, o_putA 8 0, o_aload 0, o_new 6 n_fs_Ru, o_dup], o_callI sm_Ru_init 1 21), (21, [o_putA 8 1, o_aload 0, o_new 3 n_fs_Li, o_dup], o_callI sm_Li_init 1 32), (32, [o_putA 8 2, o_aload 0, o_new 3 n_fs_Li, o_dup], o_callI sm_Li_init 1 43), (43, [o_putA 8 3, o_aload 0, o_const (nI 12), o_newA 4, o_putA 8 4, o_aload 0, o_new 1 n_fs_Jo, o_dup], o_callI sm_Jo_init 1 63), (63, [o_putA 8 5, o_aload 0, o_new 5 n_fs_Ro, o_dup], o_callI sm_Ro_init 1 74), (74, [o_putA 8 6, o_aload 0, o_const (nI 8), o_newI 0, o_putA 8 7, o_aload 0, o_const (nI 0), o_putI 8 8, o_aload 0, o_const (nI 0), o_putZ 8 9, o_aload 0, o_const (nI 0), o_putZ 8 10, o_aload 0, o_const (nI 1), o_putI 8 11, o_const (nI 0), o_istore 1], o_fall 107), (107, [o_iload 1, o_aload 0, o_get 8 0, o_alen 3], o_icge 135 116), (116, [o_aload 0, o_get 8 0, o_iload 1, o_new 7 n_fs_Sf, o_dup], o_callI sm_Sf_init 1 128), (128, [o_aast 3 7, o_iinc 1 (nI 1)], o_fall 107), (135, [o_const (nI 0), o_istore 1], o_fall 137), (137, [o_iload 1, o_const (nI 12)], o_icge 162 143), (143, [o_aload 0, o_get 8 4, o_iload 1, o_new 0 n_fs_En, o_dup], o_callI sm_En_init 1 155), (155, [o_aast 4 0, o_iinc 1 (nI 1)], o_fall 137), (162, [], o_ret)]
noncomputable def sm_TC_init : List m_V → m_M → Option m_R := mt_sem cd_TC_init 2
theorem k_TC_init_0 (q : m_C) (Q : m_R → Prop) : mt_T cd_TC_init 0 q Q = mt_go [o_aload 0, o_objinit, o_aload 0, o_const (nI 24), o_newA 3, o_putA 8 0, o_aload 0, o_new 6 n_fs_Ru, o_dup] q (mt_kk cd_TC_init Q (o_callI sm_Ru_init 1 21)) := mt_blk rfl q Q
theorem k_TC_init_21 (q : m_C) (Q : m_R → Prop) : mt_T cd_TC_init 21 q Q = mt_go [o_putA 8 1, o_aload 0, o_new 3 n_fs_Li, o_dup] q (mt_kk cd_TC_init Q (o_callI sm_Li_init 1 32)) := mt_blk rfl q Q
theorem k_TC_init_32 (q : m_C) (Q : m_R → Prop) : mt_T cd_TC_init 32 q Q = mt_go [o_putA 8 2, o_aload 0, o_new 3 n_fs_Li, o_dup] q (mt_kk cd_TC_init Q (o_callI sm_Li_init 1 43)) := mt_blk rfl q Q
theorem k_TC_init_43 (q : m_C) (Q : m_R → Prop) : mt_T cd_TC_init 43 q Q = mt_go [o_putA 8 3, o_aload 0, o_const (nI 12), o_newA 4, o_putA 8 4, o_aload 0, o_new 1 n_fs_Jo, o_dup] q (mt_kk cd_TC_init Q (o_callI sm_Jo_init 1 63)) := mt_blk rfl q Q
theorem k_TC_init_63 (q : m_C) (Q : m_R → Prop) : mt_T cd_TC_init 63 q Q = mt_go [o_putA 8 5, o_aload 0, o_new 5 n_fs_Ro, o_dup] q (mt_kk cd_TC_init Q (o_callI sm_Ro_init 1 74)) := mt_blk rfl q Q
theorem k_TC_init_74 (q : m_C) (Q : m_R → Prop) : mt_T cd_TC_init 74 q Q = mt_go [o_putA 8 6, o_aload 0, o_const (nI 8), o_newI 0, o_putA 8 7, o_aload 0, o_const (nI 0), o_putI 8 8, o_aload 0, o_const (nI 0), o_putZ 8 9, o_aload 0, o_const (nI 0), o_putZ 8 10, o_aload 0, o_const (nI 1), o_putI 8 11, o_const (nI 0), o_istore 1] q (mt_kk cd_TC_init Q (o_fall 107)) := mt_blk rfl q Q
theorem k_TC_init_107 (q : m_C) (Q : m_R → Prop) : mt_T cd_TC_init 107 q Q = mt_go [o_iload 1, o_aload 0, o_get 8 0, o_alen 3] q (mt_kk cd_TC_init Q (o_icge 135 116)) := mt_blk rfl q Q
theorem k_TC_init_116 (q : m_C) (Q : m_R → Prop) : mt_T cd_TC_init 116 q Q = mt_go [o_aload 0, o_get 8 0, o_iload 1, o_new 7 n_fs_Sf, o_dup] q (mt_kk cd_TC_init Q (o_callI sm_Sf_init 1 128)) := mt_blk rfl q Q
theorem k_TC_init_128 (q : m_C) (Q : m_R → Prop) : mt_T cd_TC_init 128 q Q = mt_go [o_aast 3 7, o_iinc 1 (nI 1)] q (mt_kk cd_TC_init Q (o_fall 107)) := mt_blk rfl q Q
theorem k_TC_init_135 (q : m_C) (Q : m_R → Prop) : mt_T cd_TC_init 135 q Q = mt_go [o_const (nI 0), o_istore 1] q (mt_kk cd_TC_init Q (o_fall 137)) := mt_blk rfl q Q
theorem k_TC_init_137 (q : m_C) (Q : m_R → Prop) : mt_T cd_TC_init 137 q Q = mt_go [o_iload 1, o_const (nI 12)] q (mt_kk cd_TC_init Q (o_icge 162 143)) := mt_blk rfl q Q
theorem k_TC_init_143 (q : m_C) (Q : m_R → Prop) : mt_T cd_TC_init 143 q Q = mt_go [o_aload 0, o_get 8 4, o_iload 1, o_new 0 n_fs_En, o_dup] q (mt_kk cd_TC_init Q (o_callI sm_En_init 1 155)) := mt_blk rfl q Q
theorem k_TC_init_155 (q : m_C) (Q : m_R → Prop) : mt_T cd_TC_init 155 q Q = mt_go [o_aast 4 0, o_iinc 1 (nI 1)] q (mt_kk cd_TC_init Q (o_fall 137)) := mt_blk rfl q Q
theorem k_TC_init_162 (q : m_C) (Q : m_R → Prop) : mt_T cd_TC_init 162 q Q = mt_go [] q (mt_kk cd_TC_init Q (o_ret)) := mt_blk rfl q Q
-- TreeCarrier.isMask (I)Z
noncomputable def cd_TC_isMask : List m_B := [(0, [o_iload 0], o_iflt 14 4), (4, [o_iload 0, o_const (nI 15)], o_icgt 14 10), (10, [o_const (nI 1)], o_fall 15), (14, [o_const (nI 0)], o_fall 15), (15, [], o_zret)]
noncomputable def sm_TC_isMask : List m_V → m_M → Option m_R := mt_sem cd_TC_isMask 1
theorem k_TC_isMask_0 (q : m_C) (Q : m_R → Prop) : mt_T cd_TC_isMask 0 q Q = mt_go [o_iload 0] q (mt_kk cd_TC_isMask Q (o_iflt 14 4)) := mt_blk rfl q Q
theorem k_TC_isMask_4 (q : m_C) (Q : m_R → Prop) : mt_T cd_TC_isMask 4 q Q = mt_go [o_iload 0, o_const (nI 15)] q (mt_kk cd_TC_isMask Q (o_icgt 14 10)) := mt_blk rfl q Q
theorem k_TC_isMask_10 (q : m_C) (Q : m_R → Prop) : mt_T cd_TC_isMask 10 q Q = mt_go [o_const (nI 1)] q (mt_kk cd_TC_isMask Q (o_fall 15)) := mt_blk rfl q Q
theorem k_TC_isMask_14 (q : m_C) (Q : m_R → Prop) : mt_T cd_TC_isMask 14 q Q = mt_go [o_const (nI 0)] q (mt_kk cd_TC_isMask Q (o_fall 15)) := mt_blk rfl q Q
theorem k_TC_isMask_15 (q : m_C) (Q : m_R → Prop) : mt_T cd_TC_isMask 15 q Q = mt_go [] q (mt_kk cd_TC_isMask Q (o_zret)) := mt_blk rfl q Q
-- TreeCarrier.rule (ZII)Z
noncomputable def cd_TC_rule : List m_B := [(0, [o_iload 2], o_callS sm_TC_isMask 1 4), (4, [], o_ifeq 14 7), (7, [o_iload 3], o_callS sm_TC_isMask 1 11), (11, [], o_ifne 16 14), (14, [o_const (nI 0)], o_zret), (16, [o_aload 0, o_get 8 1, o_iload 1, o_iload 2, o_iload 3], o_callV sm_Ru_append 6 4 26), (26, [], o_zret)]
noncomputable def sm_TC_rule : List m_V → m_M → Option m_R := mt_sem cd_TC_rule 4
theorem k_TC_rule_0 (q : m_C) (Q : m_R → Prop) : mt_T cd_TC_rule 0 q Q = mt_go [o_iload 2] q (mt_kk cd_TC_rule Q (o_callS sm_TC_isMask 1 4)) := mt_blk rfl q Q
theorem k_TC_rule_4 (q : m_C) (Q : m_R → Prop) : mt_T cd_TC_rule 4 q Q = mt_go [] q (mt_kk cd_TC_rule Q (o_ifeq 14 7)) := mt_blk rfl q Q
theorem k_TC_rule_7 (q : m_C) (Q : m_R → Prop) : mt_T cd_TC_rule 7 q Q = mt_go [o_iload 3] q (mt_kk cd_TC_rule Q (o_callS sm_TC_isMask 1 11)) := mt_blk rfl q Q
theorem k_TC_rule_11 (q : m_C) (Q : m_R → Prop) : mt_T cd_TC_rule 11 q Q = mt_go [] q (mt_kk cd_TC_rule Q (o_ifne 16 14)) := mt_blk rfl q Q
theorem k_TC_rule_14 (q : m_C) (Q : m_R → Prop) : mt_T cd_TC_rule 14 q Q = mt_go [o_const (nI 0)] q (mt_kk cd_TC_rule Q (o_zret)) := mt_blk rfl q Q
theorem k_TC_rule_16 (q : m_C) (Q : m_R → Prop) : mt_T cd_TC_rule 16 q Q = mt_go [o_aload 0, o_get 8 1, o_iload 1, o_iload 2, o_iload 3] q (mt_kk cd_TC_rule Q (o_callV sm_Ru_append 6 4 26)) := mt_blk rfl q Q
theorem k_TC_rule_26 (q : m_C) (Q : m_R → Prop) : mt_T cd_TC_rule 26 q Q = mt_go [] q (mt_kk cd_TC_rule Q (o_zret)) := mt_blk rfl q Q
-- TreeCarrier.isName (I)Z
noncomputable def cd_TC_isName : List m_B := [(0, [o_iload 0], o_iflt 14 4), (4, [o_iload 0, o_const (nI 12)], o_icge 14 10), (10, [o_const (nI 1)], o_fall 15), (14, [o_const (nI 0)], o_fall 15), (15, [], o_zret)]
noncomputable def sm_TC_isName : List m_V → m_M → Option m_R := mt_sem cd_TC_isName 1
theorem k_TC_isName_0 (q : m_C) (Q : m_R → Prop) : mt_T cd_TC_isName 0 q Q = mt_go [o_iload 0] q (mt_kk cd_TC_isName Q (o_iflt 14 4)) := mt_blk rfl q Q
theorem k_TC_isName_4 (q : m_C) (Q : m_R → Prop) : mt_T cd_TC_isName 4 q Q = mt_go [o_iload 0, o_const (nI 12)] q (mt_kk cd_TC_isName Q (o_icge 14 10)) := mt_blk rfl q Q
theorem k_TC_isName_10 (q : m_C) (Q : m_R → Prop) : mt_T cd_TC_isName 10 q Q = mt_go [o_const (nI 1)] q (mt_kk cd_TC_isName Q (o_fall 15)) := mt_blk rfl q Q
theorem k_TC_isName_14 (q : m_C) (Q : m_R → Prop) : mt_T cd_TC_isName 14 q Q = mt_go [o_const (nI 0)] q (mt_kk cd_TC_isName Q (o_fall 15)) := mt_blk rfl q Q
theorem k_TC_isName_15 (q : m_C) (Q : m_R → Prop) : mt_T cd_TC_isName 15 q Q = mt_go [] q (mt_kk cd_TC_isName Q (o_zret)) := mt_blk rfl q Q
-- TreeCarrier.slotOf (II)LTreeCarrier$StoredFile;
noncomputable def cd_TC_slotOf : List m_B := [(0, [o_iload 1], o_iflt 16 4), (4, [o_iload 1, o_const (nI 2)], o_icge 16 9), (9, [o_iload 2], o_callS sm_TC_isName 1 13), (13, [], o_ifne 18 16), (16, [o_null], o_aret), (18, [o_aload 0, o_get 8 0, o_iload 1, o_const (nI 12), o_mul, o_iload 2, o_add, o_aald 3], o_aret)]
noncomputable def sm_TC_slotOf : List m_V → m_M → Option m_R := mt_sem cd_TC_slotOf 3
theorem k_TC_slotOf_0 (q : m_C) (Q : m_R → Prop) : mt_T cd_TC_slotOf 0 q Q = mt_go [o_iload 1] q (mt_kk cd_TC_slotOf Q (o_iflt 16 4)) := mt_blk rfl q Q
theorem k_TC_slotOf_4 (q : m_C) (Q : m_R → Prop) : mt_T cd_TC_slotOf 4 q Q = mt_go [o_iload 1, o_const (nI 2)] q (mt_kk cd_TC_slotOf Q (o_icge 16 9)) := mt_blk rfl q Q
theorem k_TC_slotOf_9 (q : m_C) (Q : m_R → Prop) : mt_T cd_TC_slotOf 9 q Q = mt_go [o_iload 2] q (mt_kk cd_TC_slotOf Q (o_callS sm_TC_isName 1 13)) := mt_blk rfl q Q
theorem k_TC_slotOf_13 (q : m_C) (Q : m_R → Prop) : mt_T cd_TC_slotOf 13 q Q = mt_go [] q (mt_kk cd_TC_slotOf Q (o_ifne 18 16)) := mt_blk rfl q Q
theorem k_TC_slotOf_16 (q : m_C) (Q : m_R → Prop) : mt_T cd_TC_slotOf 16 q Q = mt_go [o_null] q (mt_kk cd_TC_slotOf Q (o_aret)) := mt_blk rfl q Q
theorem k_TC_slotOf_18 (q : m_C) (Q : m_R → Prop) : mt_T cd_TC_slotOf 18 q Q = mt_go [o_aload 0, o_get 8 0, o_iload 1, o_const (nI 12), o_mul, o_iload 2, o_add, o_aald 3] q (mt_kk cd_TC_slotOf Q (o_aret)) := mt_blk rfl q Q
-- TreeCarrier.isByte (I)Z
noncomputable def cd_TC_isByte : List m_B := [(0, [o_iload 0], o_iflt 15 4), (4, [o_iload 0, o_const (nI 255)], o_icgt 15 11), (11, [o_const (nI 1)], o_fall 16), (15, [o_const (nI 0)], o_fall 16), (16, [], o_zret)]
noncomputable def sm_TC_isByte : List m_V → m_M → Option m_R := mt_sem cd_TC_isByte 1
theorem k_TC_isByte_0 (q : m_C) (Q : m_R → Prop) : mt_T cd_TC_isByte 0 q Q = mt_go [o_iload 0] q (mt_kk cd_TC_isByte Q (o_iflt 15 4)) := mt_blk rfl q Q
theorem k_TC_isByte_4 (q : m_C) (Q : m_R → Prop) : mt_T cd_TC_isByte 4 q Q = mt_go [o_iload 0, o_const (nI 255)] q (mt_kk cd_TC_isByte Q (o_icgt 15 11)) := mt_blk rfl q Q
theorem k_TC_isByte_11 (q : m_C) (Q : m_R → Prop) : mt_T cd_TC_isByte 11 q Q = mt_go [o_const (nI 1)] q (mt_kk cd_TC_isByte Q (o_fall 16)) := mt_blk rfl q Q
theorem k_TC_isByte_15 (q : m_C) (Q : m_R → Prop) : mt_T cd_TC_isByte 15 q Q = mt_go [o_const (nI 0)] q (mt_kk cd_TC_isByte Q (o_fall 16)) := mt_blk rfl q Q
theorem k_TC_isByte_16 (q : m_C) (Q : m_R → Prop) : mt_T cd_TC_isByte 16 q Q = mt_go [] q (mt_kk cd_TC_isByte Q (o_zret)) := mt_blk rfl q Q
-- TreeCarrier.tick ()I
noncomputable def cd_TC_tick : List m_B := [(0, [o_aload 0, o_dup, o_get 8 8, o_const (nI 1), o_add, o_putI 8 8, o_aload 0, o_get 8 8], o_iret)]
noncomputable def sm_TC_tick : List m_V → m_M → Option m_R := mt_sem cd_TC_tick 1
theorem k_TC_tick_0 (q : m_C) (Q : m_R → Prop) : mt_T cd_TC_tick 0 q Q = mt_go [o_aload 0, o_dup, o_get 8 8, o_const (nI 1), o_add, o_putI 8 8, o_aload 0, o_get 8 8] q (mt_kk cd_TC_tick Q (o_iret)) := mt_blk rfl q Q
-- TreeCarrier.put (III)Z
noncomputable def cd_TC_put : List m_B := [(0, [o_aload 0, o_iload 1, o_iload 2], o_callV sm_TC_slotOf 8 3 6), (6, [o_astore 4, o_aload 4], o_ifnull 31 13), (13, [o_iload 3], o_callS sm_TC_isByte 1 17), (17, [], o_ifeq 31 20), (20, [o_aload 4, o_get 7 0], o_callV sm_Ro_isFull 5 1 28), (28, [], o_ifeq 33 31), (31, [o_const (nI 0)], o_zret), (33, [o_aload 4, o_const (nI 1), o_putZ 7 1, o_aload 4, o_get 7 0, o_iload 3], o_callV sm_Ro_append 5 2 48), (48, [o_aload 4, o_aload 0], o_callV sm_TC_tick 8 1 54), (54, [o_putI 7 2, o_const (nI 1)], o_zret)]
noncomputable def sm_TC_put : List m_V → m_M → Option m_R := mt_sem cd_TC_put 5
theorem k_TC_put_0 (q : m_C) (Q : m_R → Prop) : mt_T cd_TC_put 0 q Q = mt_go [o_aload 0, o_iload 1, o_iload 2] q (mt_kk cd_TC_put Q (o_callV sm_TC_slotOf 8 3 6)) := mt_blk rfl q Q
theorem k_TC_put_6 (q : m_C) (Q : m_R → Prop) : mt_T cd_TC_put 6 q Q = mt_go [o_astore 4, o_aload 4] q (mt_kk cd_TC_put Q (o_ifnull 31 13)) := mt_blk rfl q Q
theorem k_TC_put_13 (q : m_C) (Q : m_R → Prop) : mt_T cd_TC_put 13 q Q = mt_go [o_iload 3] q (mt_kk cd_TC_put Q (o_callS sm_TC_isByte 1 17)) := mt_blk rfl q Q
theorem k_TC_put_17 (q : m_C) (Q : m_R → Prop) : mt_T cd_TC_put 17 q Q = mt_go [] q (mt_kk cd_TC_put Q (o_ifeq 31 20)) := mt_blk rfl q Q
theorem k_TC_put_20 (q : m_C) (Q : m_R → Prop) : mt_T cd_TC_put 20 q Q = mt_go [o_aload 4, o_get 7 0] q (mt_kk cd_TC_put Q (o_callV sm_Ro_isFull 5 1 28)) := mt_blk rfl q Q
theorem k_TC_put_28 (q : m_C) (Q : m_R → Prop) : mt_T cd_TC_put 28 q Q = mt_go [] q (mt_kk cd_TC_put Q (o_ifeq 33 31)) := mt_blk rfl q Q
theorem k_TC_put_31 (q : m_C) (Q : m_R → Prop) : mt_T cd_TC_put 31 q Q = mt_go [o_const (nI 0)] q (mt_kk cd_TC_put Q (o_zret)) := mt_blk rfl q Q
theorem k_TC_put_33 (q : m_C) (Q : m_R → Prop) : mt_T cd_TC_put 33 q Q = mt_go [o_aload 4, o_const (nI 1), o_putZ 7 1, o_aload 4, o_get 7 0, o_iload 3] q (mt_kk cd_TC_put Q (o_callV sm_Ro_append 5 2 48)) := mt_blk rfl q Q
theorem k_TC_put_48 (q : m_C) (Q : m_R → Prop) : mt_T cd_TC_put 48 q Q = mt_go [o_aload 4, o_aload 0] q (mt_kk cd_TC_put Q (o_callV sm_TC_tick 8 1 54)) := mt_blk rfl q Q
theorem k_TC_put_54 (q : m_C) (Q : m_R → Prop) : mt_T cd_TC_put 54 q Q = mt_go [o_putI 7 2, o_const (nI 1)] q (mt_kk cd_TC_put Q (o_zret)) := mt_blk rfl q Q
-- TreeCarrier.fileOf (II)LTreeCarrier$StoredFile;
noncomputable def cd_TC_fileOf : List m_B := [(0, [o_aload 0, o_iload 1, o_iload 2], o_callV sm_TC_slotOf 8 3 6), (6, [o_astore 3, o_aload 3], o_ifnull 22 11), (11, [o_aload 3, o_get 7 1], o_ifeq 22 18), (18, [o_aload 3], o_fall 23), (22, [o_null], o_fall 23), (23, [], o_aret)]
noncomputable def sm_TC_fileOf : List m_V → m_M → Option m_R := mt_sem cd_TC_fileOf 4
theorem k_TC_fileOf_0 (q : m_C) (Q : m_R → Prop) : mt_T cd_TC_fileOf 0 q Q = mt_go [o_aload 0, o_iload 1, o_iload 2] q (mt_kk cd_TC_fileOf Q (o_callV sm_TC_slotOf 8 3 6)) := mt_blk rfl q Q
theorem k_TC_fileOf_6 (q : m_C) (Q : m_R → Prop) : mt_T cd_TC_fileOf 6 q Q = mt_go [o_astore 3, o_aload 3] q (mt_kk cd_TC_fileOf Q (o_ifnull 22 11)) := mt_blk rfl q Q
theorem k_TC_fileOf_11 (q : m_C) (Q : m_R → Prop) : mt_T cd_TC_fileOf 11 q Q = mt_go [o_aload 3, o_get 7 1] q (mt_kk cd_TC_fileOf Q (o_ifeq 22 18)) := mt_blk rfl q Q
theorem k_TC_fileOf_18 (q : m_C) (Q : m_R → Prop) : mt_T cd_TC_fileOf 18 q Q = mt_go [o_aload 3] q (mt_kk cd_TC_fileOf Q (o_fall 23)) := mt_blk rfl q Q
theorem k_TC_fileOf_22 (q : m_C) (Q : m_R → Prop) : mt_T cd_TC_fileOf 22 q Q = mt_go [o_null] q (mt_kk cd_TC_fileOf Q (o_fall 23)) := mt_blk rfl q Q
theorem k_TC_fileOf_23 (q : m_C) (Q : m_R → Prop) : mt_T cd_TC_fileOf 23 q Q = mt_go [] q (mt_kk cd_TC_fileOf Q (o_aret)) := mt_blk rfl q Q
-- TreeCarrier.set (IIII)Z
noncomputable def cd_TC_set : List m_B := [(0, [o_aload 0, o_iload 1, o_iload 2], o_callV sm_TC_fileOf 8 3 6), (6, [o_astore 5, o_aload 5], o_ifnull 33 13), (13, [o_aload 5, o_get 7 0, o_iload 3], o_callV sm_Ro_holds 5 2 22), (22, [], o_ifeq 33 25), (25, [o_iload 4], o_callS sm_TC_isByte 1 30), (30, [], o_ifne 35 33), (33, [o_const (nI 0)], o_zret), (35, [o_aload 5, o_get 7 0, o_iload 3, o_iload 4], o_callV sm_Ro_replace 5 3 46), (46, [o_aload 5, o_aload 0], o_callV sm_TC_tick 8 1 52), (52, [o_putI 7 2, o_const (nI 1)], o_zret)]
noncomputable def sm_TC_set : List m_V → m_M → Option m_R := mt_sem cd_TC_set 6
theorem k_TC_set_0 (q : m_C) (Q : m_R → Prop) : mt_T cd_TC_set 0 q Q = mt_go [o_aload 0, o_iload 1, o_iload 2] q (mt_kk cd_TC_set Q (o_callV sm_TC_fileOf 8 3 6)) := mt_blk rfl q Q
theorem k_TC_set_6 (q : m_C) (Q : m_R → Prop) : mt_T cd_TC_set 6 q Q = mt_go [o_astore 5, o_aload 5] q (mt_kk cd_TC_set Q (o_ifnull 33 13)) := mt_blk rfl q Q
theorem k_TC_set_13 (q : m_C) (Q : m_R → Prop) : mt_T cd_TC_set 13 q Q = mt_go [o_aload 5, o_get 7 0, o_iload 3] q (mt_kk cd_TC_set Q (o_callV sm_Ro_holds 5 2 22)) := mt_blk rfl q Q
theorem k_TC_set_22 (q : m_C) (Q : m_R → Prop) : mt_T cd_TC_set 22 q Q = mt_go [] q (mt_kk cd_TC_set Q (o_ifeq 33 25)) := mt_blk rfl q Q
theorem k_TC_set_25 (q : m_C) (Q : m_R → Prop) : mt_T cd_TC_set 25 q Q = mt_go [o_iload 4] q (mt_kk cd_TC_set Q (o_callS sm_TC_isByte 1 30)) := mt_blk rfl q Q
theorem k_TC_set_30 (q : m_C) (Q : m_R → Prop) : mt_T cd_TC_set 30 q Q = mt_go [] q (mt_kk cd_TC_set Q (o_ifne 35 33)) := mt_blk rfl q Q
theorem k_TC_set_33 (q : m_C) (Q : m_R → Prop) : mt_T cd_TC_set 33 q Q = mt_go [o_const (nI 0)] q (mt_kk cd_TC_set Q (o_zret)) := mt_blk rfl q Q
theorem k_TC_set_35 (q : m_C) (Q : m_R → Prop) : mt_T cd_TC_set 35 q Q = mt_go [o_aload 5, o_get 7 0, o_iload 3, o_iload 4] q (mt_kk cd_TC_set Q (o_callV sm_Ro_replace 5 3 46)) := mt_blk rfl q Q
theorem k_TC_set_46 (q : m_C) (Q : m_R → Prop) : mt_T cd_TC_set 46 q Q = mt_go [o_aload 5, o_aload 0] q (mt_kk cd_TC_set Q (o_callV sm_TC_tick 8 1 52)) := mt_blk rfl q Q
theorem k_TC_set_52 (q : m_C) (Q : m_R → Prop) : mt_T cd_TC_set 52 q Q = mt_go [o_putI 7 2, o_const (nI 1)] q (mt_kk cd_TC_set Q (o_zret)) := mt_blk rfl q Q
-- TreeCarrier.remove (II)Z
noncomputable def cd_TC_remove : List m_B := [(0, [o_aload 0, o_iload 1, o_iload 2], o_callV sm_TC_fileOf 8 3 6), (6, [o_astore 3, o_aload 3], o_ifnonnull 13 11), (11, [o_const (nI 0)], o_zret), (13, [o_aload 3], o_callV sm_Sf_erase 7 1 17), (17, [o_aload 0], o_callV sm_TC_tick 8 1 21), (21, [o_pop, o_const (nI 1)], o_zret)]
noncomputable def sm_TC_remove : List m_V → m_M → Option m_R := mt_sem cd_TC_remove 4
theorem k_TC_remove_0 (q : m_C) (Q : m_R → Prop) : mt_T cd_TC_remove 0 q Q = mt_go [o_aload 0, o_iload 1, o_iload 2] q (mt_kk cd_TC_remove Q (o_callV sm_TC_fileOf 8 3 6)) := mt_blk rfl q Q
theorem k_TC_remove_6 (q : m_C) (Q : m_R → Prop) : mt_T cd_TC_remove 6 q Q = mt_go [o_astore 3, o_aload 3] q (mt_kk cd_TC_remove Q (o_ifnonnull 13 11)) := mt_blk rfl q Q
theorem k_TC_remove_11 (q : m_C) (Q : m_R → Prop) : mt_T cd_TC_remove 11 q Q = mt_go [o_const (nI 0)] q (mt_kk cd_TC_remove Q (o_zret)) := mt_blk rfl q Q
theorem k_TC_remove_13 (q : m_C) (Q : m_R → Prop) : mt_T cd_TC_remove 13 q Q = mt_go [o_aload 3] q (mt_kk cd_TC_remove Q (o_callV sm_Sf_erase 7 1 17)) := mt_blk rfl q Q
theorem k_TC_remove_17 (q : m_C) (Q : m_R → Prop) : mt_T cd_TC_remove 17 q Q = mt_go [o_aload 0] q (mt_kk cd_TC_remove Q (o_callV sm_TC_tick 8 1 21)) := mt_blk rfl q Q
theorem k_TC_remove_21 (q : m_C) (Q : m_R → Prop) : mt_T cd_TC_remove 21 q Q = mt_go [o_pop, o_const (nI 1)] q (mt_kk cd_TC_remove Q (o_zret)) := mt_blk rfl q Q
-- TreeCarrier.doOldestRecord ()V
noncomputable def cd_TC_doOldestRecord : List m_B := [(0, [o_aload 0, o_get 8 5], o_callV sm_Jo_take 1 1 7), (7, [o_astore 1, o_aload 1], o_ifnonnull 16 12), (12, [o_null], o_fall 25), (16, [o_aload 0, o_const (nI 1), o_aload 1, o_get 2 1], o_callV sm_TC_slotOf 8 3 25), (25, [o_astore 2, o_aload 2], o_ifnull 65 30), (30, [o_aload 2, o_const (nI 1), o_putZ 7 1, o_aload 2, o_get 7 0, o_aload 1, o_get 2 0], o_callV sm_Ro_become 5 2 46), (46, [o_aload 2, o_aload 1, o_get 2 2, o_putI 7 2, o_aload 0, o_get 8 7, o_const (nI 7), o_dup2, o_iald, o_const (nI 1), o_add, o_iast], o_fall 65), (65, [], o_ret)]
noncomputable def sm_TC_doOldestRecord : List m_V → m_M → Option m_R := mt_sem cd_TC_doOldestRecord 3
theorem k_TC_doOldestRecord_0 (q : m_C) (Q : m_R → Prop) : mt_T cd_TC_doOldestRecord 0 q Q = mt_go [o_aload 0, o_get 8 5] q (mt_kk cd_TC_doOldestRecord Q (o_callV sm_Jo_take 1 1 7)) := mt_blk rfl q Q
theorem k_TC_doOldestRecord_7 (q : m_C) (Q : m_R → Prop) : mt_T cd_TC_doOldestRecord 7 q Q = mt_go [o_astore 1, o_aload 1] q (mt_kk cd_TC_doOldestRecord Q (o_ifnonnull 16 12)) := mt_blk rfl q Q
theorem k_TC_doOldestRecord_12 (q : m_C) (Q : m_R → Prop) : mt_T cd_TC_doOldestRecord 12 q Q = mt_go [o_null] q (mt_kk cd_TC_doOldestRecord Q (o_fall 25)) := mt_blk rfl q Q
theorem k_TC_doOldestRecord_16 (q : m_C) (Q : m_R → Prop) : mt_T cd_TC_doOldestRecord 16 q Q = mt_go [o_aload 0, o_const (nI 1), o_aload 1, o_get 2 1] q (mt_kk cd_TC_doOldestRecord Q (o_callV sm_TC_slotOf 8 3 25)) := mt_blk rfl q Q
theorem k_TC_doOldestRecord_25 (q : m_C) (Q : m_R → Prop) : mt_T cd_TC_doOldestRecord 25 q Q = mt_go [o_astore 2, o_aload 2] q (mt_kk cd_TC_doOldestRecord Q (o_ifnull 65 30)) := mt_blk rfl q Q
theorem k_TC_doOldestRecord_30 (q : m_C) (Q : m_R → Prop) : mt_T cd_TC_doOldestRecord 30 q Q = mt_go [o_aload 2, o_const (nI 1), o_putZ 7 1, o_aload 2, o_get 7 0, o_aload 1, o_get 2 0] q (mt_kk cd_TC_doOldestRecord Q (o_callV sm_Ro_become 5 2 46)) := mt_blk rfl q Q
theorem k_TC_doOldestRecord_46 (q : m_C) (Q : m_R → Prop) : mt_T cd_TC_doOldestRecord 46 q Q = mt_go [o_aload 2, o_aload 1, o_get 2 2, o_putI 7 2, o_aload 0, o_get 8 7, o_const (nI 7), o_dup2, o_iald, o_const (nI 1), o_add, o_iast] q (mt_kk cd_TC_doOldestRecord Q (o_fall 65)) := mt_blk rfl q Q
theorem k_TC_doOldestRecord_65 (q : m_C) (Q : m_R → Prop) : mt_T cd_TC_doOldestRecord 65 q Q = mt_go [] q (mt_kk cd_TC_doOldestRecord Q (o_ret)) := mt_blk rfl q Q
-- TreeCarrier.doAllRecords ()V
noncomputable def cd_TC_doAllRecords : List m_B := [(0, [o_aload 0, o_get 8 5, o_get 1 2, o_istore 1, o_const (nI 0), o_istore 2], o_fall 10), (10, [o_iload 2, o_iload 1], o_icge 25 15), (15, [o_aload 0], o_callV sm_TC_doOldestRecord 8 1 19), (19, [o_iinc 2 (nI 1)], o_fall 10), (25, [], o_ret)]
noncomputable def sm_TC_doAllRecords : List m_V → m_M → Option m_R := mt_sem cd_TC_doAllRecords 3
theorem k_TC_doAllRecords_0 (q : m_C) (Q : m_R → Prop) : mt_T cd_TC_doAllRecords 0 q Q = mt_go [o_aload 0, o_get 8 5, o_get 1 2, o_istore 1, o_const (nI 0), o_istore 2] q (mt_kk cd_TC_doAllRecords Q (o_fall 10)) := mt_blk rfl q Q
theorem k_TC_doAllRecords_10 (q : m_C) (Q : m_R → Prop) : mt_T cd_TC_doAllRecords 10 q Q = mt_go [o_iload 2, o_iload 1] q (mt_kk cd_TC_doAllRecords Q (o_icge 25 15)) := mt_blk rfl q Q
theorem k_TC_doAllRecords_15 (q : m_C) (Q : m_R → Prop) : mt_T cd_TC_doAllRecords 15 q Q = mt_go [o_aload 0] q (mt_kk cd_TC_doAllRecords Q (o_callV sm_TC_doOldestRecord 8 1 19)) := mt_blk rfl q Q
theorem k_TC_doAllRecords_19 (q : m_C) (Q : m_R → Prop) : mt_T cd_TC_doAllRecords 19 q Q = mt_go [o_iinc 2 (nI 1)] q (mt_kk cd_TC_doAllRecords Q (o_fall 10)) := mt_blk rfl q Q
theorem k_TC_doAllRecords_25 (q : m_C) (Q : m_R → Prop) : mt_T cd_TC_doAllRecords 25 q Q = mt_go [] q (mt_kk cd_TC_doAllRecords Q (o_ret)) := mt_blk rfl q Q
-- TreeCarrier.sendEntries ()V
noncomputable def cd_TC_sendEntries : List m_B := [(0, [o_const (nI 0), o_istore 1], o_fall 2), (2, [o_iload 1, o_const (nI 12)], o_icge 65 8), (8, [o_aload 0, o_const (nI 0), o_iload 1], o_callV sm_TC_fileOf 8 3 14), (14, [o_astore 2, o_aload 2], o_ifnull 59 19), (19, [o_aload 0, o_get 8 1, o_iload 1], o_callV sm_Ru_select 6 2 27), (27, [], o_ifeq 59 30), (30, [o_aload 0, o_get 8 3, o_const (nI 1), o_iload 1], o_callV sm_Li_append 3 3 39), (39, [o_astore 3, o_aload 3, o_aload 2, o_get 7 0, o_get 5 1, o_putI 4 2, o_aload 3, o_aload 2, o_get 7 2, o_putI 4 3], o_fall 59), (59, [o_iinc 1 (nI 1)], o_fall 2), (65, [o_aload 0, o_get 8 3, o_const (nI 2), o_const (nI 0)], o_callV sm_Li_append 3 3 74), (74, [o_pop], o_ret)]
noncomputable def sm_TC_sendEntries : List m_V → m_M → Option m_R := mt_sem cd_TC_sendEntries 4
theorem k_TC_sendEntries_0 (q : m_C) (Q : m_R → Prop) : mt_T cd_TC_sendEntries 0 q Q = mt_go [o_const (nI 0), o_istore 1] q (mt_kk cd_TC_sendEntries Q (o_fall 2)) := mt_blk rfl q Q
theorem k_TC_sendEntries_2 (q : m_C) (Q : m_R → Prop) : mt_T cd_TC_sendEntries 2 q Q = mt_go [o_iload 1, o_const (nI 12)] q (mt_kk cd_TC_sendEntries Q (o_icge 65 8)) := mt_blk rfl q Q
theorem k_TC_sendEntries_8 (q : m_C) (Q : m_R → Prop) : mt_T cd_TC_sendEntries 8 q Q = mt_go [o_aload 0, o_const (nI 0), o_iload 1] q (mt_kk cd_TC_sendEntries Q (o_callV sm_TC_fileOf 8 3 14)) := mt_blk rfl q Q
theorem k_TC_sendEntries_14 (q : m_C) (Q : m_R → Prop) : mt_T cd_TC_sendEntries 14 q Q = mt_go [o_astore 2, o_aload 2] q (mt_kk cd_TC_sendEntries Q (o_ifnull 59 19)) := mt_blk rfl q Q
theorem k_TC_sendEntries_19 (q : m_C) (Q : m_R → Prop) : mt_T cd_TC_sendEntries 19 q Q = mt_go [o_aload 0, o_get 8 1, o_iload 1] q (mt_kk cd_TC_sendEntries Q (o_callV sm_Ru_select 6 2 27)) := mt_blk rfl q Q
theorem k_TC_sendEntries_27 (q : m_C) (Q : m_R → Prop) : mt_T cd_TC_sendEntries 27 q Q = mt_go [] q (mt_kk cd_TC_sendEntries Q (o_ifeq 59 30)) := mt_blk rfl q Q
theorem k_TC_sendEntries_30 (q : m_C) (Q : m_R → Prop) : mt_T cd_TC_sendEntries 30 q Q = mt_go [o_aload 0, o_get 8 3, o_const (nI 1), o_iload 1] q (mt_kk cd_TC_sendEntries Q (o_callV sm_Li_append 3 3 39)) := mt_blk rfl q Q
theorem k_TC_sendEntries_39 (q : m_C) (Q : m_R → Prop) : mt_T cd_TC_sendEntries 39 q Q = mt_go [o_astore 3, o_aload 3, o_aload 2, o_get 7 0, o_get 5 1, o_putI 4 2, o_aload 3, o_aload 2, o_get 7 2, o_putI 4 3] q (mt_kk cd_TC_sendEntries Q (o_fall 59)) := mt_blk rfl q Q
theorem k_TC_sendEntries_59 (q : m_C) (Q : m_R → Prop) : mt_T cd_TC_sendEntries 59 q Q = mt_go [o_iinc 1 (nI 1)] q (mt_kk cd_TC_sendEntries Q (o_fall 2)) := mt_blk rfl q Q
theorem k_TC_sendEntries_65 (q : m_C) (Q : m_R → Prop) : mt_T cd_TC_sendEntries 65 q Q = mt_go [o_aload 0, o_get 8 3, o_const (nI 2), o_const (nI 0)] q (mt_kk cd_TC_sendEntries Q (o_callV sm_Li_append 3 3 74)) := mt_blk rfl q Q
theorem k_TC_sendEntries_74 (q : m_C) (Q : m_R → Prop) : mt_T cd_TC_sendEntries 74 q Q = mt_go [o_pop] q (mt_kk cd_TC_sendEntries Q (o_ret)) := mt_blk rfl q Q
-- TreeCarrier.begin (IZ)Z
noncomputable def cd_TC_begin : List m_B := [(0, [o_aload 0, o_get 8 9], o_ifne 18 7), (7, [o_iload 1, o_const (nI 1)], o_iclt 18 12), (12, [o_iload 1, o_const (nI 8)], o_icle 20 18), (18, [o_const (nI 0)], o_zret), (20, [o_aload 0], o_callV sm_TC_doAllRecords 8 1 24), (24, [o_aload 0, o_const (nI 1), o_putZ 8 9, o_aload 0, o_iload 2, o_putZ 8 10, o_aload 0, o_iload 1, o_putI 8 11, o_aload 0], o_callV sm_TC_sendEntries 8 1 43), (43, [o_const (nI 1)], o_zret)]
noncomputable def sm_TC_begin : List m_V → m_M → Option m_R := mt_sem cd_TC_begin 3
theorem k_TC_begin_0 (q : m_C) (Q : m_R → Prop) : mt_T cd_TC_begin 0 q Q = mt_go [o_aload 0, o_get 8 9] q (mt_kk cd_TC_begin Q (o_ifne 18 7)) := mt_blk rfl q Q
theorem k_TC_begin_7 (q : m_C) (Q : m_R → Prop) : mt_T cd_TC_begin 7 q Q = mt_go [o_iload 1, o_const (nI 1)] q (mt_kk cd_TC_begin Q (o_iclt 18 12)) := mt_blk rfl q Q
theorem k_TC_begin_12 (q : m_C) (Q : m_R → Prop) : mt_T cd_TC_begin 12 q Q = mt_go [o_iload 1, o_const (nI 8)] q (mt_kk cd_TC_begin Q (o_icle 20 18)) := mt_blk rfl q Q
theorem k_TC_begin_18 (q : m_C) (Q : m_R → Prop) : mt_T cd_TC_begin 18 q Q = mt_go [o_const (nI 0)] q (mt_kk cd_TC_begin Q (o_zret)) := mt_blk rfl q Q
theorem k_TC_begin_20 (q : m_C) (Q : m_R → Prop) : mt_T cd_TC_begin 20 q Q = mt_go [o_aload 0] q (mt_kk cd_TC_begin Q (o_callV sm_TC_doAllRecords 8 1 24)) := mt_blk rfl q Q
theorem k_TC_begin_24 (q : m_C) (Q : m_R → Prop) : mt_T cd_TC_begin 24 q Q = mt_go [o_aload 0, o_const (nI 1), o_putZ 8 9, o_aload 0, o_iload 2, o_putZ 8 10, o_aload 0, o_iload 1, o_putI 8 11, o_aload 0] q (mt_kk cd_TC_begin Q (o_callV sm_TC_sendEntries 8 1 43)) := mt_blk rfl q Q
theorem k_TC_begin_43 (q : m_C) (Q : m_R → Prop) : mt_T cd_TC_begin 43 q Q = mt_go [o_const (nI 1)] q (mt_kk cd_TC_begin Q (o_zret)) := mt_blk rfl q Q
-- TreeCarrier.lineOf (I)LTreeCarrier$Line;
noncomputable def cd_TC_lineOf : List m_B := [(0, [o_iload 1], o_ifne 9 4), (4, [o_aload 0, o_get 8 2], o_aret), (9, [o_iload 1, o_const (nI 1)], o_icne 21 14), (14, [o_aload 0, o_get 8 3], o_fall 22), (21, [o_null], o_fall 22), (22, [], o_aret)]
noncomputable def sm_TC_lineOf : List m_V → m_M → Option m_R := mt_sem cd_TC_lineOf 2
theorem k_TC_lineOf_0 (q : m_C) (Q : m_R → Prop) : mt_T cd_TC_lineOf 0 q Q = mt_go [o_iload 1] q (mt_kk cd_TC_lineOf Q (o_ifne 9 4)) := mt_blk rfl q Q
theorem k_TC_lineOf_4 (q : m_C) (Q : m_R → Prop) : mt_T cd_TC_lineOf 4 q Q = mt_go [o_aload 0, o_get 8 2] q (mt_kk cd_TC_lineOf Q (o_aret)) := mt_blk rfl q Q
theorem k_TC_lineOf_9 (q : m_C) (Q : m_R → Prop) : mt_T cd_TC_lineOf 9 q Q = mt_go [o_iload 1, o_const (nI 1)] q (mt_kk cd_TC_lineOf Q (o_icne 21 14)) := mt_blk rfl q Q
theorem k_TC_lineOf_14 (q : m_C) (Q : m_R → Prop) : mt_T cd_TC_lineOf 14 q Q = mt_go [o_aload 0, o_get 8 3] q (mt_kk cd_TC_lineOf Q (o_fall 22)) := mt_blk rfl q Q
theorem k_TC_lineOf_21 (q : m_C) (Q : m_R → Prop) : mt_T cd_TC_lineOf 21 q Q = mt_go [o_null] q (mt_kk cd_TC_lineOf Q (o_fall 22)) := mt_blk rfl q Q
theorem k_TC_lineOf_22 (q : m_C) (Q : m_R → Prop) : mt_T cd_TC_lineOf 22 q Q = mt_go [] q (mt_kk cd_TC_lineOf Q (o_aret)) := mt_blk rfl q Q
-- TreeCarrier.entryOf (I)LTreeCarrier$Entry;
noncomputable def cd_TC_entryOf : List m_B := [(0, [o_iload 1], o_callS sm_TC_isName 1 4), (4, [], o_ifeq 16 7), (7, [o_aload 0, o_get 8 4, o_iload 1, o_aald 4], o_fall 17), (16, [o_null], o_fall 17), (17, [], o_aret)]
noncomputable def sm_TC_entryOf : List m_V → m_M → Option m_R := mt_sem cd_TC_entryOf 2
theorem k_TC_entryOf_0 (q : m_C) (Q : m_R → Prop) : mt_T cd_TC_entryOf 0 q Q = mt_go [o_iload 1] q (mt_kk cd_TC_entryOf Q (o_callS sm_TC_isName 1 4)) := mt_blk rfl q Q
theorem k_TC_entryOf_4 (q : m_C) (Q : m_R → Prop) : mt_T cd_TC_entryOf 4 q Q = mt_go [] q (mt_kk cd_TC_entryOf Q (o_ifeq 16 7)) := mt_blk rfl q Q
theorem k_TC_entryOf_7 (q : m_C) (Q : m_R → Prop) : mt_T cd_TC_entryOf 7 q Q = mt_go [o_aload 0, o_get 8 4, o_iload 1, o_aald 4] q (mt_kk cd_TC_entryOf Q (o_fall 17)) := mt_blk rfl q Q
theorem k_TC_entryOf_16 (q : m_C) (Q : m_R → Prop) : mt_T cd_TC_entryOf 16 q Q = mt_go [o_null] q (mt_kk cd_TC_entryOf Q (o_fall 17)) := mt_blk rfl q Q
theorem k_TC_entryOf_17 (q : m_C) (Q : m_R → Prop) : mt_T cd_TC_entryOf 17 q Q = mt_go [] q (mt_kk cd_TC_entryOf Q (o_aret)) := mt_blk rfl q Q
-- TreeCarrier.noteEntry (LTreeCarrier$Message;)V
noncomputable def cd_TC_noteEntry : List m_B := [(0, [o_aload 0, o_aload 1, o_get 4 1], o_callV sm_TC_entryOf 8 2 8), (8, [o_astore 2, o_aload 2], o_ifnull 34 13), (13, [o_aload 2, o_const (nI 1), o_putZ 0 0, o_aload 2, o_aload 1, o_get 4 2, o_putI 0 2, o_aload 2, o_aload 1, o_get 4 3, o_putI 0 3], o_fall 34), (34, [], o_ret)]
noncomputable def sm_TC_noteEntry : List m_V → m_M → Option m_R := mt_sem cd_TC_noteEntry 3
theorem k_TC_noteEntry_0 (q : m_C) (Q : m_R → Prop) : mt_T cd_TC_noteEntry 0 q Q = mt_go [o_aload 0, o_aload 1, o_get 4 1] q (mt_kk cd_TC_noteEntry Q (o_callV sm_TC_entryOf 8 2 8)) := mt_blk rfl q Q
theorem k_TC_noteEntry_8 (q : m_C) (Q : m_R → Prop) : mt_T cd_TC_noteEntry 8 q Q = mt_go [o_astore 2, o_aload 2] q (mt_kk cd_TC_noteEntry Q (o_ifnull 34 13)) := mt_blk rfl q Q
theorem k_TC_noteEntry_13 (q : m_C) (Q : m_R → Prop) : mt_T cd_TC_noteEntry 13 q Q = mt_go [o_aload 2, o_const (nI 1), o_putZ 0 0, o_aload 2, o_aload 1, o_get 4 2, o_putI 0 2, o_aload 2, o_aload 1, o_get 4 3, o_putI 0 3] q (mt_kk cd_TC_noteEntry Q (o_fall 34)) := mt_blk rfl q Q
theorem k_TC_noteEntry_34 (q : m_C) (Q : m_R → Prop) : mt_T cd_TC_noteEntry 34 q Q = mt_go [] q (mt_kk cd_TC_noteEntry Q (o_ret)) := mt_blk rfl q Q
-- TreeCarrier.sendSignature (II)V
noncomputable def cd_TC_sendSignature : List m_B := [(0, [o_aload 0, o_const (nI 1), o_iload 1], o_callV sm_TC_slotOf 8 3 6), (6, [o_astore 3, o_aload 3], o_ifnonnull 12 11), (11, [], o_ret), (12, [o_aload 0, o_get 8 2, o_const (nI 3), o_iload 1], o_callV sm_Li_append 3 3 21), (21, [o_astore 4, o_aload 4, o_iload 2, o_putI 4 4, o_aload 0, o_get 8 11, o_const (nI 1)], o_icge 41 37), (37, [o_const (nI 0)], o_fall 53), (41, [o_aload 3, o_get 7 0, o_get 5 1, o_aload 0, o_get 8 11, o_div], o_fall 53), (53, [o_istore 5, o_const (nI 0), o_istore 6], o_fall 58), (58, [o_iload 6, o_iload 5], o_icge 95 65), (65, [o_aload 4, o_aload 3, o_get 7 0, o_iload 6, o_aload 0, o_get 8 11, o_mul, o_aload 0, o_get 8 11, o_iload 2], o_callV sm_Ro_sums 5 4 86), (86, [], o_callV sm_Ms_addItem 4 2 89), (89, [o_iinc 6 (nI 1)], o_fall 58), (95, [], o_ret)]
noncomputable def sm_TC_sendSignature : List m_V → m_M → Option m_R := mt_sem cd_TC_sendSignature 7
theorem k_TC_sendSignature_0 (q : m_C) (Q : m_R → Prop) : mt_T cd_TC_sendSignature 0 q Q = mt_go [o_aload 0, o_const (nI 1), o_iload 1] q (mt_kk cd_TC_sendSignature Q (o_callV sm_TC_slotOf 8 3 6)) := mt_blk rfl q Q
theorem k_TC_sendSignature_6 (q : m_C) (Q : m_R → Prop) : mt_T cd_TC_sendSignature 6 q Q = mt_go [o_astore 3, o_aload 3] q (mt_kk cd_TC_sendSignature Q (o_ifnonnull 12 11)) := mt_blk rfl q Q
theorem k_TC_sendSignature_11 (q : m_C) (Q : m_R → Prop) : mt_T cd_TC_sendSignature 11 q Q = mt_go [] q (mt_kk cd_TC_sendSignature Q (o_ret)) := mt_blk rfl q Q
theorem k_TC_sendSignature_12 (q : m_C) (Q : m_R → Prop) : mt_T cd_TC_sendSignature 12 q Q = mt_go [o_aload 0, o_get 8 2, o_const (nI 3), o_iload 1] q (mt_kk cd_TC_sendSignature Q (o_callV sm_Li_append 3 3 21)) := mt_blk rfl q Q
theorem k_TC_sendSignature_21 (q : m_C) (Q : m_R → Prop) : mt_T cd_TC_sendSignature 21 q Q = mt_go [o_astore 4, o_aload 4, o_iload 2, o_putI 4 4, o_aload 0, o_get 8 11, o_const (nI 1)] q (mt_kk cd_TC_sendSignature Q (o_icge 41 37)) := mt_blk rfl q Q
theorem k_TC_sendSignature_37 (q : m_C) (Q : m_R → Prop) : mt_T cd_TC_sendSignature 37 q Q = mt_go [o_const (nI 0)] q (mt_kk cd_TC_sendSignature Q (o_fall 53)) := mt_blk rfl q Q
theorem k_TC_sendSignature_41 (q : m_C) (Q : m_R → Prop) : mt_T cd_TC_sendSignature 41 q Q = mt_go [o_aload 3, o_get 7 0, o_get 5 1, o_aload 0, o_get 8 11, o_div] q (mt_kk cd_TC_sendSignature Q (o_fall 53)) := mt_blk rfl q Q
theorem k_TC_sendSignature_53 (q : m_C) (Q : m_R → Prop) : mt_T cd_TC_sendSignature 53 q Q = mt_go [o_istore 5, o_const (nI 0), o_istore 6] q (mt_kk cd_TC_sendSignature Q (o_fall 58)) := mt_blk rfl q Q
theorem k_TC_sendSignature_58 (q : m_C) (Q : m_R → Prop) : mt_T cd_TC_sendSignature 58 q Q = mt_go [o_iload 6, o_iload 5] q (mt_kk cd_TC_sendSignature Q (o_icge 95 65)) := mt_blk rfl q Q
theorem k_TC_sendSignature_65 (q : m_C) (Q : m_R → Prop) : mt_T cd_TC_sendSignature 65 q Q = mt_go [o_aload 4, o_aload 3, o_get 7 0, o_iload 6, o_aload 0, o_get 8 11, o_mul, o_aload 0, o_get 8 11, o_iload 2] q (mt_kk cd_TC_sendSignature Q (o_callV sm_Ro_sums 5 4 86)) := mt_blk rfl q Q
theorem k_TC_sendSignature_86 (q : m_C) (Q : m_R → Prop) : mt_T cd_TC_sendSignature 86 q Q = mt_go [] q (mt_kk cd_TC_sendSignature Q (o_callV sm_Ms_addItem 4 2 89)) := mt_blk rfl q Q
theorem k_TC_sendSignature_89 (q : m_C) (Q : m_R → Prop) : mt_T cd_TC_sendSignature 89 q Q = mt_go [o_iinc 6 (nI 1)] q (mt_kk cd_TC_sendSignature Q (o_fall 58)) := mt_blk rfl q Q
theorem k_TC_sendSignature_95 (q : m_C) (Q : m_R → Prop) : mt_T cd_TC_sendSignature 95 q Q = mt_go [] q (mt_kk cd_TC_sendSignature Q (o_ret)) := mt_blk rfl q Q
-- TreeCarrier.openEntries ()V
noncomputable def cd_TC_openEntries : List m_B := [(0, [o_const (nI 0), o_istore 1], o_fall 2), (2, [o_iload 1, o_const (nI 12)], o_icge 68 8), (8, [o_aload 0, o_get 8 4, o_iload 1, o_aald 4, o_astore 2, o_aload 2, o_get 0 0], o_ifne 25 22), (22, [], o_fall 62), (25, [o_aload 2, o_aload 0, o_const (nI 1), o_iload 1], o_callV sm_TC_fileOf 8 3 32), (32, [], o_callV sm_En_agreesWith 0 2 35), (35, [], o_ifeq 51 38), (38, [o_aload 0, o_get 8 7, o_const (nI 5), o_dup2, o_iald, o_const (nI 1), o_add, o_iast], o_fall 62), (51, [o_aload 2, o_const (nI 1), o_putZ 0 1, o_aload 0, o_iload 1, o_const (nI 1)], o_callV sm_TC_sendSignature 8 3 62), (62, [o_iinc 1 (nI 1)], o_fall 2), (68, [], o_ret)]
noncomputable def sm_TC_openEntries : List m_V → m_M → Option m_R := mt_sem cd_TC_openEntries 3
theorem k_TC_openEntries_0 (q : m_C) (Q : m_R → Prop) : mt_T cd_TC_openEntries 0 q Q = mt_go [o_const (nI 0), o_istore 1] q (mt_kk cd_TC_openEntries Q (o_fall 2)) := mt_blk rfl q Q
theorem k_TC_openEntries_2 (q : m_C) (Q : m_R → Prop) : mt_T cd_TC_openEntries 2 q Q = mt_go [o_iload 1, o_const (nI 12)] q (mt_kk cd_TC_openEntries Q (o_icge 68 8)) := mt_blk rfl q Q
theorem k_TC_openEntries_8 (q : m_C) (Q : m_R → Prop) : mt_T cd_TC_openEntries 8 q Q = mt_go [o_aload 0, o_get 8 4, o_iload 1, o_aald 4, o_astore 2, o_aload 2, o_get 0 0] q (mt_kk cd_TC_openEntries Q (o_ifne 25 22)) := mt_blk rfl q Q
theorem k_TC_openEntries_22 (q : m_C) (Q : m_R → Prop) : mt_T cd_TC_openEntries 22 q Q = mt_go [] q (mt_kk cd_TC_openEntries Q (o_fall 62)) := mt_blk rfl q Q
theorem k_TC_openEntries_25 (q : m_C) (Q : m_R → Prop) : mt_T cd_TC_openEntries 25 q Q = mt_go [o_aload 2, o_aload 0, o_const (nI 1), o_iload 1] q (mt_kk cd_TC_openEntries Q (o_callV sm_TC_fileOf 8 3 32)) := mt_blk rfl q Q
theorem k_TC_openEntries_32 (q : m_C) (Q : m_R → Prop) : mt_T cd_TC_openEntries 32 q Q = mt_go [] q (mt_kk cd_TC_openEntries Q (o_callV sm_En_agreesWith 0 2 35)) := mt_blk rfl q Q
theorem k_TC_openEntries_35 (q : m_C) (Q : m_R → Prop) : mt_T cd_TC_openEntries 35 q Q = mt_go [] q (mt_kk cd_TC_openEntries Q (o_ifeq 51 38)) := mt_blk rfl q Q
theorem k_TC_openEntries_38 (q : m_C) (Q : m_R → Prop) : mt_T cd_TC_openEntries 38 q Q = mt_go [o_aload 0, o_get 8 7, o_const (nI 5), o_dup2, o_iald, o_const (nI 1), o_add, o_iast] q (mt_kk cd_TC_openEntries Q (o_fall 62)) := mt_blk rfl q Q
theorem k_TC_openEntries_51 (q : m_C) (Q : m_R → Prop) : mt_T cd_TC_openEntries 51 q Q = mt_go [o_aload 2, o_const (nI 1), o_putZ 0 1, o_aload 0, o_iload 1, o_const (nI 1)] q (mt_kk cd_TC_openEntries Q (o_callV sm_TC_sendSignature 8 3 62)) := mt_blk rfl q Q
theorem k_TC_openEntries_62 (q : m_C) (Q : m_R → Prop) : mt_T cd_TC_openEntries 62 q Q = mt_go [o_iinc 1 (nI 1)] q (mt_kk cd_TC_openEntries Q (o_fall 2)) := mt_blk rfl q Q
theorem k_TC_openEntries_68 (q : m_C) (Q : m_R → Prop) : mt_T cd_TC_openEntries 68 q Q = mt_go [] q (mt_kk cd_TC_openEntries Q (o_ret)) := mt_blk rfl q Q
-- TreeCarrier.rebuild (LTreeCarrier$Row;LTreeCarrier$Message;)V
noncomputable def cd_TC_rebuild : List m_B := [(0, [o_aload 0, o_get 8 6], o_callV sm_Ro_clear 5 1 7), (7, [o_const (nI 0), o_istore 3], o_fall 9), (9, [o_iload 3, o_aload 2, o_get 4 6], o_icge 74 17), (17, [o_aload 2, o_get 4 7, o_iload 3, o_iald, o_istore 4, o_iload 4, o_const (nI 256)], o_icge 45 33), (33, [o_aload 0, o_get 8 6, o_iload 4], o_callV sm_Ro_append 5 2 42), (42, [], o_fall 68), (45, [o_aload 0, o_get 8 6, o_aload 1, o_iload 4, o_const (nI 256), o_sub, o_aload 0, o_get 8 11, o_mul, o_aload 0, o_get 8 11], o_callV sm_Ro_appendPart 5 4 68), (68, [o_iinc 3 (nI 1)], o_fall 9), (74, [], o_ret)]
noncomputable def sm_TC_rebuild : List m_V → m_M → Option m_R := mt_sem cd_TC_rebuild 5
theorem k_TC_rebuild_0 (q : m_C) (Q : m_R → Prop) : mt_T cd_TC_rebuild 0 q Q = mt_go [o_aload 0, o_get 8 6] q (mt_kk cd_TC_rebuild Q (o_callV sm_Ro_clear 5 1 7)) := mt_blk rfl q Q
theorem k_TC_rebuild_7 (q : m_C) (Q : m_R → Prop) : mt_T cd_TC_rebuild 7 q Q = mt_go [o_const (nI 0), o_istore 3] q (mt_kk cd_TC_rebuild Q (o_fall 9)) := mt_blk rfl q Q
theorem k_TC_rebuild_9 (q : m_C) (Q : m_R → Prop) : mt_T cd_TC_rebuild 9 q Q = mt_go [o_iload 3, o_aload 2, o_get 4 6] q (mt_kk cd_TC_rebuild Q (o_icge 74 17)) := mt_blk rfl q Q
theorem k_TC_rebuild_17 (q : m_C) (Q : m_R → Prop) : mt_T cd_TC_rebuild 17 q Q = mt_go [o_aload 2, o_get 4 7, o_iload 3, o_iald, o_istore 4, o_iload 4, o_const (nI 256)] q (mt_kk cd_TC_rebuild Q (o_icge 45 33)) := mt_blk rfl q Q
theorem k_TC_rebuild_33 (q : m_C) (Q : m_R → Prop) : mt_T cd_TC_rebuild 33 q Q = mt_go [o_aload 0, o_get 8 6, o_iload 4] q (mt_kk cd_TC_rebuild Q (o_callV sm_Ro_append 5 2 42)) := mt_blk rfl q Q
theorem k_TC_rebuild_42 (q : m_C) (Q : m_R → Prop) : mt_T cd_TC_rebuild 42 q Q = mt_go [] q (mt_kk cd_TC_rebuild Q (o_fall 68)) := mt_blk rfl q Q
theorem k_TC_rebuild_45 (q : m_C) (Q : m_R → Prop) : mt_T cd_TC_rebuild 45 q Q = mt_go [o_aload 0, o_get 8 6, o_aload 1, o_iload 4, o_const (nI 256), o_sub, o_aload 0, o_get 8 11, o_mul, o_aload 0, o_get 8 11] q (mt_kk cd_TC_rebuild Q (o_callV sm_Ro_appendPart 5 4 68)) := mt_blk rfl q Q
theorem k_TC_rebuild_68 (q : m_C) (Q : m_R → Prop) : mt_T cd_TC_rebuild 68 q Q = mt_go [o_iinc 3 (nI 1)] q (mt_kk cd_TC_rebuild Q (o_fall 9)) := mt_blk rfl q Q
theorem k_TC_rebuild_74 (q : m_C) (Q : m_R → Prop) : mt_T cd_TC_rebuild 74 q Q = mt_go [] q (mt_kk cd_TC_rebuild Q (o_ret)) := mt_blk rfl q Q
-- TreeCarrier.failEntry (I)V
noncomputable def cd_TC_failEntry : List m_B := [(0, [o_aload 0, o_iload 1], o_callV sm_TC_entryOf 8 2 5), (5, [o_astore 2, o_aload 2], o_ifnull 25 10), (10, [o_aload 2, o_const (nI 0), o_putZ 0 1, o_aload 0, o_get 8 7, o_const (nI 3), o_dup2, o_iald, o_const (nI 1), o_add, o_iast], o_fall 25), (25, [], o_ret)]
noncomputable def sm_TC_failEntry : List m_V → m_M → Option m_R := mt_sem cd_TC_failEntry 3
theorem k_TC_failEntry_0 (q : m_C) (Q : m_R → Prop) : mt_T cd_TC_failEntry 0 q Q = mt_go [o_aload 0, o_iload 1] q (mt_kk cd_TC_failEntry Q (o_callV sm_TC_entryOf 8 2 5)) := mt_blk rfl q Q
theorem k_TC_failEntry_5 (q : m_C) (Q : m_R → Prop) : mt_T cd_TC_failEntry 5 q Q = mt_go [o_astore 2, o_aload 2] q (mt_kk cd_TC_failEntry Q (o_ifnull 25 10)) := mt_blk rfl q Q
theorem k_TC_failEntry_10 (q : m_C) (Q : m_R → Prop) : mt_T cd_TC_failEntry 10 q Q = mt_go [o_aload 2, o_const (nI 0), o_putZ 0 1, o_aload 0, o_get 8 7, o_const (nI 3), o_dup2, o_iald, o_const (nI 1), o_add, o_iast] q (mt_kk cd_TC_failEntry Q (o_fall 25)) := mt_blk rfl q Q
theorem k_TC_failEntry_25 (q : m_C) (Q : m_R → Prop) : mt_T cd_TC_failEntry 25 q Q = mt_go [] q (mt_kk cd_TC_failEntry Q (o_ret)) := mt_blk rfl q Q
-- TreeCarrier.receiveDelta (LTreeCarrier$Message;)V
noncomputable def cd_TC_receiveDelta : List m_B := [(0, [o_aload 0, o_aload 1, o_get 4 1], o_callV sm_TC_entryOf 8 2 8), (8, [o_astore 2, o_aload 0, o_const (nI 1), o_aload 1, o_get 4 1], o_callV sm_TC_slotOf 8 3 18), (18, [o_astore 3, o_aload 2], o_ifnull 27 23), (23, [o_aload 3], o_ifnonnull 28 27), (27, [], o_ret), (28, [o_aload 0, o_aload 3, o_get 7 0, o_aload 1], o_callV sm_TC_rebuild 8 3 37), (37, [o_aload 0, o_get 8 6], o_callV sm_Ro_digest 5 1 44), (44, [o_aload 1, o_get 4 5], o_icne 78 51), (51, [o_aload 0, o_get 8 5, o_aload 1, o_get 4 1, o_aload 0, o_get 8 6, o_aload 2, o_get 0 3], o_callV sm_Jo_append 1 4 70), (70, [o_aload 2, o_const (nI 0), o_putZ 0 1], o_fall 116), (78, [o_aload 1, o_get 4 4, o_const (nI 1)], o_icne 108 86), (86, [o_aload 0, o_get 8 7, o_const (nI 2), o_dup2, o_iald, o_const (nI 1), o_add, o_iast, o_aload 0, o_aload 1, o_get 4 1, o_const (nI 2)], o_callV sm_TC_sendSignature 8 3 105), (105, [], o_fall 116), (108, [o_aload 0, o_aload 1, o_get 4 1], o_callV sm_TC_failEntry 8 2 116), (116, [], o_ret)]
noncomputable def sm_TC_receiveDelta : List m_V → m_M → Option m_R := mt_sem cd_TC_receiveDelta 4
theorem k_TC_receiveDelta_0 (q : m_C) (Q : m_R → Prop) : mt_T cd_TC_receiveDelta 0 q Q = mt_go [o_aload 0, o_aload 1, o_get 4 1] q (mt_kk cd_TC_receiveDelta Q (o_callV sm_TC_entryOf 8 2 8)) := mt_blk rfl q Q
theorem k_TC_receiveDelta_8 (q : m_C) (Q : m_R → Prop) : mt_T cd_TC_receiveDelta 8 q Q = mt_go [o_astore 2, o_aload 0, o_const (nI 1), o_aload 1, o_get 4 1] q (mt_kk cd_TC_receiveDelta Q (o_callV sm_TC_slotOf 8 3 18)) := mt_blk rfl q Q
theorem k_TC_receiveDelta_18 (q : m_C) (Q : m_R → Prop) : mt_T cd_TC_receiveDelta 18 q Q = mt_go [o_astore 3, o_aload 2] q (mt_kk cd_TC_receiveDelta Q (o_ifnull 27 23)) := mt_blk rfl q Q
theorem k_TC_receiveDelta_23 (q : m_C) (Q : m_R → Prop) : mt_T cd_TC_receiveDelta 23 q Q = mt_go [o_aload 3] q (mt_kk cd_TC_receiveDelta Q (o_ifnonnull 28 27)) := mt_blk rfl q Q
theorem k_TC_receiveDelta_27 (q : m_C) (Q : m_R → Prop) : mt_T cd_TC_receiveDelta 27 q Q = mt_go [] q (mt_kk cd_TC_receiveDelta Q (o_ret)) := mt_blk rfl q Q
theorem k_TC_receiveDelta_28 (q : m_C) (Q : m_R → Prop) : mt_T cd_TC_receiveDelta 28 q Q = mt_go [o_aload 0, o_aload 3, o_get 7 0, o_aload 1] q (mt_kk cd_TC_receiveDelta Q (o_callV sm_TC_rebuild 8 3 37)) := mt_blk rfl q Q
theorem k_TC_receiveDelta_37 (q : m_C) (Q : m_R → Prop) : mt_T cd_TC_receiveDelta 37 q Q = mt_go [o_aload 0, o_get 8 6] q (mt_kk cd_TC_receiveDelta Q (o_callV sm_Ro_digest 5 1 44)) := mt_blk rfl q Q
theorem k_TC_receiveDelta_44 (q : m_C) (Q : m_R → Prop) : mt_T cd_TC_receiveDelta 44 q Q = mt_go [o_aload 1, o_get 4 5] q (mt_kk cd_TC_receiveDelta Q (o_icne 78 51)) := mt_blk rfl q Q
theorem k_TC_receiveDelta_51 (q : m_C) (Q : m_R → Prop) : mt_T cd_TC_receiveDelta 51 q Q = mt_go [o_aload 0, o_get 8 5, o_aload 1, o_get 4 1, o_aload 0, o_get 8 6, o_aload 2, o_get 0 3] q (mt_kk cd_TC_receiveDelta Q (o_callV sm_Jo_append 1 4 70)) := mt_blk rfl q Q
theorem k_TC_receiveDelta_70 (q : m_C) (Q : m_R → Prop) : mt_T cd_TC_receiveDelta 70 q Q = mt_go [o_aload 2, o_const (nI 0), o_putZ 0 1] q (mt_kk cd_TC_receiveDelta Q (o_fall 116)) := mt_blk rfl q Q
theorem k_TC_receiveDelta_78 (q : m_C) (Q : m_R → Prop) : mt_T cd_TC_receiveDelta 78 q Q = mt_go [o_aload 1, o_get 4 4, o_const (nI 1)] q (mt_kk cd_TC_receiveDelta Q (o_icne 108 86)) := mt_blk rfl q Q
theorem k_TC_receiveDelta_86 (q : m_C) (Q : m_R → Prop) : mt_T cd_TC_receiveDelta 86 q Q = mt_go [o_aload 0, o_get 8 7, o_const (nI 2), o_dup2, o_iald, o_const (nI 1), o_add, o_iast, o_aload 0, o_aload 1, o_get 4 1, o_const (nI 2)] q (mt_kk cd_TC_receiveDelta Q (o_callV sm_TC_sendSignature 8 3 105)) := mt_blk rfl q Q
theorem k_TC_receiveDelta_105 (q : m_C) (Q : m_R → Prop) : mt_T cd_TC_receiveDelta 105 q Q = mt_go [] q (mt_kk cd_TC_receiveDelta Q (o_fall 116)) := mt_blk rfl q Q
theorem k_TC_receiveDelta_108 (q : m_C) (Q : m_R → Prop) : mt_T cd_TC_receiveDelta 108 q Q = mt_go [o_aload 0, o_aload 1, o_get 4 1] q (mt_kk cd_TC_receiveDelta Q (o_callV sm_TC_failEntry 8 2 116)) := mt_blk rfl q Q
theorem k_TC_receiveDelta_116 (q : m_C) (Q : m_R → Prop) : mt_T cd_TC_receiveDelta 116 q Q = mt_go [] q (mt_kk cd_TC_receiveDelta Q (o_ret)) := mt_blk rfl q Q
-- TreeCarrier.hasOpenEntry ()Z
noncomputable def cd_TC_hasOpenEntry : List m_B := [(0, [o_const (nI 0), o_istore 1], o_fall 2), (2, [o_iload 1, o_const (nI 12)], o_icge 28 8), (8, [o_aload 0, o_get 8 4, o_iload 1, o_aald 4, o_get 0 1], o_ifeq 22 20), (20, [o_const (nI 1)], o_zret), (22, [o_iinc 1 (nI 1)], o_fall 2), (28, [o_const (nI 0)], o_zret)]
noncomputable def sm_TC_hasOpenEntry : List m_V → m_M → Option m_R := mt_sem cd_TC_hasOpenEntry 2
theorem k_TC_hasOpenEntry_0 (q : m_C) (Q : m_R → Prop) : mt_T cd_TC_hasOpenEntry 0 q Q = mt_go [o_const (nI 0), o_istore 1] q (mt_kk cd_TC_hasOpenEntry Q (o_fall 2)) := mt_blk rfl q Q
theorem k_TC_hasOpenEntry_2 (q : m_C) (Q : m_R → Prop) : mt_T cd_TC_hasOpenEntry 2 q Q = mt_go [o_iload 1, o_const (nI 12)] q (mt_kk cd_TC_hasOpenEntry Q (o_icge 28 8)) := mt_blk rfl q Q
theorem k_TC_hasOpenEntry_8 (q : m_C) (Q : m_R → Prop) : mt_T cd_TC_hasOpenEntry 8 q Q = mt_go [o_aload 0, o_get 8 4, o_iload 1, o_aald 4, o_get 0 1] q (mt_kk cd_TC_hasOpenEntry Q (o_ifeq 22 20)) := mt_blk rfl q Q
theorem k_TC_hasOpenEntry_20 (q : m_C) (Q : m_R → Prop) : mt_T cd_TC_hasOpenEntry 20 q Q = mt_go [o_const (nI 1)] q (mt_kk cd_TC_hasOpenEntry Q (o_zret)) := mt_blk rfl q Q
theorem k_TC_hasOpenEntry_22 (q : m_C) (Q : m_R → Prop) : mt_T cd_TC_hasOpenEntry 22 q Q = mt_go [o_iinc 1 (nI 1)] q (mt_kk cd_TC_hasOpenEntry Q (o_fall 2)) := mt_blk rfl q Q
theorem k_TC_hasOpenEntry_28 (q : m_C) (Q : m_R → Prop) : mt_T cd_TC_hasOpenEntry 28 q Q = mt_go [o_const (nI 0)] q (mt_kk cd_TC_hasOpenEntry Q (o_zret)) := mt_blk rfl q Q
-- TreeCarrier.deleteUnlisted ()V
noncomputable def cd_TC_deleteUnlisted : List m_B := [(0, [o_const (nI 0), o_istore 1], o_fall 2), (2, [o_iload 1, o_const (nI 12)], o_icge 63 8), (8, [o_aload 0, o_const (nI 1), o_iload 1], o_callV sm_TC_fileOf 8 3 14), (14, [o_astore 2, o_aload 2], o_ifnull 57 19), (19, [o_aload 0, o_get 8 1, o_iload 1], o_callV sm_Ru_select 6 2 27), (27, [], o_ifeq 57 30), (30, [o_aload 0, o_get 8 4, o_iload 1, o_aald 4, o_get 0 0], o_ifne 57 42), (42, [o_aload 2], o_callV sm_Sf_erase 7 1 46), (46, [o_aload 0, o_get 8 7, o_const (nI 6), o_dup2, o_iald, o_const (nI 1), o_add, o_iast], o_fall 57), (57, [o_iinc 1 (nI 1)], o_fall 2), (63, [], o_ret)]
noncomputable def sm_TC_deleteUnlisted : List m_V → m_M → Option m_R := mt_sem cd_TC_deleteUnlisted 3
theorem k_TC_deleteUnlisted_0 (q : m_C) (Q : m_R → Prop) : mt_T cd_TC_deleteUnlisted 0 q Q = mt_go [o_const (nI 0), o_istore 1] q (mt_kk cd_TC_deleteUnlisted Q (o_fall 2)) := mt_blk rfl q Q
theorem k_TC_deleteUnlisted_2 (q : m_C) (Q : m_R → Prop) : mt_T cd_TC_deleteUnlisted 2 q Q = mt_go [o_iload 1, o_const (nI 12)] q (mt_kk cd_TC_deleteUnlisted Q (o_icge 63 8)) := mt_blk rfl q Q
theorem k_TC_deleteUnlisted_8 (q : m_C) (Q : m_R → Prop) : mt_T cd_TC_deleteUnlisted 8 q Q = mt_go [o_aload 0, o_const (nI 1), o_iload 1] q (mt_kk cd_TC_deleteUnlisted Q (o_callV sm_TC_fileOf 8 3 14)) := mt_blk rfl q Q
theorem k_TC_deleteUnlisted_14 (q : m_C) (Q : m_R → Prop) : mt_T cd_TC_deleteUnlisted 14 q Q = mt_go [o_astore 2, o_aload 2] q (mt_kk cd_TC_deleteUnlisted Q (o_ifnull 57 19)) := mt_blk rfl q Q
theorem k_TC_deleteUnlisted_19 (q : m_C) (Q : m_R → Prop) : mt_T cd_TC_deleteUnlisted 19 q Q = mt_go [o_aload 0, o_get 8 1, o_iload 1] q (mt_kk cd_TC_deleteUnlisted Q (o_callV sm_Ru_select 6 2 27)) := mt_blk rfl q Q
theorem k_TC_deleteUnlisted_27 (q : m_C) (Q : m_R → Prop) : mt_T cd_TC_deleteUnlisted 27 q Q = mt_go [] q (mt_kk cd_TC_deleteUnlisted Q (o_ifeq 57 30)) := mt_blk rfl q Q
theorem k_TC_deleteUnlisted_30 (q : m_C) (Q : m_R → Prop) : mt_T cd_TC_deleteUnlisted 30 q Q = mt_go [o_aload 0, o_get 8 4, o_iload 1, o_aald 4, o_get 0 0] q (mt_kk cd_TC_deleteUnlisted Q (o_ifne 57 42)) := mt_blk rfl q Q
theorem k_TC_deleteUnlisted_42 (q : m_C) (Q : m_R → Prop) : mt_T cd_TC_deleteUnlisted 42 q Q = mt_go [o_aload 2] q (mt_kk cd_TC_deleteUnlisted Q (o_callV sm_Sf_erase 7 1 46)) := mt_blk rfl q Q
theorem k_TC_deleteUnlisted_46 (q : m_C) (Q : m_R → Prop) : mt_T cd_TC_deleteUnlisted 46 q Q = mt_go [o_aload 0, o_get 8 7, o_const (nI 6), o_dup2, o_iald, o_const (nI 1), o_add, o_iast] q (mt_kk cd_TC_deleteUnlisted Q (o_fall 57)) := mt_blk rfl q Q
theorem k_TC_deleteUnlisted_57 (q : m_C) (Q : m_R → Prop) : mt_T cd_TC_deleteUnlisted 57 q Q = mt_go [o_iinc 1 (nI 1)] q (mt_kk cd_TC_deleteUnlisted Q (o_fall 2)) := mt_blk rfl q Q
theorem k_TC_deleteUnlisted_63 (q : m_C) (Q : m_R → Prop) : mt_T cd_TC_deleteUnlisted 63 q Q = mt_go [] q (mt_kk cd_TC_deleteUnlisted Q (o_ret)) := mt_blk rfl q Q
-- TreeCarrier.endSession ()V
noncomputable def cd_TC_endSession : List m_B := [(0, [o_aload 0, o_const (nI 0), o_putZ 8 9, o_aload 0, o_get 8 2], o_callV sm_Li_clear 3 1 12), (12, [o_aload 0, o_get 8 3], o_callV sm_Li_clear 3 1 19), (19, [o_const (nI 0), o_istore 1], o_fall 21), (21, [o_iload 1, o_const (nI 12)], o_icge 42 27), (27, [o_aload 0, o_get 8 4, o_iload 1, o_aald 4], o_callV sm_En_forget 0 1 36), (36, [o_iinc 1 (nI 1)], o_fall 21), (42, [], o_ret)]
noncomputable def sm_TC_endSession : List m_V → m_M → Option m_R := mt_sem cd_TC_endSession 2
theorem k_TC_endSession_0 (q : m_C) (Q : m_R → Prop) : mt_T cd_TC_endSession 0 q Q = mt_go [o_aload 0, o_const (nI 0), o_putZ 8 9, o_aload 0, o_get 8 2] q (mt_kk cd_TC_endSession Q (o_callV sm_Li_clear 3 1 12)) := mt_blk rfl q Q
theorem k_TC_endSession_12 (q : m_C) (Q : m_R → Prop) : mt_T cd_TC_endSession 12 q Q = mt_go [o_aload 0, o_get 8 3] q (mt_kk cd_TC_endSession Q (o_callV sm_Li_clear 3 1 19)) := mt_blk rfl q Q
theorem k_TC_endSession_19 (q : m_C) (Q : m_R → Prop) : mt_T cd_TC_endSession 19 q Q = mt_go [o_const (nI 0), o_istore 1] q (mt_kk cd_TC_endSession Q (o_fall 21)) := mt_blk rfl q Q
theorem k_TC_endSession_21 (q : m_C) (Q : m_R → Prop) : mt_T cd_TC_endSession 21 q Q = mt_go [o_iload 1, o_const (nI 12)] q (mt_kk cd_TC_endSession Q (o_icge 42 27)) := mt_blk rfl q Q
theorem k_TC_endSession_27 (q : m_C) (Q : m_R → Prop) : mt_T cd_TC_endSession 27 q Q = mt_go [o_aload 0, o_get 8 4, o_iload 1, o_aald 4] q (mt_kk cd_TC_endSession Q (o_callV sm_En_forget 0 1 36)) := mt_blk rfl q Q
theorem k_TC_endSession_36 (q : m_C) (Q : m_R → Prop) : mt_T cd_TC_endSession 36 q Q = mt_go [o_iinc 1 (nI 1)] q (mt_kk cd_TC_endSession Q (o_fall 21)) := mt_blk rfl q Q
theorem k_TC_endSession_42 (q : m_C) (Q : m_R → Prop) : mt_T cd_TC_endSession 42 q Q = mt_go [] q (mt_kk cd_TC_endSession Q (o_ret)) := mt_blk rfl q Q
-- TreeCarrier.concludeSession ()V
noncomputable def cd_TC_concludeSession : List m_B := [(0, [o_aload 0], o_callV sm_TC_doAllRecords 8 1 4), (4, [o_aload 0, o_get 8 10], o_ifeq 15 11), (11, [o_aload 0], o_callV sm_TC_deleteUnlisted 8 1 15), (15, [o_aload 0], o_callV sm_TC_endSession 8 1 19), (19, [o_aload 0, o_get 8 7, o_const (nI 4), o_dup2, o_iald, o_const (nI 1), o_add, o_iast], o_ret)]
noncomputable def sm_TC_concludeSession : List m_V → m_M → Option m_R := mt_sem cd_TC_concludeSession 1
theorem k_TC_concludeSession_0 (q : m_C) (Q : m_R → Prop) : mt_T cd_TC_concludeSession 0 q Q = mt_go [o_aload 0] q (mt_kk cd_TC_concludeSession Q (o_callV sm_TC_doAllRecords 8 1 4)) := mt_blk rfl q Q
theorem k_TC_concludeSession_4 (q : m_C) (Q : m_R → Prop) : mt_T cd_TC_concludeSession 4 q Q = mt_go [o_aload 0, o_get 8 10] q (mt_kk cd_TC_concludeSession Q (o_ifeq 15 11)) := mt_blk rfl q Q
theorem k_TC_concludeSession_11 (q : m_C) (Q : m_R → Prop) : mt_T cd_TC_concludeSession 11 q Q = mt_go [o_aload 0] q (mt_kk cd_TC_concludeSession Q (o_callV sm_TC_deleteUnlisted 8 1 15)) := mt_blk rfl q Q
theorem k_TC_concludeSession_15 (q : m_C) (Q : m_R → Prop) : mt_T cd_TC_concludeSession 15 q Q = mt_go [o_aload 0] q (mt_kk cd_TC_concludeSession Q (o_callV sm_TC_endSession 8 1 19)) := mt_blk rfl q Q
theorem k_TC_concludeSession_19 (q : m_C) (Q : m_R → Prop) : mt_T cd_TC_concludeSession 19 q Q = mt_go [o_aload 0, o_get 8 7, o_const (nI 4), o_dup2, o_iald, o_const (nI 1), o_add, o_iast] q (mt_kk cd_TC_concludeSession Q (o_ret)) := mt_blk rfl q Q
-- TreeCarrier.receive (LTreeCarrier$Message;)V
noncomputable def cd_TC_receive : List m_B := [(0, [o_aload 1, o_get 4 0], o_tsw 1 5 74 [40, 48, 74, 55, 63]), (40, [o_aload 0, o_aload 1], o_callV sm_TC_noteEntry 8 2 45), (45, [], o_fall 74), (48, [o_aload 0], o_callV sm_TC_openEntries 8 1 52), (52, [], o_fall 74), (55, [o_aload 0, o_aload 1], o_callV sm_TC_receiveDelta 8 2 60), (60, [], o_fall 74), (63, [o_aload 0, o_aload 1, o_get 4 1], o_callV sm_TC_failEntry 8 2 71), (71, [], o_fall 74), (74, [o_aload 1, o_get 4 0, o_const (nI 1)], o_iceq 93 82), (82, [o_aload 0], o_callV sm_TC_hasOpenEntry 8 1 86), (86, [], o_ifne 93 89), (89, [o_aload 0], o_callV sm_TC_concludeSession 8 1 93), (93, [], o_ret)]
noncomputable def sm_TC_receive : List m_V → m_M → Option m_R := mt_sem cd_TC_receive 2
theorem k_TC_receive_0 (q : m_C) (Q : m_R → Prop) : mt_T cd_TC_receive 0 q Q = mt_go [o_aload 1, o_get 4 0] q (mt_kk cd_TC_receive Q (o_tsw 1 5 74 [40, 48, 74, 55, 63])) := mt_blk rfl q Q
theorem k_TC_receive_40 (q : m_C) (Q : m_R → Prop) : mt_T cd_TC_receive 40 q Q = mt_go [o_aload 0, o_aload 1] q (mt_kk cd_TC_receive Q (o_callV sm_TC_noteEntry 8 2 45)) := mt_blk rfl q Q
theorem k_TC_receive_45 (q : m_C) (Q : m_R → Prop) : mt_T cd_TC_receive 45 q Q = mt_go [] q (mt_kk cd_TC_receive Q (o_fall 74)) := mt_blk rfl q Q
theorem k_TC_receive_48 (q : m_C) (Q : m_R → Prop) : mt_T cd_TC_receive 48 q Q = mt_go [o_aload 0] q (mt_kk cd_TC_receive Q (o_callV sm_TC_openEntries 8 1 52)) := mt_blk rfl q Q
theorem k_TC_receive_52 (q : m_C) (Q : m_R → Prop) : mt_T cd_TC_receive 52 q Q = mt_go [] q (mt_kk cd_TC_receive Q (o_fall 74)) := mt_blk rfl q Q
theorem k_TC_receive_55 (q : m_C) (Q : m_R → Prop) : mt_T cd_TC_receive 55 q Q = mt_go [o_aload 0, o_aload 1] q (mt_kk cd_TC_receive Q (o_callV sm_TC_receiveDelta 8 2 60)) := mt_blk rfl q Q
theorem k_TC_receive_60 (q : m_C) (Q : m_R → Prop) : mt_T cd_TC_receive 60 q Q = mt_go [] q (mt_kk cd_TC_receive Q (o_fall 74)) := mt_blk rfl q Q
theorem k_TC_receive_63 (q : m_C) (Q : m_R → Prop) : mt_T cd_TC_receive 63 q Q = mt_go [o_aload 0, o_aload 1, o_get 4 1] q (mt_kk cd_TC_receive Q (o_callV sm_TC_failEntry 8 2 71)) := mt_blk rfl q Q
theorem k_TC_receive_71 (q : m_C) (Q : m_R → Prop) : mt_T cd_TC_receive 71 q Q = mt_go [] q (mt_kk cd_TC_receive Q (o_fall 74)) := mt_blk rfl q Q
theorem k_TC_receive_74 (q : m_C) (Q : m_R → Prop) : mt_T cd_TC_receive 74 q Q = mt_go [o_aload 1, o_get 4 0, o_const (nI 1)] q (mt_kk cd_TC_receive Q (o_iceq 93 82)) := mt_blk rfl q Q
theorem k_TC_receive_82 (q : m_C) (Q : m_R → Prop) : mt_T cd_TC_receive 82 q Q = mt_go [o_aload 0] q (mt_kk cd_TC_receive Q (o_callV sm_TC_hasOpenEntry 8 1 86)) := mt_blk rfl q Q
theorem k_TC_receive_86 (q : m_C) (Q : m_R → Prop) : mt_T cd_TC_receive 86 q Q = mt_go [] q (mt_kk cd_TC_receive Q (o_ifne 93 89)) := mt_blk rfl q Q
theorem k_TC_receive_89 (q : m_C) (Q : m_R → Prop) : mt_T cd_TC_receive 89 q Q = mt_go [o_aload 0] q (mt_kk cd_TC_receive Q (o_callV sm_TC_concludeSession 8 1 93)) := mt_blk rfl q Q
theorem k_TC_receive_93 (q : m_C) (Q : m_R → Prop) : mt_T cd_TC_receive 93 q Q = mt_go [] q (mt_kk cd_TC_receive Q (o_ret)) := mt_blk rfl q Q
-- TreeCarrier.findBlock (LTreeCarrier$Row;ILTreeCarrier$Message;)I
noncomputable def cd_TC_findBlock : List m_B := [(0, [o_iload 2, o_aload 0, o_get 8 11, o_add, o_aload 1, o_get 5 1], o_icle 15 13), (13, [o_const (-1)], o_iret), (15, [o_aload 1, o_iload 2, o_aload 0, o_get 8 11, o_aload 3, o_get 4 4], o_callV sm_Ro_sums 5 4 28), (28, [o_istore 4, o_const (nI 0), o_istore 5], o_fall 33), (33, [o_iload 5, o_aload 3, o_get 4 6], o_icge 63 42), (42, [o_aload 3, o_get 4 7, o_iload 5, o_iald, o_iload 4], o_icne 57 54), (54, [o_iload 5], o_iret), (57, [o_iinc 5 (nI 1)], o_fall 33), (63, [o_const (-1)], o_iret)]
noncomputable def sm_TC_findBlock : List m_V → m_M → Option m_R := mt_sem cd_TC_findBlock 6
theorem k_TC_findBlock_0 (q : m_C) (Q : m_R → Prop) : mt_T cd_TC_findBlock 0 q Q = mt_go [o_iload 2, o_aload 0, o_get 8 11, o_add, o_aload 1, o_get 5 1] q (mt_kk cd_TC_findBlock Q (o_icle 15 13)) := mt_blk rfl q Q
theorem k_TC_findBlock_13 (q : m_C) (Q : m_R → Prop) : mt_T cd_TC_findBlock 13 q Q = mt_go [o_const (-1)] q (mt_kk cd_TC_findBlock Q (o_iret)) := mt_blk rfl q Q
theorem k_TC_findBlock_15 (q : m_C) (Q : m_R → Prop) : mt_T cd_TC_findBlock 15 q Q = mt_go [o_aload 1, o_iload 2, o_aload 0, o_get 8 11, o_aload 3, o_get 4 4] q (mt_kk cd_TC_findBlock Q (o_callV sm_Ro_sums 5 4 28)) := mt_blk rfl q Q
theorem k_TC_findBlock_28 (q : m_C) (Q : m_R → Prop) : mt_T cd_TC_findBlock 28 q Q = mt_go [o_istore 4, o_const (nI 0), o_istore 5] q (mt_kk cd_TC_findBlock Q (o_fall 33)) := mt_blk rfl q Q
theorem k_TC_findBlock_33 (q : m_C) (Q : m_R → Prop) : mt_T cd_TC_findBlock 33 q Q = mt_go [o_iload 5, o_aload 3, o_get 4 6] q (mt_kk cd_TC_findBlock Q (o_icge 63 42)) := mt_blk rfl q Q
theorem k_TC_findBlock_42 (q : m_C) (Q : m_R → Prop) : mt_T cd_TC_findBlock 42 q Q = mt_go [o_aload 3, o_get 4 7, o_iload 5, o_iald, o_iload 4] q (mt_kk cd_TC_findBlock Q (o_icne 57 54)) := mt_blk rfl q Q
theorem k_TC_findBlock_54 (q : m_C) (Q : m_R → Prop) : mt_T cd_TC_findBlock 54 q Q = mt_go [o_iload 5] q (mt_kk cd_TC_findBlock Q (o_iret)) := mt_blk rfl q Q
theorem k_TC_findBlock_57 (q : m_C) (Q : m_R → Prop) : mt_T cd_TC_findBlock 57 q Q = mt_go [o_iinc 5 (nI 1)] q (mt_kk cd_TC_findBlock Q (o_fall 33)) := mt_blk rfl q Q
theorem k_TC_findBlock_63 (q : m_C) (Q : m_R → Prop) : mt_T cd_TC_findBlock 63 q Q = mt_go [o_const (-1)] q (mt_kk cd_TC_findBlock Q (o_iret)) := mt_blk rfl q Q
-- TreeCarrier.fillDelta (LTreeCarrier$Message;LTreeCarrier$Row;LTreeCarrier$Message;)V
noncomputable def cd_TC_fillDelta : List m_B := [(0, [o_const (nI 0), o_istore 4, o_const (nI 0), o_istore 5], o_fall 6), (6, [o_iload 5, o_aload 2, o_get 5 1], o_icge 99 15), (15, [o_iload 5, o_iload 4], o_icge 25 22), (22, [], o_fall 93), (25, [o_aload 0, o_aload 2, o_iload 5, o_aload 3], o_callV sm_TC_findBlock 8 4 33), (33, [o_istore 6, o_iload 6, o_const (-1)], o_icne 64 41), (41, [o_aload 1, o_aload 2, o_iload 5], o_callV sm_Ro_byteAt 5 2 48), (48, [], o_callV sm_Ms_addItem 4 2 51), (51, [o_aload 0, o_get 8 7, o_const (nI 0), o_dup2, o_iald, o_const (nI 1), o_add, o_iast], o_fall 93), (64, [o_aload 1, o_const (nI 256), o_iload 6, o_add], o_callV sm_Ms_addItem 4 2 74), (74, [o_aload 0, o_get 8 7, o_const (nI 1), o_dup2, o_iald, o_const (nI 1), o_add, o_iast, o_iload 5, o_aload 0, o_get 8 11, o_add, o_istore 4], o_fall 93), (93, [o_iinc 5 (nI 1)], o_fall 6), (99, [], o_ret)]
noncomputable def sm_TC_fillDelta : List m_V → m_M → Option m_R := mt_sem cd_TC_fillDelta 7
theorem k_TC_fillDelta_0 (q : m_C) (Q : m_R → Prop) : mt_T cd_TC_fillDelta 0 q Q = mt_go [o_const (nI 0), o_istore 4, o_const (nI 0), o_istore 5] q (mt_kk cd_TC_fillDelta Q (o_fall 6)) := mt_blk rfl q Q
theorem k_TC_fillDelta_6 (q : m_C) (Q : m_R → Prop) : mt_T cd_TC_fillDelta 6 q Q = mt_go [o_iload 5, o_aload 2, o_get 5 1] q (mt_kk cd_TC_fillDelta Q (o_icge 99 15)) := mt_blk rfl q Q
theorem k_TC_fillDelta_15 (q : m_C) (Q : m_R → Prop) : mt_T cd_TC_fillDelta 15 q Q = mt_go [o_iload 5, o_iload 4] q (mt_kk cd_TC_fillDelta Q (o_icge 25 22)) := mt_blk rfl q Q
theorem k_TC_fillDelta_22 (q : m_C) (Q : m_R → Prop) : mt_T cd_TC_fillDelta 22 q Q = mt_go [] q (mt_kk cd_TC_fillDelta Q (o_fall 93)) := mt_blk rfl q Q
theorem k_TC_fillDelta_25 (q : m_C) (Q : m_R → Prop) : mt_T cd_TC_fillDelta 25 q Q = mt_go [o_aload 0, o_aload 2, o_iload 5, o_aload 3] q (mt_kk cd_TC_fillDelta Q (o_callV sm_TC_findBlock 8 4 33)) := mt_blk rfl q Q
theorem k_TC_fillDelta_33 (q : m_C) (Q : m_R → Prop) : mt_T cd_TC_fillDelta 33 q Q = mt_go [o_istore 6, o_iload 6, o_const (-1)] q (mt_kk cd_TC_fillDelta Q (o_icne 64 41)) := mt_blk rfl q Q
theorem k_TC_fillDelta_41 (q : m_C) (Q : m_R → Prop) : mt_T cd_TC_fillDelta 41 q Q = mt_go [o_aload 1, o_aload 2, o_iload 5] q (mt_kk cd_TC_fillDelta Q (o_callV sm_Ro_byteAt 5 2 48)) := mt_blk rfl q Q
theorem k_TC_fillDelta_48 (q : m_C) (Q : m_R → Prop) : mt_T cd_TC_fillDelta 48 q Q = mt_go [] q (mt_kk cd_TC_fillDelta Q (o_callV sm_Ms_addItem 4 2 51)) := mt_blk rfl q Q
theorem k_TC_fillDelta_51 (q : m_C) (Q : m_R → Prop) : mt_T cd_TC_fillDelta 51 q Q = mt_go [o_aload 0, o_get 8 7, o_const (nI 0), o_dup2, o_iald, o_const (nI 1), o_add, o_iast] q (mt_kk cd_TC_fillDelta Q (o_fall 93)) := mt_blk rfl q Q
theorem k_TC_fillDelta_64 (q : m_C) (Q : m_R → Prop) : mt_T cd_TC_fillDelta 64 q Q = mt_go [o_aload 1, o_const (nI 256), o_iload 6, o_add] q (mt_kk cd_TC_fillDelta Q (o_callV sm_Ms_addItem 4 2 74)) := mt_blk rfl q Q
theorem k_TC_fillDelta_74 (q : m_C) (Q : m_R → Prop) : mt_T cd_TC_fillDelta 74 q Q = mt_go [o_aload 0, o_get 8 7, o_const (nI 1), o_dup2, o_iald, o_const (nI 1), o_add, o_iast, o_iload 5, o_aload 0, o_get 8 11, o_add, o_istore 4] q (mt_kk cd_TC_fillDelta Q (o_fall 93)) := mt_blk rfl q Q
theorem k_TC_fillDelta_93 (q : m_C) (Q : m_R → Prop) : mt_T cd_TC_fillDelta 93 q Q = mt_go [o_iinc 5 (nI 1)] q (mt_kk cd_TC_fillDelta Q (o_fall 6)) := mt_blk rfl q Q
theorem k_TC_fillDelta_99 (q : m_C) (Q : m_R → Prop) : mt_T cd_TC_fillDelta 99 q Q = mt_go [] q (mt_kk cd_TC_fillDelta Q (o_ret)) := mt_blk rfl q Q
-- TreeCarrier.answerSignature (LTreeCarrier$Message;)V
noncomputable def cd_TC_answerSignature : List m_B := [(0, [o_aload 0, o_const (nI 0), o_aload 1, o_get 4 1], o_callV sm_TC_fileOf 8 3 9), (9, [o_astore 2, o_aload 2], o_ifnonnull 28 14), (14, [o_aload 0, o_get 8 3, o_const (nI 5), o_aload 1, o_get 4 1], o_callV sm_Li_append 3 3 26), (26, [o_pop], o_ret), (28, [o_aload 0, o_get 8 3, o_const (nI 4), o_aload 1, o_get 4 1], o_callV sm_Li_append 3 3 40), (40, [o_astore 3, o_aload 3, o_aload 1, o_get 4 4, o_putI 4 4, o_aload 3, o_aload 2, o_get 7 0], o_callV sm_Ro_digest 5 1 57), (57, [o_putI 4 5, o_aload 0, o_aload 3, o_aload 2, o_get 7 0, o_aload 1], o_callV sm_TC_fillDelta 8 4 70), (70, [], o_ret)]
noncomputable def sm_TC_answerSignature : List m_V → m_M → Option m_R := mt_sem cd_TC_answerSignature 4
theorem k_TC_answerSignature_0 (q : m_C) (Q : m_R → Prop) : mt_T cd_TC_answerSignature 0 q Q = mt_go [o_aload 0, o_const (nI 0), o_aload 1, o_get 4 1] q (mt_kk cd_TC_answerSignature Q (o_callV sm_TC_fileOf 8 3 9)) := mt_blk rfl q Q
theorem k_TC_answerSignature_9 (q : m_C) (Q : m_R → Prop) : mt_T cd_TC_answerSignature 9 q Q = mt_go [o_astore 2, o_aload 2] q (mt_kk cd_TC_answerSignature Q (o_ifnonnull 28 14)) := mt_blk rfl q Q
theorem k_TC_answerSignature_14 (q : m_C) (Q : m_R → Prop) : mt_T cd_TC_answerSignature 14 q Q = mt_go [o_aload 0, o_get 8 3, o_const (nI 5), o_aload 1, o_get 4 1] q (mt_kk cd_TC_answerSignature Q (o_callV sm_Li_append 3 3 26)) := mt_blk rfl q Q
theorem k_TC_answerSignature_26 (q : m_C) (Q : m_R → Prop) : mt_T cd_TC_answerSignature 26 q Q = mt_go [o_pop] q (mt_kk cd_TC_answerSignature Q (o_ret)) := mt_blk rfl q Q
theorem k_TC_answerSignature_28 (q : m_C) (Q : m_R → Prop) : mt_T cd_TC_answerSignature 28 q Q = mt_go [o_aload 0, o_get 8 3, o_const (nI 4), o_aload 1, o_get 4 1] q (mt_kk cd_TC_answerSignature Q (o_callV sm_Li_append 3 3 40)) := mt_blk rfl q Q
theorem k_TC_answerSignature_40 (q : m_C) (Q : m_R → Prop) : mt_T cd_TC_answerSignature 40 q Q = mt_go [o_astore 3, o_aload 3, o_aload 1, o_get 4 4, o_putI 4 4, o_aload 3, o_aload 2, o_get 7 0] q (mt_kk cd_TC_answerSignature Q (o_callV sm_Ro_digest 5 1 57)) := mt_blk rfl q Q
theorem k_TC_answerSignature_57 (q : m_C) (Q : m_R → Prop) : mt_T cd_TC_answerSignature 57 q Q = mt_go [o_putI 4 5, o_aload 0, o_aload 3, o_aload 2, o_get 7 0, o_aload 1] q (mt_kk cd_TC_answerSignature Q (o_callV sm_TC_fillDelta 8 4 70)) := mt_blk rfl q Q
theorem k_TC_answerSignature_70 (q : m_C) (Q : m_R → Prop) : mt_T cd_TC_answerSignature 70 q Q = mt_go [] q (mt_kk cd_TC_answerSignature Q (o_ret)) := mt_blk rfl q Q
-- TreeCarrier.deliver (I)I
noncomputable def cd_TC_deliver : List m_B := [(0, [o_aload 0, o_iload 1], o_callV sm_TC_lineOf 8 2 5), (5, [o_astore 2, o_aload 2], o_ifnonnull 14 10), (10, [o_null], o_fall 18), (14, [o_aload 2], o_callV sm_Li_take 3 1 18), (18, [o_astore 3, o_aload 3], o_ifnonnull 25 23), (23, [o_const (nI 0)], o_iret), (25, [o_aload 3, o_get 4 0, o_istore 4, o_aload 2, o_aload 0, o_get 8 3], o_acne 51 39), (39, [o_aload 0], o_callV sm_TC_doOldestRecord 8 1 43), (43, [o_aload 0, o_aload 3], o_callV sm_TC_receive 8 2 48), (48, [], o_fall 56), (51, [o_aload 0, o_aload 3], o_callV sm_TC_answerSignature 8 2 56), (56, [o_iload 4], o_iret)]
noncomputable def sm_TC_deliver : List m_V → m_M → Option m_R := mt_sem cd_TC_deliver 5
theorem k_TC_deliver_0 (q : m_C) (Q : m_R → Prop) : mt_T cd_TC_deliver 0 q Q = mt_go [o_aload 0, o_iload 1] q (mt_kk cd_TC_deliver Q (o_callV sm_TC_lineOf 8 2 5)) := mt_blk rfl q Q
theorem k_TC_deliver_5 (q : m_C) (Q : m_R → Prop) : mt_T cd_TC_deliver 5 q Q = mt_go [o_astore 2, o_aload 2] q (mt_kk cd_TC_deliver Q (o_ifnonnull 14 10)) := mt_blk rfl q Q
theorem k_TC_deliver_10 (q : m_C) (Q : m_R → Prop) : mt_T cd_TC_deliver 10 q Q = mt_go [o_null] q (mt_kk cd_TC_deliver Q (o_fall 18)) := mt_blk rfl q Q
theorem k_TC_deliver_14 (q : m_C) (Q : m_R → Prop) : mt_T cd_TC_deliver 14 q Q = mt_go [o_aload 2] q (mt_kk cd_TC_deliver Q (o_callV sm_Li_take 3 1 18)) := mt_blk rfl q Q
theorem k_TC_deliver_18 (q : m_C) (Q : m_R → Prop) : mt_T cd_TC_deliver 18 q Q = mt_go [o_astore 3, o_aload 3] q (mt_kk cd_TC_deliver Q (o_ifnonnull 25 23)) := mt_blk rfl q Q
theorem k_TC_deliver_23 (q : m_C) (Q : m_R → Prop) : mt_T cd_TC_deliver 23 q Q = mt_go [o_const (nI 0)] q (mt_kk cd_TC_deliver Q (o_iret)) := mt_blk rfl q Q
theorem k_TC_deliver_25 (q : m_C) (Q : m_R → Prop) : mt_T cd_TC_deliver 25 q Q = mt_go [o_aload 3, o_get 4 0, o_istore 4, o_aload 2, o_aload 0, o_get 8 3] q (mt_kk cd_TC_deliver Q (o_acne 51 39)) := mt_blk rfl q Q
theorem k_TC_deliver_39 (q : m_C) (Q : m_R → Prop) : mt_T cd_TC_deliver 39 q Q = mt_go [o_aload 0] q (mt_kk cd_TC_deliver Q (o_callV sm_TC_doOldestRecord 8 1 43)) := mt_blk rfl q Q
theorem k_TC_deliver_43 (q : m_C) (Q : m_R → Prop) : mt_T cd_TC_deliver 43 q Q = mt_go [o_aload 0, o_aload 3] q (mt_kk cd_TC_deliver Q (o_callV sm_TC_receive 8 2 48)) := mt_blk rfl q Q
theorem k_TC_deliver_48 (q : m_C) (Q : m_R → Prop) : mt_T cd_TC_deliver 48 q Q = mt_go [] q (mt_kk cd_TC_deliver Q (o_fall 56)) := mt_blk rfl q Q
theorem k_TC_deliver_51 (q : m_C) (Q : m_R → Prop) : mt_T cd_TC_deliver 51 q Q = mt_go [o_aload 0, o_aload 3] q (mt_kk cd_TC_deliver Q (o_callV sm_TC_answerSignature 8 2 56)) := mt_blk rfl q Q
theorem k_TC_deliver_56 (q : m_C) (Q : m_R → Prop) : mt_T cd_TC_deliver 56 q Q = mt_go [o_iload 4] q (mt_kk cd_TC_deliver Q (o_iret)) := mt_blk rfl q Q
-- TreeCarrier.crash ()Z
noncomputable def cd_TC_crash : List m_B := [(0, [o_aload 0, o_get 8 9], o_ifne 9 7), (7, [o_const (nI 0)], o_zret), (9, [o_aload 0], o_callV sm_TC_endSession 8 1 13), (13, [o_const (nI 1)], o_zret)]
noncomputable def sm_TC_crash : List m_V → m_M → Option m_R := mt_sem cd_TC_crash 1
theorem k_TC_crash_0 (q : m_C) (Q : m_R → Prop) : mt_T cd_TC_crash 0 q Q = mt_go [o_aload 0, o_get 8 9] q (mt_kk cd_TC_crash Q (o_ifne 9 7)) := mt_blk rfl q Q
theorem k_TC_crash_7 (q : m_C) (Q : m_R → Prop) : mt_T cd_TC_crash 7 q Q = mt_go [o_const (nI 0)] q (mt_kk cd_TC_crash Q (o_zret)) := mt_blk rfl q Q
theorem k_TC_crash_9 (q : m_C) (Q : m_R → Prop) : mt_T cd_TC_crash 9 q Q = mt_go [o_aload 0] q (mt_kk cd_TC_crash Q (o_callV sm_TC_endSession 8 1 13)) := mt_blk rfl q Q
theorem k_TC_crash_13 (q : m_C) (Q : m_R → Prop) : mt_T cd_TC_crash 13 q Q = mt_go [o_const (nI 1)] q (mt_kk cd_TC_crash Q (o_zret)) := mt_blk rfl q Q
-- TreeCarrier.on ()Z
noncomputable def cd_TC_on : List m_B := [(0, [o_aload 0, o_get 8 9], o_zret)]
noncomputable def sm_TC_on : List m_V → m_M → Option m_R := mt_sem cd_TC_on 1
theorem k_TC_on_0 (q : m_C) (Q : m_R → Prop) : mt_T cd_TC_on 0 q Q = mt_go [o_aload 0, o_get 8 9] q (mt_kk cd_TC_on Q (o_zret)) := mt_blk rfl q Q
-- TreeCarrier.size (II)I
noncomputable def cd_TC_size : List m_B := [(0, [o_aload 0, o_iload 1, o_iload 2], o_callV sm_TC_fileOf 8 3 6), (6, [o_astore 3, o_aload 3], o_ifnonnull 15 11), (11, [o_const (-1)], o_fall 22), (15, [o_aload 3, o_get 7 0, o_get 5 1], o_fall 22), (22, [], o_iret)]
noncomputable def sm_TC_size : List m_V → m_M → Option m_R := mt_sem cd_TC_size 4
theorem k_TC_size_0 (q : m_C) (Q : m_R → Prop) : mt_T cd_TC_size 0 q Q = mt_go [o_aload 0, o_iload 1, o_iload 2] q (mt_kk cd_TC_size Q (o_callV sm_TC_fileOf 8 3 6)) := mt_blk rfl q Q
theorem k_TC_size_6 (q : m_C) (Q : m_R → Prop) : mt_T cd_TC_size 6 q Q = mt_go [o_astore 3, o_aload 3] q (mt_kk cd_TC_size Q (o_ifnonnull 15 11)) := mt_blk rfl q Q
theorem k_TC_size_11 (q : m_C) (Q : m_R → Prop) : mt_T cd_TC_size 11 q Q = mt_go [o_const (-1)] q (mt_kk cd_TC_size Q (o_fall 22)) := mt_blk rfl q Q
theorem k_TC_size_15 (q : m_C) (Q : m_R → Prop) : mt_T cd_TC_size 15 q Q = mt_go [o_aload 3, o_get 7 0, o_get 5 1] q (mt_kk cd_TC_size Q (o_fall 22)) := mt_blk rfl q Q
theorem k_TC_size_22 (q : m_C) (Q : m_R → Prop) : mt_T cd_TC_size 22 q Q = mt_go [] q (mt_kk cd_TC_size Q (o_iret)) := mt_blk rfl q Q
-- TreeCarrier.at (III)I
noncomputable def cd_TC_at : List m_B := [(0, [o_aload 0, o_iload 1, o_iload 2], o_callV sm_TC_fileOf 8 3 6), (6, [o_astore 4, o_aload 4], o_ifnonnull 17 13), (13, [o_const (-1)], o_fall 26), (17, [o_aload 4, o_get 7 0, o_iload 3], o_callV sm_Ro_byteAt 5 2 26), (26, [], o_iret)]
noncomputable def sm_TC_at : List m_V → m_M → Option m_R := mt_sem cd_TC_at 5
theorem k_TC_at_0 (q : m_C) (Q : m_R → Prop) : mt_T cd_TC_at 0 q Q = mt_go [o_aload 0, o_iload 1, o_iload 2] q (mt_kk cd_TC_at Q (o_callV sm_TC_fileOf 8 3 6)) := mt_blk rfl q Q
theorem k_TC_at_6 (q : m_C) (Q : m_R → Prop) : mt_T cd_TC_at 6 q Q = mt_go [o_astore 4, o_aload 4] q (mt_kk cd_TC_at Q (o_ifnonnull 17 13)) := mt_blk rfl q Q
theorem k_TC_at_13 (q : m_C) (Q : m_R → Prop) : mt_T cd_TC_at 13 q Q = mt_go [o_const (-1)] q (mt_kk cd_TC_at Q (o_fall 26)) := mt_blk rfl q Q
theorem k_TC_at_17 (q : m_C) (Q : m_R → Prop) : mt_T cd_TC_at 17 q Q = mt_go [o_aload 4, o_get 7 0, o_iload 3] q (mt_kk cd_TC_at Q (o_callV sm_Ro_byteAt 5 2 26)) := mt_blk rfl q Q
theorem k_TC_at_26 (q : m_C) (Q : m_R → Prop) : mt_T cd_TC_at 26 q Q = mt_go [] q (mt_kk cd_TC_at Q (o_iret)) := mt_blk rfl q Q
-- TreeCarrier.time (II)I
noncomputable def cd_TC_time : List m_B := [(0, [o_aload 0, o_iload 1, o_iload 2], o_callV sm_TC_fileOf 8 3 6), (6, [o_astore 3, o_aload 3], o_ifnonnull 15 11), (11, [o_const (-1)], o_fall 19), (15, [o_aload 3, o_get 7 2], o_fall 19), (19, [], o_iret)]
noncomputable def sm_TC_time : List m_V → m_M → Option m_R := mt_sem cd_TC_time 4
theorem k_TC_time_0 (q : m_C) (Q : m_R → Prop) : mt_T cd_TC_time 0 q Q = mt_go [o_aload 0, o_iload 1, o_iload 2] q (mt_kk cd_TC_time Q (o_callV sm_TC_fileOf 8 3 6)) := mt_blk rfl q Q
theorem k_TC_time_6 (q : m_C) (Q : m_R → Prop) : mt_T cd_TC_time 6 q Q = mt_go [o_astore 3, o_aload 3] q (mt_kk cd_TC_time Q (o_ifnonnull 15 11)) := mt_blk rfl q Q
theorem k_TC_time_11 (q : m_C) (Q : m_R → Prop) : mt_T cd_TC_time 11 q Q = mt_go [o_const (-1)] q (mt_kk cd_TC_time Q (o_fall 19)) := mt_blk rfl q Q
theorem k_TC_time_15 (q : m_C) (Q : m_R → Prop) : mt_T cd_TC_time 15 q Q = mt_go [o_aload 3, o_get 7 2] q (mt_kk cd_TC_time Q (o_fall 19)) := mt_blk rfl q Q
theorem k_TC_time_19 (q : m_C) (Q : m_R → Prop) : mt_T cd_TC_time 19 q Q = mt_go [] q (mt_kk cd_TC_time Q (o_iret)) := mt_blk rfl q Q
-- TreeCarrier.selected (I)Z
noncomputable def cd_TC_selected : List m_B := [(0, [o_iload 1], o_callS sm_TC_isName 1 4), (4, [], o_ifeq 22 7), (7, [o_aload 0, o_get 8 1, o_iload 1], o_callV sm_Ru_select 6 2 15), (15, [], o_ifeq 22 18), (18, [o_const (nI 1)], o_fall 23), (22, [o_const (nI 0)], o_fall 23), (23, [], o_zret)]
noncomputable def sm_TC_selected : List m_V → m_M → Option m_R := mt_sem cd_TC_selected 2
theorem k_TC_selected_0 (q : m_C) (Q : m_R → Prop) : mt_T cd_TC_selected 0 q Q = mt_go [o_iload 1] q (mt_kk cd_TC_selected Q (o_callS sm_TC_isName 1 4)) := mt_blk rfl q Q
theorem k_TC_selected_4 (q : m_C) (Q : m_R → Prop) : mt_T cd_TC_selected 4 q Q = mt_go [] q (mt_kk cd_TC_selected Q (o_ifeq 22 7)) := mt_blk rfl q Q
theorem k_TC_selected_7 (q : m_C) (Q : m_R → Prop) : mt_T cd_TC_selected 7 q Q = mt_go [o_aload 0, o_get 8 1, o_iload 1] q (mt_kk cd_TC_selected Q (o_callV sm_Ru_select 6 2 15)) := mt_blk rfl q Q
theorem k_TC_selected_15 (q : m_C) (Q : m_R → Prop) : mt_T cd_TC_selected 15 q Q = mt_go [] q (mt_kk cd_TC_selected Q (o_ifeq 22 18)) := mt_blk rfl q Q
theorem k_TC_selected_18 (q : m_C) (Q : m_R → Prop) : mt_T cd_TC_selected 18 q Q = mt_go [o_const (nI 1)] q (mt_kk cd_TC_selected Q (o_fall 23)) := mt_blk rfl q Q
theorem k_TC_selected_22 (q : m_C) (Q : m_R → Prop) : mt_T cd_TC_selected 22 q Q = mt_go [o_const (nI 0)] q (mt_kk cd_TC_selected Q (o_fall 23)) := mt_blk rfl q Q
theorem k_TC_selected_23 (q : m_C) (Q : m_R → Prop) : mt_T cd_TC_selected 23 q Q = mt_go [] q (mt_kk cd_TC_selected Q (o_zret)) := mt_blk rfl q Q
-- TreeCarrier.waiting (I)I
noncomputable def cd_TC_waiting : List m_B := [(0, [o_aload 0, o_iload 1], o_callV sm_TC_lineOf 8 2 5), (5, [o_astore 2, o_aload 2], o_ifnonnull 14 10), (10, [o_const (-1)], o_fall 18), (14, [o_aload 2, o_get 3 2], o_fall 18), (18, [], o_iret)]
noncomputable def sm_TC_waiting : List m_V → m_M → Option m_R := mt_sem cd_TC_waiting 3
theorem k_TC_waiting_0 (q : m_C) (Q : m_R → Prop) : mt_T cd_TC_waiting 0 q Q = mt_go [o_aload 0, o_iload 1] q (mt_kk cd_TC_waiting Q (o_callV sm_TC_lineOf 8 2 5)) := mt_blk rfl q Q
theorem k_TC_waiting_5 (q : m_C) (Q : m_R → Prop) : mt_T cd_TC_waiting 5 q Q = mt_go [o_astore 2, o_aload 2] q (mt_kk cd_TC_waiting Q (o_ifnonnull 14 10)) := mt_blk rfl q Q
theorem k_TC_waiting_10 (q : m_C) (Q : m_R → Prop) : mt_T cd_TC_waiting 10 q Q = mt_go [o_const (-1)] q (mt_kk cd_TC_waiting Q (o_fall 18)) := mt_blk rfl q Q
theorem k_TC_waiting_14 (q : m_C) (Q : m_R → Prop) : mt_T cd_TC_waiting 14 q Q = mt_go [o_aload 2, o_get 3 2] q (mt_kk cd_TC_waiting Q (o_fall 18)) := mt_blk rfl q Q
theorem k_TC_waiting_18 (q : m_C) (Q : m_R → Prop) : mt_T cd_TC_waiting 18 q Q = mt_go [] q (mt_kk cd_TC_waiting Q (o_iret)) := mt_blk rfl q Q
-- TreeCarrier.next (I)I
noncomputable def cd_TC_next : List m_B := [(0, [o_aload 0, o_iload 1], o_callV sm_TC_lineOf 8 2 5), (5, [o_astore 2, o_aload 2], o_ifnonnull 14 10), (10, [o_const (nI 0)], o_fall 18), (14, [o_aload 2], o_callV sm_Li_oldestKind 3 1 18), (18, [], o_iret)]
noncomputable def sm_TC_next : List m_V → m_M → Option m_R := mt_sem cd_TC_next 3
theorem k_TC_next_0 (q : m_C) (Q : m_R → Prop) : mt_T cd_TC_next 0 q Q = mt_go [o_aload 0, o_iload 1] q (mt_kk cd_TC_next Q (o_callV sm_TC_lineOf 8 2 5)) := mt_blk rfl q Q
theorem k_TC_next_5 (q : m_C) (Q : m_R → Prop) : mt_T cd_TC_next 5 q Q = mt_go [o_astore 2, o_aload 2] q (mt_kk cd_TC_next Q (o_ifnonnull 14 10)) := mt_blk rfl q Q
theorem k_TC_next_10 (q : m_C) (Q : m_R → Prop) : mt_T cd_TC_next 10 q Q = mt_go [o_const (nI 0)] q (mt_kk cd_TC_next Q (o_fall 18)) := mt_blk rfl q Q
theorem k_TC_next_14 (q : m_C) (Q : m_R → Prop) : mt_T cd_TC_next 14 q Q = mt_go [o_aload 2] q (mt_kk cd_TC_next Q (o_callV sm_Li_oldestKind 3 1 18)) := mt_blk rfl q Q
theorem k_TC_next_18 (q : m_C) (Q : m_R → Prop) : mt_T cd_TC_next 18 q Q = mt_go [] q (mt_kk cd_TC_next Q (o_iret)) := mt_blk rfl q Q
-- TreeCarrier.journal ()I
noncomputable def cd_TC_journal : List m_B := [(0, [o_aload 0, o_get 8 5, o_get 1 2], o_iret)]
noncomputable def sm_TC_journal : List m_V → m_M → Option m_R := mt_sem cd_TC_journal 1
theorem k_TC_journal_0 (q : m_C) (Q : m_R → Prop) : mt_T cd_TC_journal 0 q Q = mt_go [o_aload 0, o_get 8 5, o_get 1 2] q (mt_kk cd_TC_journal Q (o_iret)) := mt_blk rfl q Q
-- TreeCarrier.count (I)I
noncomputable def cd_TC_count : List m_B := [(0, [o_iload 1], o_iflt 10 4), (4, [o_iload 1, o_const (nI 8)], o_iclt 14 10), (10, [o_const (-1)], o_fall 20), (14, [o_aload 0, o_get 8 7, o_iload 1, o_iald], o_fall 20), (20, [], o_iret)]
noncomputable def sm_TC_count : List m_V → m_M → Option m_R := mt_sem cd_TC_count 2
theorem k_TC_count_0 (q : m_C) (Q : m_R → Prop) : mt_T cd_TC_count 0 q Q = mt_go [o_iload 1] q (mt_kk cd_TC_count Q (o_iflt 10 4)) := mt_blk rfl q Q
theorem k_TC_count_4 (q : m_C) (Q : m_R → Prop) : mt_T cd_TC_count 4 q Q = mt_go [o_iload 1, o_const (nI 8)] q (mt_kk cd_TC_count Q (o_iclt 14 10)) := mt_blk rfl q Q
theorem k_TC_count_10 (q : m_C) (Q : m_R → Prop) : mt_T cd_TC_count 10 q Q = mt_go [o_const (-1)] q (mt_kk cd_TC_count Q (o_fall 20)) := mt_blk rfl q Q
theorem k_TC_count_14 (q : m_C) (Q : m_R → Prop) : mt_T cd_TC_count 14 q Q = mt_go [o_aload 0, o_get 8 7, o_iload 1, o_iald] q (mt_kk cd_TC_count Q (o_fall 20)) := mt_blk rfl q Q
theorem k_TC_count_20 (q : m_C) (Q : m_R → Prop) : mt_T cd_TC_count 20 q Q = mt_go [] q (mt_kk cd_TC_count Q (o_iret)) := mt_blk rfl q Q
-- TreeCarrierModel.<init> ()V
noncomputable def cd_MD_init : List m_B := [(0, [o_aload 0, o_objinit, o_aload 0, o_const (nI 24), o_newI 1, o_putA 9 0, o_aload 0, o_const (nI 24), o_newI 0, o_putA 9 1, o_aload 0, o_const (nI 24), o_newI 0, o_putA 9 2, o_aload 0, o_const (nI 960), o_newI 0, o_putA 9 3, o_aload 0, o_const (nI 6), o_newI 1, o_putA 9 6, o_aload 0, o_const (nI 6), o_newI 0, o_putA 9 7, o_aload 0, o_const (nI 6), o_newI 0, o_putA 9 8, o_aload 0, o_const (nI 12), o_newI 0, o_putA 9 13, o_aload 0, o_const (nI 12), o_newI 0, o_putA 9 14, o_aload 0, o_const (nI 12), o_newI 0, o_putA 9 15, o_aload 0, o_const (nI 12), o_newI 1, o_putA 9 16, o_aload 0, o_const (nI 2), o_newI 0, o_putA 9 17, o_aload 0, o_const (nI 2880), o_newI 0, o_putA 9 18, o_aload 0, o_const (nI 16), o_newI 0, o_putA 9 21, o_aload 0, o_const (nI 16), o_newI 0, o_putA 9 22, o_aload 0, o_const (nI 16), o_newI 0, o_putA 9 23, o_aload 0, o_const (nI 640), o_newI 0, o_putA 9 24, o_aload 0, o_const (nI 40), o_newI 0, o_putA 9 25, o_aload 0, o_const (nI 8), o_newI 0, o_putA 9 27], o_ret)]
noncomputable def sm_MD_init : List m_V → m_M → Option m_R := mt_sem cd_MD_init 1
theorem k_MD_init_0 (q : m_C) (Q : m_R → Prop) : mt_T cd_MD_init 0 q Q = mt_go [o_aload 0, o_objinit, o_aload 0, o_const (nI 24), o_newI 1, o_putA 9 0, o_aload 0, o_const (nI 24), o_newI 0, o_putA 9 1, o_aload 0, o_const (nI 24), o_newI 0, o_putA 9 2, o_aload 0, o_const (nI 960), o_newI 0, o_putA 9 3, o_aload 0, o_const (nI 6), o_newI 1, o_putA 9 6, o_aload 0, o_const (nI 6), o_newI 0, o_putA 9 7, o_aload 0, o_const (nI 6), o_newI 0, o_putA 9 8, o_aload 0, o_const (nI 12), o_newI 0, o_putA 9 13, o_aload 0, o_const (nI 12), o_newI 0, o_putA 9 14, o_aload 0, o_const (nI 12), o_newI 0, o_putA 9 15, o_aload 0, o_const (nI 12), o_newI 1, o_putA 9 16, o_aload 0, o_const (nI 2), o_newI 0, o_putA 9 17, o_aload 0, o_const (nI 2880), o_newI 0, o_putA 9 18, o_aload 0, o_const (nI 16), o_newI 0, o_putA 9 21, o_aload 0, o_const (nI 16), o_newI 0, o_putA 9 22, o_aload 0, o_const (nI 16), o_newI 0, o_putA 9 23, o_aload 0, o_const (nI 640), o_newI 0, o_putA 9 24, o_aload 0, o_const (nI 40), o_newI 0, o_putA 9 25, o_aload 0, o_const (nI 8), o_newI 0, o_putA 9 27] q (mt_kk cd_MD_init Q (o_ret)) := mt_blk rfl q Q
-- TreeCarrierModel.in (II)Z
noncomputable def cd_MD_in : List m_B := [(0, [o_iload 0], o_iflt 13 4), (4, [o_iload 0, o_iload 1], o_icgt 13 9), (9, [o_const (nI 1)], o_fall 14), (13, [o_const (nI 0)], o_fall 14), (14, [], o_zret)]
noncomputable def sm_MD_in : List m_V → m_M → Option m_R := mt_sem cd_MD_in 2
theorem k_MD_in_0 (q : m_C) (Q : m_R → Prop) : mt_T cd_MD_in 0 q Q = mt_go [o_iload 0] q (mt_kk cd_MD_in Q (o_iflt 13 4)) := mt_blk rfl q Q
theorem k_MD_in_4 (q : m_C) (Q : m_R → Prop) : mt_T cd_MD_in 4 q Q = mt_go [o_iload 0, o_iload 1] q (mt_kk cd_MD_in Q (o_icgt 13 9)) := mt_blk rfl q Q
theorem k_MD_in_9 (q : m_C) (Q : m_R → Prop) : mt_T cd_MD_in 9 q Q = mt_go [o_const (nI 1)] q (mt_kk cd_MD_in Q (o_fall 14)) := mt_blk rfl q Q
theorem k_MD_in_13 (q : m_C) (Q : m_R → Prop) : mt_T cd_MD_in 13 q Q = mt_go [o_const (nI 0)] q (mt_kk cd_MD_in Q (o_fall 14)) := mt_blk rfl q Q
theorem k_MD_in_14 (q : m_C) (Q : m_R → Prop) : mt_T cd_MD_in 14 q Q = mt_go [] q (mt_kk cd_MD_in Q (o_zret)) := mt_blk rfl q Q
-- TreeCarrierModel.add (I)V
noncomputable def cd_MD_add : List m_B := [(0, [o_aload 0, o_get 9 27, o_iload 1, o_aload 0, o_get 9 27, o_iload 1, o_iald, o_const (nI 1), o_add, o_iast], o_ret)]
noncomputable def sm_MD_add : List m_V → m_M → Option m_R := mt_sem cd_MD_add 2
theorem k_MD_add_0 (q : m_C) (Q : m_R → Prop) : mt_T cd_MD_add 0 q Q = mt_go [o_aload 0, o_get 9 27, o_iload 1, o_aload 0, o_get 9 27, o_iload 1, o_iald, o_const (nI 1), o_add, o_iast] q (mt_kk cd_MD_add Q (o_ret)) := mt_blk rfl q Q
-- TreeCarrierModel.rule (ZII)Z
noncomputable def cd_MD_rule : List m_B := [(0, [o_iload 2, o_const (nI 15)], o_callS sm_MD_in 2 6), (6, [], o_ifeq 27 9), (9, [o_iload 3, o_const (nI 15)], o_callS sm_MD_in 2 15), (15, [], o_ifeq 27 18), (18, [o_aload 0, o_get 9 5, o_const (nI 6)], o_iclt 29 27), (27, [o_const (nI 0)], o_zret), (29, [o_aload 0, o_get 9 6, o_aload 0, o_get 9 5, o_iload 1, o_zast, o_aload 0, o_get 9 7, o_aload 0, o_get 9 5, o_iload 2, o_iast, o_aload 0, o_get 9 8, o_aload 0, o_get 9 5, o_iload 3, o_iast, o_aload 0, o_aload 0, o_get 9 5, o_const (nI 1), o_add, o_putI 9 5, o_const (nI 1)], o_zret)]
noncomputable def sm_MD_rule : List m_V → m_M → Option m_R := mt_sem cd_MD_rule 4
theorem k_MD_rule_0 (q : m_C) (Q : m_R → Prop) : mt_T cd_MD_rule 0 q Q = mt_go [o_iload 2, o_const (nI 15)] q (mt_kk cd_MD_rule Q (o_callS sm_MD_in 2 6)) := mt_blk rfl q Q
theorem k_MD_rule_6 (q : m_C) (Q : m_R → Prop) : mt_T cd_MD_rule 6 q Q = mt_go [] q (mt_kk cd_MD_rule Q (o_ifeq 27 9)) := mt_blk rfl q Q
theorem k_MD_rule_9 (q : m_C) (Q : m_R → Prop) : mt_T cd_MD_rule 9 q Q = mt_go [o_iload 3, o_const (nI 15)] q (mt_kk cd_MD_rule Q (o_callS sm_MD_in 2 15)) := mt_blk rfl q Q
theorem k_MD_rule_15 (q : m_C) (Q : m_R → Prop) : mt_T cd_MD_rule 15 q Q = mt_go [] q (mt_kk cd_MD_rule Q (o_ifeq 27 18)) := mt_blk rfl q Q
theorem k_MD_rule_18 (q : m_C) (Q : m_R → Prop) : mt_T cd_MD_rule 18 q Q = mt_go [o_aload 0, o_get 9 5, o_const (nI 6)] q (mt_kk cd_MD_rule Q (o_iclt 29 27)) := mt_blk rfl q Q
theorem k_MD_rule_27 (q : m_C) (Q : m_R → Prop) : mt_T cd_MD_rule 27 q Q = mt_go [o_const (nI 0)] q (mt_kk cd_MD_rule Q (o_zret)) := mt_blk rfl q Q
theorem k_MD_rule_29 (q : m_C) (Q : m_R → Prop) : mt_T cd_MD_rule 29 q Q = mt_go [o_aload 0, o_get 9 6, o_aload 0, o_get 9 5, o_iload 1, o_zast, o_aload 0, o_get 9 7, o_aload 0, o_get 9 5, o_iload 2, o_iast, o_aload 0, o_get 9 8, o_aload 0, o_get 9 5, o_iload 3, o_iast, o_aload 0, o_aload 0, o_get 9 5, o_const (nI 1), o_add, o_putI 9 5, o_const (nI 1)] q (mt_kk cd_MD_rule Q (o_zret)) := mt_blk rfl q Q
-- TreeCarrierModel.isSelected (I)Z
noncomputable def cd_MD_isSelected : List m_B := [(0, [o_const (nI 1), o_istore 2, o_aload 0, o_get 9 5, o_const (nI 1), o_sub, o_istore 3], o_fall 9), (9, [o_iload 3], o_iflt 47 13), (13, [o_iload 1, o_aload 0, o_get 9 7, o_iload 3, o_iald, o_and, o_aload 0, o_get 9 8, o_iload 3, o_iald], o_icne 39 30), (30, [o_aload 0, o_get 9 6, o_iload 3, o_zald], o_fall 40), (39, [o_iload 2], o_fall 40), (40, [o_istore 2, o_iinc 3 (-1)], o_fall 9), (47, [o_iload 2], o_zret)]
noncomputable def sm_MD_isSelected : List m_V → m_M → Option m_R := mt_sem cd_MD_isSelected 4
theorem k_MD_isSelected_0 (q : m_C) (Q : m_R → Prop) : mt_T cd_MD_isSelected 0 q Q = mt_go [o_const (nI 1), o_istore 2, o_aload 0, o_get 9 5, o_const (nI 1), o_sub, o_istore 3] q (mt_kk cd_MD_isSelected Q (o_fall 9)) := mt_blk rfl q Q
theorem k_MD_isSelected_9 (q : m_C) (Q : m_R → Prop) : mt_T cd_MD_isSelected 9 q Q = mt_go [o_iload 3] q (mt_kk cd_MD_isSelected Q (o_iflt 47 13)) := mt_blk rfl q Q
theorem k_MD_isSelected_13 (q : m_C) (Q : m_R → Prop) : mt_T cd_MD_isSelected 13 q Q = mt_go [o_iload 1, o_aload 0, o_get 9 7, o_iload 3, o_iald, o_and, o_aload 0, o_get 9 8, o_iload 3, o_iald] q (mt_kk cd_MD_isSelected Q (o_icne 39 30)) := mt_blk rfl q Q
theorem k_MD_isSelected_30 (q : m_C) (Q : m_R → Prop) : mt_T cd_MD_isSelected 30 q Q = mt_go [o_aload 0, o_get 9 6, o_iload 3, o_zald] q (mt_kk cd_MD_isSelected Q (o_fall 40)) := mt_blk rfl q Q
theorem k_MD_isSelected_39 (q : m_C) (Q : m_R → Prop) : mt_T cd_MD_isSelected 39 q Q = mt_go [o_iload 2] q (mt_kk cd_MD_isSelected Q (o_fall 40)) := mt_blk rfl q Q
theorem k_MD_isSelected_40 (q : m_C) (Q : m_R → Prop) : mt_T cd_MD_isSelected 40 q Q = mt_go [o_istore 2, o_iinc 3 (-1)] q (mt_kk cd_MD_isSelected Q (o_fall 9)) := mt_blk rfl q Q
theorem k_MD_isSelected_47 (q : m_C) (Q : m_R → Prop) : mt_T cd_MD_isSelected 47 q Q = mt_go [o_iload 2] q (mt_kk cd_MD_isSelected Q (o_zret)) := mt_blk rfl q Q
-- TreeCarrierModel.selected (I)Z
noncomputable def cd_MD_selected : List m_B := [(0, [o_iload 1, o_const (nI 11)], o_callS sm_MD_in 2 6), (6, [], o_ifeq 21 9), (9, [o_aload 0, o_iload 1], o_callV sm_MD_isSelected 9 2 14), (14, [], o_ifeq 21 17), (17, [o_const (nI 1)], o_fall 22), (21, [o_const (nI 0)], o_fall 22), (22, [], o_zret)]
noncomputable def sm_MD_selected : List m_V → m_M → Option m_R := mt_sem cd_MD_selected 2
theorem k_MD_selected_0 (q : m_C) (Q : m_R → Prop) : mt_T cd_MD_selected 0 q Q = mt_go [o_iload 1, o_const (nI 11)] q (mt_kk cd_MD_selected Q (o_callS sm_MD_in 2 6)) := mt_blk rfl q Q
theorem k_MD_selected_6 (q : m_C) (Q : m_R → Prop) : mt_T cd_MD_selected 6 q Q = mt_go [] q (mt_kk cd_MD_selected Q (o_ifeq 21 9)) := mt_blk rfl q Q
theorem k_MD_selected_9 (q : m_C) (Q : m_R → Prop) : mt_T cd_MD_selected 9 q Q = mt_go [o_aload 0, o_iload 1] q (mt_kk cd_MD_selected Q (o_callV sm_MD_isSelected 9 2 14)) := mt_blk rfl q Q
theorem k_MD_selected_14 (q : m_C) (Q : m_R → Prop) : mt_T cd_MD_selected 14 q Q = mt_go [] q (mt_kk cd_MD_selected Q (o_ifeq 21 17)) := mt_blk rfl q Q
theorem k_MD_selected_17 (q : m_C) (Q : m_R → Prop) : mt_T cd_MD_selected 17 q Q = mt_go [o_const (nI 1)] q (mt_kk cd_MD_selected Q (o_fall 22)) := mt_blk rfl q Q
theorem k_MD_selected_21 (q : m_C) (Q : m_R → Prop) : mt_T cd_MD_selected 21 q Q = mt_go [o_const (nI 0)] q (mt_kk cd_MD_selected Q (o_fall 22)) := mt_blk rfl q Q
theorem k_MD_selected_22 (q : m_C) (Q : m_R → Prop) : mt_T cd_MD_selected 22 q Q = mt_go [] q (mt_kk cd_MD_selected Q (o_zret)) := mt_blk rfl q Q
-- TreeCarrierModel.file (II)I
noncomputable def cd_MD_file : List m_B := [(0, [o_iload 1, o_const (nI 1)], o_callS sm_MD_in 2 5), (5, [], o_ifeq 40 8), (8, [o_iload 2, o_const (nI 11)], o_callS sm_MD_in 2 14), (14, [], o_ifeq 40 17), (17, [o_aload 0, o_get 9 0, o_const (nI 12), o_iload 1, o_mul, o_iload 2, o_add, o_zald], o_ifeq 40 31), (31, [o_const (nI 12), o_iload 1, o_mul, o_iload 2, o_add], o_fall 41), (40, [o_const (-1)], o_fall 41), (41, [], o_iret)]
noncomputable def sm_MD_file : List m_V → m_M → Option m_R := mt_sem cd_MD_file 3
theorem k_MD_file_0 (q : m_C) (Q : m_R → Prop) : mt_T cd_MD_file 0 q Q = mt_go [o_iload 1, o_const (nI 1)] q (mt_kk cd_MD_file Q (o_callS sm_MD_in 2 5)) := mt_blk rfl q Q
theorem k_MD_file_5 (q : m_C) (Q : m_R → Prop) : mt_T cd_MD_file 5 q Q = mt_go [] q (mt_kk cd_MD_file Q (o_ifeq 40 8)) := mt_blk rfl q Q
theorem k_MD_file_8 (q : m_C) (Q : m_R → Prop) : mt_T cd_MD_file 8 q Q = mt_go [o_iload 2, o_const (nI 11)] q (mt_kk cd_MD_file Q (o_callS sm_MD_in 2 14)) := mt_blk rfl q Q
theorem k_MD_file_14 (q : m_C) (Q : m_R → Prop) : mt_T cd_MD_file 14 q Q = mt_go [] q (mt_kk cd_MD_file Q (o_ifeq 40 17)) := mt_blk rfl q Q
theorem k_MD_file_17 (q : m_C) (Q : m_R → Prop) : mt_T cd_MD_file 17 q Q = mt_go [o_aload 0, o_get 9 0, o_const (nI 12), o_iload 1, o_mul, o_iload 2, o_add, o_zald] q (mt_kk cd_MD_file Q (o_ifeq 40 31)) := mt_blk rfl q Q
theorem k_MD_file_31 (q : m_C) (Q : m_R → Prop) : mt_T cd_MD_file 31 q Q = mt_go [o_const (nI 12), o_iload 1, o_mul, o_iload 2, o_add] q (mt_kk cd_MD_file Q (o_fall 41)) := mt_blk rfl q Q
theorem k_MD_file_40 (q : m_C) (Q : m_R → Prop) : mt_T cd_MD_file 40 q Q = mt_go [o_const (-1)] q (mt_kk cd_MD_file Q (o_fall 41)) := mt_blk rfl q Q
theorem k_MD_file_41 (q : m_C) (Q : m_R → Prop) : mt_T cd_MD_file 41 q Q = mt_go [] q (mt_kk cd_MD_file Q (o_iret)) := mt_blk rfl q Q
-- TreeCarrierModel.touch (I)V
noncomputable def cd_MD_touch : List m_B := [(0, [o_aload 0, o_aload 0, o_get 9 4, o_const (nI 1), o_add, o_putI 9 4, o_aload 0, o_get 9 2, o_iload 1, o_aload 0, o_get 9 4, o_iast], o_ret)]
noncomputable def sm_MD_touch : List m_V → m_M → Option m_R := mt_sem cd_MD_touch 2
theorem k_MD_touch_0 (q : m_C) (Q : m_R → Prop) : mt_T cd_MD_touch 0 q Q = mt_go [o_aload 0, o_aload 0, o_get 9 4, o_const (nI 1), o_add, o_putI 9 4, o_aload 0, o_get 9 2, o_iload 1, o_aload 0, o_get 9 4, o_iast] q (mt_kk cd_MD_touch Q (o_ret)) := mt_blk rfl q Q
-- TreeCarrierModel.put (III)Z
noncomputable def cd_MD_put : List m_B := [(0, [o_iload 1, o_const (nI 1)], o_callS sm_MD_in 2 5), (5, [], o_ifeq 27 8), (8, [o_iload 2, o_const (nI 11)], o_callS sm_MD_in 2 14), (14, [], o_ifeq 27 17), (17, [o_iload 3, o_const (nI 255)], o_callS sm_MD_in 2 24), (24, [], o_ifne 29 27), (27, [o_const (nI 0)], o_zret), (29, [o_const (nI 12), o_iload 1, o_mul, o_iload 2, o_add, o_istore 4, o_aload 0, o_get 9 0, o_iload 4, o_zald], o_ifeq 57 47), (47, [o_aload 0, o_get 9 1, o_iload 4, o_iald], o_fall 58), (57, [o_const (nI 0)], o_fall 58), (58, [o_istore 5, o_iload 5, o_const (nI 40)], o_iclt 69 67), (67, [o_const (nI 0)], o_zret), (69, [o_aload 0, o_get 9 0, o_iload 4, o_const (nI 1), o_zast, o_aload 0, o_get 9 3, o_const (nI 40), o_iload 4, o_mul, o_iload 5, o_add, o_iload 3, o_iast, o_aload 0, o_get 9 1, o_iload 4, o_iload 5, o_const (nI 1), o_add, o_iast, o_aload 0, o_iload 4], o_callV sm_MD_touch 9 2 108), (108, [o_const (nI 1)], o_zret)]
noncomputable def sm_MD_put : List m_V → m_M → Option m_R := mt_sem cd_MD_put 6
theorem k_MD_put_0 (q : m_C) (Q : m_R → Prop) : mt_T cd_MD_put 0 q Q = mt_go [o_iload 1, o_const (nI 1)] q (mt_kk cd_MD_put Q (o_callS sm_MD_in 2 5)) := mt_blk rfl q Q
theorem k_MD_put_5 (q : m_C) (Q : m_R → Prop) : mt_T cd_MD_put 5 q Q = mt_go [] q (mt_kk cd_MD_put Q (o_ifeq 27 8)) := mt_blk rfl q Q
theorem k_MD_put_8 (q : m_C) (Q : m_R → Prop) : mt_T cd_MD_put 8 q Q = mt_go [o_iload 2, o_const (nI 11)] q (mt_kk cd_MD_put Q (o_callS sm_MD_in 2 14)) := mt_blk rfl q Q
theorem k_MD_put_14 (q : m_C) (Q : m_R → Prop) : mt_T cd_MD_put 14 q Q = mt_go [] q (mt_kk cd_MD_put Q (o_ifeq 27 17)) := mt_blk rfl q Q
theorem k_MD_put_17 (q : m_C) (Q : m_R → Prop) : mt_T cd_MD_put 17 q Q = mt_go [o_iload 3, o_const (nI 255)] q (mt_kk cd_MD_put Q (o_callS sm_MD_in 2 24)) := mt_blk rfl q Q
theorem k_MD_put_24 (q : m_C) (Q : m_R → Prop) : mt_T cd_MD_put 24 q Q = mt_go [] q (mt_kk cd_MD_put Q (o_ifne 29 27)) := mt_blk rfl q Q
theorem k_MD_put_27 (q : m_C) (Q : m_R → Prop) : mt_T cd_MD_put 27 q Q = mt_go [o_const (nI 0)] q (mt_kk cd_MD_put Q (o_zret)) := mt_blk rfl q Q
theorem k_MD_put_29 (q : m_C) (Q : m_R → Prop) : mt_T cd_MD_put 29 q Q = mt_go [o_const (nI 12), o_iload 1, o_mul, o_iload 2, o_add, o_istore 4, o_aload 0, o_get 9 0, o_iload 4, o_zald] q (mt_kk cd_MD_put Q (o_ifeq 57 47)) := mt_blk rfl q Q
theorem k_MD_put_47 (q : m_C) (Q : m_R → Prop) : mt_T cd_MD_put 47 q Q = mt_go [o_aload 0, o_get 9 1, o_iload 4, o_iald] q (mt_kk cd_MD_put Q (o_fall 58)) := mt_blk rfl q Q
theorem k_MD_put_57 (q : m_C) (Q : m_R → Prop) : mt_T cd_MD_put 57 q Q = mt_go [o_const (nI 0)] q (mt_kk cd_MD_put Q (o_fall 58)) := mt_blk rfl q Q
theorem k_MD_put_58 (q : m_C) (Q : m_R → Prop) : mt_T cd_MD_put 58 q Q = mt_go [o_istore 5, o_iload 5, o_const (nI 40)] q (mt_kk cd_MD_put Q (o_iclt 69 67)) := mt_blk rfl q Q
theorem k_MD_put_67 (q : m_C) (Q : m_R → Prop) : mt_T cd_MD_put 67 q Q = mt_go [o_const (nI 0)] q (mt_kk cd_MD_put Q (o_zret)) := mt_blk rfl q Q
theorem k_MD_put_69 (q : m_C) (Q : m_R → Prop) : mt_T cd_MD_put 69 q Q = mt_go [o_aload 0, o_get 9 0, o_iload 4, o_const (nI 1), o_zast, o_aload 0, o_get 9 3, o_const (nI 40), o_iload 4, o_mul, o_iload 5, o_add, o_iload 3, o_iast, o_aload 0, o_get 9 1, o_iload 4, o_iload 5, o_const (nI 1), o_add, o_iast, o_aload 0, o_iload 4] q (mt_kk cd_MD_put Q (o_callV sm_MD_touch 9 2 108)) := mt_blk rfl q Q
theorem k_MD_put_108 (q : m_C) (Q : m_R → Prop) : mt_T cd_MD_put 108 q Q = mt_go [o_const (nI 1)] q (mt_kk cd_MD_put Q (o_zret)) := mt_blk rfl q Q
-- TreeCarrierModel.set (IIII)Z
noncomputable def cd_MD_set : List m_B := [(0, [o_aload 0, o_iload 1, o_iload 2], o_callV sm_MD_file 9 3 6), (6, [o_istore 5, o_iload 5], o_iflt 40 13), (13, [o_iload 3, o_aload 0, o_get 9 1, o_iload 5, o_iald, o_const (nI 1), o_sub], o_callS sm_MD_in 2 26), (26, [], o_ifeq 40 29), (29, [o_iload 4, o_const (nI 255)], o_callS sm_MD_in 2 37), (37, [], o_ifne 42 40), (40, [o_const (nI 0)], o_zret), (42, [o_aload 0, o_get 9 3, o_const (nI 40), o_iload 5, o_mul, o_iload 3, o_add, o_iload 4, o_iast, o_aload 0, o_iload 5], o_callV sm_MD_touch 9 2 62), (62, [o_const (nI 1)], o_zret)]
noncomputable def sm_MD_set : List m_V → m_M → Option m_R := mt_sem cd_MD_set 6
theorem k_MD_set_0 (q : m_C) (Q : m_R → Prop) : mt_T cd_MD_set 0 q Q = mt_go [o_aload 0, o_iload 1, o_iload 2] q (mt_kk cd_MD_set Q (o_callV sm_MD_file 9 3 6)) := mt_blk rfl q Q
theorem k_MD_set_6 (q : m_C) (Q : m_R → Prop) : mt_T cd_MD_set 6 q Q = mt_go [o_istore 5, o_iload 5] q (mt_kk cd_MD_set Q (o_iflt 40 13)) := mt_blk rfl q Q
theorem k_MD_set_13 (q : m_C) (Q : m_R → Prop) : mt_T cd_MD_set 13 q Q = mt_go [o_iload 3, o_aload 0, o_get 9 1, o_iload 5, o_iald, o_const (nI 1), o_sub] q (mt_kk cd_MD_set Q (o_callS sm_MD_in 2 26)) := mt_blk rfl q Q
theorem k_MD_set_26 (q : m_C) (Q : m_R → Prop) : mt_T cd_MD_set 26 q Q = mt_go [] q (mt_kk cd_MD_set Q (o_ifeq 40 29)) := mt_blk rfl q Q
theorem k_MD_set_29 (q : m_C) (Q : m_R → Prop) : mt_T cd_MD_set 29 q Q = mt_go [o_iload 4, o_const (nI 255)] q (mt_kk cd_MD_set Q (o_callS sm_MD_in 2 37)) := mt_blk rfl q Q
theorem k_MD_set_37 (q : m_C) (Q : m_R → Prop) : mt_T cd_MD_set 37 q Q = mt_go [] q (mt_kk cd_MD_set Q (o_ifne 42 40)) := mt_blk rfl q Q
theorem k_MD_set_40 (q : m_C) (Q : m_R → Prop) : mt_T cd_MD_set 40 q Q = mt_go [o_const (nI 0)] q (mt_kk cd_MD_set Q (o_zret)) := mt_blk rfl q Q
theorem k_MD_set_42 (q : m_C) (Q : m_R → Prop) : mt_T cd_MD_set 42 q Q = mt_go [o_aload 0, o_get 9 3, o_const (nI 40), o_iload 5, o_mul, o_iload 3, o_add, o_iload 4, o_iast, o_aload 0, o_iload 5] q (mt_kk cd_MD_set Q (o_callV sm_MD_touch 9 2 62)) := mt_blk rfl q Q
theorem k_MD_set_62 (q : m_C) (Q : m_R → Prop) : mt_T cd_MD_set 62 q Q = mt_go [o_const (nI 1)] q (mt_kk cd_MD_set Q (o_zret)) := mt_blk rfl q Q
-- TreeCarrierModel.remove (II)Z
noncomputable def cd_MD_remove : List m_B := [(0, [o_aload 0, o_iload 1, o_iload 2], o_callV sm_MD_file 9 3 6), (6, [o_istore 3, o_iload 3], o_ifge 13 11), (11, [o_const (nI 0)], o_zret), (13, [o_aload 0, o_get 9 0, o_iload 3, o_const (nI 0), o_zast, o_aload 0, o_aload 0, o_get 9 4, o_const (nI 1), o_add, o_putI 9 4, o_const (nI 1)], o_zret)]
noncomputable def sm_MD_remove : List m_V → m_M → Option m_R := mt_sem cd_MD_remove 4
theorem k_MD_remove_0 (q : m_C) (Q : m_R → Prop) : mt_T cd_MD_remove 0 q Q = mt_go [o_aload 0, o_iload 1, o_iload 2] q (mt_kk cd_MD_remove Q (o_callV sm_MD_file 9 3 6)) := mt_blk rfl q Q
theorem k_MD_remove_6 (q : m_C) (Q : m_R → Prop) : mt_T cd_MD_remove 6 q Q = mt_go [o_istore 3, o_iload 3] q (mt_kk cd_MD_remove Q (o_ifge 13 11)) := mt_blk rfl q Q
theorem k_MD_remove_11 (q : m_C) (Q : m_R → Prop) : mt_T cd_MD_remove 11 q Q = mt_go [o_const (nI 0)] q (mt_kk cd_MD_remove Q (o_zret)) := mt_blk rfl q Q
theorem k_MD_remove_13 (q : m_C) (Q : m_R → Prop) : mt_T cd_MD_remove 13 q Q = mt_go [o_aload 0, o_get 9 0, o_iload 3, o_const (nI 0), o_zast, o_aload 0, o_aload 0, o_get 9 4, o_const (nI 1), o_add, o_putI 9 4, o_const (nI 1)] q (mt_kk cd_MD_remove Q (o_zret)) := mt_blk rfl q Q
-- TreeCarrierModel.size (II)I
noncomputable def cd_MD_size : List m_B := [(0, [o_aload 0, o_iload 1, o_iload 2], o_callV sm_MD_file 9 3 6), (6, [o_istore 3, o_iload 3], o_ifge 15 11), (11, [o_const (-1)], o_fall 21), (15, [o_aload 0, o_get 9 1, o_iload 3, o_iald], o_fall 21), (21, [], o_iret)]
noncomputable def sm_MD_size : List m_V → m_M → Option m_R := mt_sem cd_MD_size 4
theorem k_MD_size_0 (q : m_C) (Q : m_R → Prop) : mt_T cd_MD_size 0 q Q = mt_go [o_aload 0, o_iload 1, o_iload 2] q (mt_kk cd_MD_size Q (o_callV sm_MD_file 9 3 6)) := mt_blk rfl q Q
theorem k_MD_size_6 (q : m_C) (Q : m_R → Prop) : mt_T cd_MD_size 6 q Q = mt_go [o_istore 3, o_iload 3] q (mt_kk cd_MD_size Q (o_ifge 15 11)) := mt_blk rfl q Q
theorem k_MD_size_11 (q : m_C) (Q : m_R → Prop) : mt_T cd_MD_size 11 q Q = mt_go [o_const (-1)] q (mt_kk cd_MD_size Q (o_fall 21)) := mt_blk rfl q Q
theorem k_MD_size_15 (q : m_C) (Q : m_R → Prop) : mt_T cd_MD_size 15 q Q = mt_go [o_aload 0, o_get 9 1, o_iload 3, o_iald] q (mt_kk cd_MD_size Q (o_fall 21)) := mt_blk rfl q Q
theorem k_MD_size_21 (q : m_C) (Q : m_R → Prop) : mt_T cd_MD_size 21 q Q = mt_go [] q (mt_kk cd_MD_size Q (o_iret)) := mt_blk rfl q Q
-- TreeCarrierModel.at (III)I
noncomputable def cd_MD_at : List m_B := [(0, [o_aload 0, o_iload 1, o_iload 2], o_callV sm_MD_file 9 3 6), (6, [o_istore 4, o_iload 4], o_iflt 29 13), (13, [o_iload 3, o_aload 0, o_get 9 1, o_iload 4, o_iald, o_const (nI 1), o_sub], o_callS sm_MD_in 2 26), (26, [], o_ifne 33 29), (29, [o_const (-1)], o_fall 45), (33, [o_aload 0, o_get 9 3, o_const (nI 40), o_iload 4, o_mul, o_iload 3, o_add, o_iald], o_fall 45), (45, [], o_iret)]
noncomputable def sm_MD_at : List m_V → m_M → Option m_R := mt_sem cd_MD_at 5
theorem k_MD_at_0 (q : m_C) (Q : m_R → Prop) : mt_T cd_MD_at 0 q Q = mt_go [o_aload 0, o_iload 1, o_iload 2] q (mt_kk cd_MD_at Q (o_callV sm_MD_file 9 3 6)) := mt_blk rfl q Q
theorem k_MD_at_6 (q : m_C) (Q : m_R → Prop) : mt_T cd_MD_at 6 q Q = mt_go [o_istore 4, o_iload 4] q (mt_kk cd_MD_at Q (o_iflt 29 13)) := mt_blk rfl q Q
theorem k_MD_at_13 (q : m_C) (Q : m_R → Prop) : mt_T cd_MD_at 13 q Q = mt_go [o_iload 3, o_aload 0, o_get 9 1, o_iload 4, o_iald, o_const (nI 1), o_sub] q (mt_kk cd_MD_at Q (o_callS sm_MD_in 2 26)) := mt_blk rfl q Q
theorem k_MD_at_26 (q : m_C) (Q : m_R → Prop) : mt_T cd_MD_at 26 q Q = mt_go [] q (mt_kk cd_MD_at Q (o_ifne 33 29)) := mt_blk rfl q Q
theorem k_MD_at_29 (q : m_C) (Q : m_R → Prop) : mt_T cd_MD_at 29 q Q = mt_go [o_const (-1)] q (mt_kk cd_MD_at Q (o_fall 45)) := mt_blk rfl q Q
theorem k_MD_at_33 (q : m_C) (Q : m_R → Prop) : mt_T cd_MD_at 33 q Q = mt_go [o_aload 0, o_get 9 3, o_const (nI 40), o_iload 4, o_mul, o_iload 3, o_add, o_iald] q (mt_kk cd_MD_at Q (o_fall 45)) := mt_blk rfl q Q
theorem k_MD_at_45 (q : m_C) (Q : m_R → Prop) : mt_T cd_MD_at 45 q Q = mt_go [] q (mt_kk cd_MD_at Q (o_iret)) := mt_blk rfl q Q
-- TreeCarrierModel.time (II)I
noncomputable def cd_MD_time : List m_B := [(0, [o_aload 0, o_iload 1, o_iload 2], o_callV sm_MD_file 9 3 6), (6, [o_istore 3, o_iload 3], o_ifge 15 11), (11, [o_const (-1)], o_fall 21), (15, [o_aload 0, o_get 9 2, o_iload 3, o_iald], o_fall 21), (21, [], o_iret)]
noncomputable def sm_MD_time : List m_V → m_M → Option m_R := mt_sem cd_MD_time 4
theorem k_MD_time_0 (q : m_C) (Q : m_R → Prop) : mt_T cd_MD_time 0 q Q = mt_go [o_aload 0, o_iload 1, o_iload 2] q (mt_kk cd_MD_time Q (o_callV sm_MD_file 9 3 6)) := mt_blk rfl q Q
theorem k_MD_time_6 (q : m_C) (Q : m_R → Prop) : mt_T cd_MD_time 6 q Q = mt_go [o_istore 3, o_iload 3] q (mt_kk cd_MD_time Q (o_ifge 15 11)) := mt_blk rfl q Q
theorem k_MD_time_11 (q : m_C) (Q : m_R → Prop) : mt_T cd_MD_time 11 q Q = mt_go [o_const (-1)] q (mt_kk cd_MD_time Q (o_fall 21)) := mt_blk rfl q Q
theorem k_MD_time_15 (q : m_C) (Q : m_R → Prop) : mt_T cd_MD_time 15 q Q = mt_go [o_aload 0, o_get 9 2, o_iload 3, o_iald] q (mt_kk cd_MD_time Q (o_fall 21)) := mt_blk rfl q Q
theorem k_MD_time_21 (q : m_C) (Q : m_R → Prop) : mt_T cd_MD_time 21 q Q = mt_go [] q (mt_kk cd_MD_time Q (o_iret)) := mt_blk rfl q Q
-- TreeCarrierModel.weak (II)I
noncomputable def cd_MD_weak : List m_B := [(0, [o_const (nI 0), o_istore 3, o_const (nI 0), o_istore 4, o_const (nI 0), o_istore 5], o_fall 8), (8, [o_iload 5, o_iload 2], o_icge 51 14), (14, [o_iload 3, o_aload 0, o_get 9 3, o_iload 1, o_iload 5, o_add, o_iald, o_add, o_istore 3, o_iload 4, o_iload 2, o_iload 5, o_sub, o_aload 0, o_get 9 3, o_iload 1, o_iload 5, o_add, o_iald, o_mul, o_add, o_istore 4, o_iinc 5 (nI 1)], o_fall 8), (51, [o_iload 3, o_const (nI 16), o_rem, o_const (nI 16), o_iload 4, o_const (nI 16), o_rem, o_mul, o_add], o_iret)]
noncomputable def sm_MD_weak : List m_V → m_M → Option m_R := mt_sem cd_MD_weak 6
theorem k_MD_weak_0 (q : m_C) (Q : m_R → Prop) : mt_T cd_MD_weak 0 q Q = mt_go [o_const (nI 0), o_istore 3, o_const (nI 0), o_istore 4, o_const (nI 0), o_istore 5] q (mt_kk cd_MD_weak Q (o_fall 8)) := mt_blk rfl q Q
theorem k_MD_weak_8 (q : m_C) (Q : m_R → Prop) : mt_T cd_MD_weak 8 q Q = mt_go [o_iload 5, o_iload 2] q (mt_kk cd_MD_weak Q (o_icge 51 14)) := mt_blk rfl q Q
theorem k_MD_weak_14 (q : m_C) (Q : m_R → Prop) : mt_T cd_MD_weak 14 q Q = mt_go [o_iload 3, o_aload 0, o_get 9 3, o_iload 1, o_iload 5, o_add, o_iald, o_add, o_istore 3, o_iload 4, o_iload 2, o_iload 5, o_sub, o_aload 0, o_get 9 3, o_iload 1, o_iload 5, o_add, o_iald, o_mul, o_add, o_istore 4, o_iinc 5 (nI 1)] q (mt_kk cd_MD_weak Q (o_fall 8)) := mt_blk rfl q Q
theorem k_MD_weak_51 (q : m_C) (Q : m_R → Prop) : mt_T cd_MD_weak 51 q Q = mt_go [o_iload 3, o_const (nI 16), o_rem, o_const (nI 16), o_iload 4, o_const (nI 16), o_rem, o_mul, o_add] q (mt_kk cd_MD_weak Q (o_iret)) := mt_blk rfl q Q
-- TreeCarrierModel.strong (III)I
noncomputable def cd_MD_strong : List m_B := [(0, [o_const (nI 0), o_istore 4, o_const (nI 0), o_istore 5], o_fall 6), (6, [o_iload 5, o_iload 2], o_icge 40 12), (12, [o_iload 4, o_const (nI 31), o_mul, o_aload 0, o_get 9 3, o_iload 1, o_iload 5, o_add, o_iald, o_add, o_const (nI 1), o_add, o_const (nI 65521), o_rem, o_istore 4, o_iinc 5 (nI 1)], o_fall 6), (40, [o_iload 3, o_const (nI 1)], o_icne 52 45), (45, [o_iload 4, o_const (nI 4), o_rem], o_fall 54), (52, [o_iload 4], o_fall 54), (54, [], o_iret)]
noncomputable def sm_MD_strong : List m_V → m_M → Option m_R := mt_sem cd_MD_strong 6
theorem k_MD_strong_0 (q : m_C) (Q : m_R → Prop) : mt_T cd_MD_strong 0 q Q = mt_go [o_const (nI 0), o_istore 4, o_const (nI 0), o_istore 5] q (mt_kk cd_MD_strong Q (o_fall 6)) := mt_blk rfl q Q
theorem k_MD_strong_6 (q : m_C) (Q : m_R → Prop) : mt_T cd_MD_strong 6 q Q = mt_go [o_iload 5, o_iload 2] q (mt_kk cd_MD_strong Q (o_icge 40 12)) := mt_blk rfl q Q
theorem k_MD_strong_12 (q : m_C) (Q : m_R → Prop) : mt_T cd_MD_strong 12 q Q = mt_go [o_iload 4, o_const (nI 31), o_mul, o_aload 0, o_get 9 3, o_iload 1, o_iload 5, o_add, o_iald, o_add, o_const (nI 1), o_add, o_const (nI 65521), o_rem, o_istore 4, o_iinc 5 (nI 1)] q (mt_kk cd_MD_strong Q (o_fall 6)) := mt_blk rfl q Q
theorem k_MD_strong_40 (q : m_C) (Q : m_R → Prop) : mt_T cd_MD_strong 40 q Q = mt_go [o_iload 3, o_const (nI 1)] q (mt_kk cd_MD_strong Q (o_icne 52 45)) := mt_blk rfl q Q
theorem k_MD_strong_45 (q : m_C) (Q : m_R → Prop) : mt_T cd_MD_strong 45 q Q = mt_go [o_iload 4, o_const (nI 4), o_rem] q (mt_kk cd_MD_strong Q (o_fall 54)) := mt_blk rfl q Q
theorem k_MD_strong_52 (q : m_C) (Q : m_R → Prop) : mt_T cd_MD_strong 52 q Q = mt_go [o_iload 4] q (mt_kk cd_MD_strong Q (o_fall 54)) := mt_blk rfl q Q
theorem k_MD_strong_54 (q : m_C) (Q : m_R → Prop) : mt_T cd_MD_strong 54 q Q = mt_go [] q (mt_kk cd_MD_strong Q (o_iret)) := mt_blk rfl q Q
-- TreeCarrierModel.message (IIIIII)V
noncomputable def cd_MD_message : List m_B := [(0, [o_aload 0, o_const (nI 1440), o_iload 1, o_mul, o_const (nI 90), o_aload 0, o_get 9 17, o_iload 1, o_iald, o_mul, o_add, o_putI 9 19, o_aload 0, o_get 9 17, o_iload 1, o_aload 0, o_get 9 17, o_iload 1, o_iald, o_const (nI 1), o_add, o_iast, o_aload 0, o_get 9 18, o_aload 0, o_get 9 19, o_iload 2, o_iast, o_aload 0, o_get 9 18, o_aload 0, o_get 9 19, o_const (nI 1), o_add, o_iload 3, o_iast, o_aload 0, o_get 9 18, o_aload 0, o_get 9 19, o_const (nI 2), o_add, o_iload 4, o_iast, o_aload 0, o_get 9 18, o_aload 0, o_get 9 19, o_const (nI 3), o_add, o_iload 5, o_iast, o_aload 0, o_get 9 18, o_aload 0, o_get 9 19, o_const (nI 4), o_add, o_iload 6, o_iast, o_aload 0, o_get 9 18, o_aload 0, o_get 9 19, o_const (nI 5), o_add, o_const (nI 0), o_iast], o_ret)]
noncomputable def sm_MD_message : List m_V → m_M → Option m_R := mt_sem cd_MD_message 7
theorem k_MD_message_0 (q : m_C) (Q : m_R → Prop) : mt_T cd_MD_message 0 q Q = mt_go [o_aload 0, o_const (nI 1440), o_iload 1, o_mul, o_const (nI 90), o_aload 0, o_get 9 17, o_iload 1, o_iald, o_mul, o_add, o_putI 9 19, o_aload 0, o_get 9 17, o_iload 1, o_aload 0, o_get 9 17, o_iload 1, o_iald, o_const (nI 1), o_add, o_iast, o_aload 0, o_get 9 18, o_aload 0, o_get 9 19, o_iload 2, o_iast, o_aload 0, o_get 9 18, o_aload 0, o_get 9 19, o_const (nI 1), o_add, o_iload 3, o_iast, o_aload 0, o_get 9 18, o_aload 0, o_get 9 19, o_const (nI 2), o_add, o_iload 4, o_iast, o_aload 0, o_get 9 18, o_aload 0, o_get 9 19, o_const (nI 3), o_add, o_iload 5, o_iast, o_aload 0, o_get 9 18, o_aload 0, o_get 9 19, o_const (nI 4), o_add, o_iload 6, o_iast, o_aload 0, o_get 9 18, o_aload 0, o_get 9 19, o_const (nI 5), o_add, o_const (nI 0), o_iast] q (mt_kk cd_MD_message Q (o_ret)) := mt_blk rfl q Q
-- TreeCarrierModel.more (I)V
noncomputable def cd_MD_more : List m_B := [(0, [o_aload 0, o_get 9 18, o_aload 0, o_get 9 19, o_const (nI 6), o_add, o_aload 0, o_get 9 18, o_aload 0, o_get 9 19, o_const (nI 5), o_add, o_iald, o_add, o_iload 1, o_iast, o_aload 0, o_get 9 18, o_aload 0, o_get 9 19, o_const (nI 5), o_add, o_aload 0, o_get 9 18, o_aload 0, o_get 9 19, o_const (nI 5), o_add, o_iald, o_const (nI 1), o_add, o_iast], o_ret)]
noncomputable def sm_MD_more : List m_V → m_M → Option m_R := mt_sem cd_MD_more 2
theorem k_MD_more_0 (q : m_C) (Q : m_R → Prop) : mt_T cd_MD_more 0 q Q = mt_go [o_aload 0, o_get 9 18, o_aload 0, o_get 9 19, o_const (nI 6), o_add, o_aload 0, o_get 9 18, o_aload 0, o_get 9 19, o_const (nI 5), o_add, o_iald, o_add, o_iload 1, o_iast, o_aload 0, o_get 9 18, o_aload 0, o_get 9 19, o_const (nI 5), o_add, o_aload 0, o_get 9 18, o_aload 0, o_get 9 19, o_const (nI 5), o_add, o_iald, o_const (nI 1), o_add, o_iast] q (mt_kk cd_MD_more Q (o_ret)) := mt_blk rfl q Q
-- TreeCarrierModel.sendSignature (II)V
noncomputable def cd_MD_sendSignature : List m_B := [(0, [o_aload 0, o_const (nI 0), o_const (nI 3), o_iload 1, o_iload 2, o_const (nI 0), o_const (nI 0)], o_callV sm_MD_message 9 7 10), (10, [o_aload 0, o_const (nI 1), o_iload 1], o_callV sm_MD_file 9 3 16), (16, [o_istore 3, o_iload 3], o_ifge 25 21), (21, [o_const (nI 0)], o_fall 36), (25, [o_aload 0, o_get 9 1, o_iload 3, o_iald, o_aload 0, o_get 9 10, o_div], o_fall 36), (36, [o_istore 4, o_const (nI 0), o_istore 5], o_fall 41), (41, [o_iload 5, o_iload 4], o_icge 97 48), (48, [o_const (nI 40), o_iload 3, o_mul, o_iload 5, o_aload 0, o_get 9 10, o_mul, o_add, o_istore 6, o_aload 0, o_aload 0, o_iload 6, o_aload 0, o_get 9 10], o_callV sm_MD_weak 9 3 73), (73, [], o_callV sm_MD_more 9 2 76), (76, [o_aload 0, o_aload 0, o_iload 6, o_aload 0, o_get 9 10, o_iload 2], o_callV sm_MD_strong 9 4 88), (88, [], o_callV sm_MD_more 9 2 91), (91, [o_iinc 5 (nI 1)], o_fall 41), (97, [], o_ret)]
noncomputable def sm_MD_sendSignature : List m_V → m_M → Option m_R := mt_sem cd_MD_sendSignature 7
theorem k_MD_sendSignature_0 (q : m_C) (Q : m_R → Prop) : mt_T cd_MD_sendSignature 0 q Q = mt_go [o_aload 0, o_const (nI 0), o_const (nI 3), o_iload 1, o_iload 2, o_const (nI 0), o_const (nI 0)] q (mt_kk cd_MD_sendSignature Q (o_callV sm_MD_message 9 7 10)) := mt_blk rfl q Q
theorem k_MD_sendSignature_10 (q : m_C) (Q : m_R → Prop) : mt_T cd_MD_sendSignature 10 q Q = mt_go [o_aload 0, o_const (nI 1), o_iload 1] q (mt_kk cd_MD_sendSignature Q (o_callV sm_MD_file 9 3 16)) := mt_blk rfl q Q
theorem k_MD_sendSignature_16 (q : m_C) (Q : m_R → Prop) : mt_T cd_MD_sendSignature 16 q Q = mt_go [o_istore 3, o_iload 3] q (mt_kk cd_MD_sendSignature Q (o_ifge 25 21)) := mt_blk rfl q Q
theorem k_MD_sendSignature_21 (q : m_C) (Q : m_R → Prop) : mt_T cd_MD_sendSignature 21 q Q = mt_go [o_const (nI 0)] q (mt_kk cd_MD_sendSignature Q (o_fall 36)) := mt_blk rfl q Q
theorem k_MD_sendSignature_25 (q : m_C) (Q : m_R → Prop) : mt_T cd_MD_sendSignature 25 q Q = mt_go [o_aload 0, o_get 9 1, o_iload 3, o_iald, o_aload 0, o_get 9 10, o_div] q (mt_kk cd_MD_sendSignature Q (o_fall 36)) := mt_blk rfl q Q
theorem k_MD_sendSignature_36 (q : m_C) (Q : m_R → Prop) : mt_T cd_MD_sendSignature 36 q Q = mt_go [o_istore 4, o_const (nI 0), o_istore 5] q (mt_kk cd_MD_sendSignature Q (o_fall 41)) := mt_blk rfl q Q
theorem k_MD_sendSignature_41 (q : m_C) (Q : m_R → Prop) : mt_T cd_MD_sendSignature 41 q Q = mt_go [o_iload 5, o_iload 4] q (mt_kk cd_MD_sendSignature Q (o_icge 97 48)) := mt_blk rfl q Q
theorem k_MD_sendSignature_48 (q : m_C) (Q : m_R → Prop) : mt_T cd_MD_sendSignature 48 q Q = mt_go [o_const (nI 40), o_iload 3, o_mul, o_iload 5, o_aload 0, o_get 9 10, o_mul, o_add, o_istore 6, o_aload 0, o_aload 0, o_iload 6, o_aload 0, o_get 9 10] q (mt_kk cd_MD_sendSignature Q (o_callV sm_MD_weak 9 3 73)) := mt_blk rfl q Q
theorem k_MD_sendSignature_73 (q : m_C) (Q : m_R → Prop) : mt_T cd_MD_sendSignature 73 q Q = mt_go [] q (mt_kk cd_MD_sendSignature Q (o_callV sm_MD_more 9 2 76)) := mt_blk rfl q Q
theorem k_MD_sendSignature_76 (q : m_C) (Q : m_R → Prop) : mt_T cd_MD_sendSignature 76 q Q = mt_go [o_aload 0, o_aload 0, o_iload 6, o_aload 0, o_get 9 10, o_iload 2] q (mt_kk cd_MD_sendSignature Q (o_callV sm_MD_strong 9 4 88)) := mt_blk rfl q Q
theorem k_MD_sendSignature_88 (q : m_C) (Q : m_R → Prop) : mt_T cd_MD_sendSignature 88 q Q = mt_go [] q (mt_kk cd_MD_sendSignature Q (o_callV sm_MD_more 9 2 91)) := mt_blk rfl q Q
theorem k_MD_sendSignature_91 (q : m_C) (Q : m_R → Prop) : mt_T cd_MD_sendSignature 91 q Q = mt_go [o_iinc 5 (nI 1)] q (mt_kk cd_MD_sendSignature Q (o_fall 41)) := mt_blk rfl q Q
theorem k_MD_sendSignature_97 (q : m_C) (Q : m_R → Prop) : mt_T cd_MD_sendSignature 97 q Q = mt_go [] q (mt_kk cd_MD_sendSignature Q (o_ret)) := mt_blk rfl q Q
-- TreeCarrierModel.finishRecord ()V
noncomputable def cd_MD_finishRecord : List m_B := [(0, [o_const (nI 12), o_aload 0, o_get 9 21, o_const (nI 0), o_iald, o_add, o_istore 1, o_aload 0, o_get 9 0, o_iload 1, o_const (nI 1), o_zast, o_aload 0, o_get 9 1, o_iload 1, o_aload 0, o_get 9 23, o_const (nI 0), o_iald, o_iast, o_aload 0, o_get 9 2, o_iload 1, o_aload 0, o_get 9 22, o_const (nI 0), o_iald, o_iast, o_const (nI 0), o_istore 2], o_fall 43), (43, [o_iload 2, o_const (nI 40)], o_icge 72 49), (49, [o_aload 0, o_get 9 3, o_const (nI 40), o_iload 1, o_mul, o_iload 2, o_add, o_aload 0, o_get 9 24, o_iload 2, o_iald, o_iast, o_iinc 2 (nI 1)], o_fall 43), (72, [o_aload 0, o_aload 0, o_get 9 20, o_const (nI 1), o_sub, o_putI 9 20, o_const (nI 0), o_istore 2], o_fall 84), (84, [o_iload 2, o_aload 0, o_get 9 20], o_icge 140 92), (92, [o_aload 0, o_get 9 21, o_iload 2, o_aload 0, o_get 9 21, o_iload 2, o_const (nI 1), o_add, o_iald, o_iast, o_aload 0, o_get 9 22, o_iload 2, o_aload 0, o_get 9 22, o_iload 2, o_const (nI 1), o_add, o_iald, o_iast, o_aload 0, o_get 9 23, o_iload 2, o_aload 0, o_get 9 23, o_iload 2, o_const (nI 1), o_add, o_iald, o_iast, o_iinc 2 (nI 1)], o_fall 84), (140, [o_const (nI 0), o_istore 2], o_fall 142), (142, [o_iload 2, o_const (nI 40), o_aload 0, o_get 9 20, o_mul], o_icge 174 153), (153, [o_aload 0, o_get 9 24, o_iload 2, o_aload 0, o_get 9 24, o_iload 2, o_const (nI 40), o_add, o_iald, o_iast, o_iinc 2 (nI 1)], o_fall 142), (174, [o_aload 0, o_const (nI 7)], o_callV sm_MD_add 9 2 180), (180, [], o_ret)]
noncomputable def sm_MD_finishRecord : List m_V → m_M → Option m_R := mt_sem cd_MD_finishRecord 3
theorem k_MD_finishRecord_0 (q : m_C) (Q : m_R → Prop) : mt_T cd_MD_finishRecord 0 q Q = mt_go [o_const (nI 12), o_aload 0, o_get 9 21, o_const (nI 0), o_iald, o_add, o_istore 1, o_aload 0, o_get 9 0, o_iload 1, o_const (nI 1), o_zast, o_aload 0, o_get 9 1, o_iload 1, o_aload 0, o_get 9 23, o_const (nI 0), o_iald, o_iast, o_aload 0, o_get 9 2, o_iload 1, o_aload 0, o_get 9 22, o_const (nI 0), o_iald, o_iast, o_const (nI 0), o_istore 2] q (mt_kk cd_MD_finishRecord Q (o_fall 43)) := mt_blk rfl q Q
theorem k_MD_finishRecord_43 (q : m_C) (Q : m_R → Prop) : mt_T cd_MD_finishRecord 43 q Q = mt_go [o_iload 2, o_const (nI 40)] q (mt_kk cd_MD_finishRecord Q (o_icge 72 49)) := mt_blk rfl q Q
theorem k_MD_finishRecord_49 (q : m_C) (Q : m_R → Prop) : mt_T cd_MD_finishRecord 49 q Q = mt_go [o_aload 0, o_get 9 3, o_const (nI 40), o_iload 1, o_mul, o_iload 2, o_add, o_aload 0, o_get 9 24, o_iload 2, o_iald, o_iast, o_iinc 2 (nI 1)] q (mt_kk cd_MD_finishRecord Q (o_fall 43)) := mt_blk rfl q Q
theorem k_MD_finishRecord_72 (q : m_C) (Q : m_R → Prop) : mt_T cd_MD_finishRecord 72 q Q = mt_go [o_aload 0, o_aload 0, o_get 9 20, o_const (nI 1), o_sub, o_putI 9 20, o_const (nI 0), o_istore 2] q (mt_kk cd_MD_finishRecord Q (o_fall 84)) := mt_blk rfl q Q
theorem k_MD_finishRecord_84 (q : m_C) (Q : m_R → Prop) : mt_T cd_MD_finishRecord 84 q Q = mt_go [o_iload 2, o_aload 0, o_get 9 20] q (mt_kk cd_MD_finishRecord Q (o_icge 140 92)) := mt_blk rfl q Q
theorem k_MD_finishRecord_92 (q : m_C) (Q : m_R → Prop) : mt_T cd_MD_finishRecord 92 q Q = mt_go [o_aload 0, o_get 9 21, o_iload 2, o_aload 0, o_get 9 21, o_iload 2, o_const (nI 1), o_add, o_iald, o_iast, o_aload 0, o_get 9 22, o_iload 2, o_aload 0, o_get 9 22, o_iload 2, o_const (nI 1), o_add, o_iald, o_iast, o_aload 0, o_get 9 23, o_iload 2, o_aload 0, o_get 9 23, o_iload 2, o_const (nI 1), o_add, o_iald, o_iast, o_iinc 2 (nI 1)] q (mt_kk cd_MD_finishRecord Q (o_fall 84)) := mt_blk rfl q Q
theorem k_MD_finishRecord_140 (q : m_C) (Q : m_R → Prop) : mt_T cd_MD_finishRecord 140 q Q = mt_go [o_const (nI 0), o_istore 2] q (mt_kk cd_MD_finishRecord Q (o_fall 142)) := mt_blk rfl q Q
theorem k_MD_finishRecord_142 (q : m_C) (Q : m_R → Prop) : mt_T cd_MD_finishRecord 142 q Q = mt_go [o_iload 2, o_const (nI 40), o_aload 0, o_get 9 20, o_mul] q (mt_kk cd_MD_finishRecord Q (o_icge 174 153)) := mt_blk rfl q Q
theorem k_MD_finishRecord_153 (q : m_C) (Q : m_R → Prop) : mt_T cd_MD_finishRecord 153 q Q = mt_go [o_aload 0, o_get 9 24, o_iload 2, o_aload 0, o_get 9 24, o_iload 2, o_const (nI 40), o_add, o_iald, o_iast, o_iinc 2 (nI 1)] q (mt_kk cd_MD_finishRecord Q (o_fall 142)) := mt_blk rfl q Q
theorem k_MD_finishRecord_174 (q : m_C) (Q : m_R → Prop) : mt_T cd_MD_finishRecord 174 q Q = mt_go [o_aload 0, o_const (nI 7)] q (mt_kk cd_MD_finishRecord Q (o_callV sm_MD_add 9 2 180)) := mt_blk rfl q Q
theorem k_MD_finishRecord_180 (q : m_C) (Q : m_R → Prop) : mt_T cd_MD_finishRecord 180 q Q = mt_go [] q (mt_kk cd_MD_finishRecord Q (o_ret)) := mt_blk rfl q Q
-- TreeCarrierModel.finishAll ()V
noncomputable def cd_MD_finishAll : List m_B := [(0, [o_aload 0, o_get 9 20, o_istore 1], o_fall 5), (5, [o_iload 1], o_ifle 19 9), (9, [o_aload 0], o_callV sm_MD_finishRecord 9 1 13), (13, [o_iinc 1 (-1)], o_fall 5), (19, [], o_ret)]
noncomputable def sm_MD_finishAll : List m_V → m_M → Option m_R := mt_sem cd_MD_finishAll 2
theorem k_MD_finishAll_0 (q : m_C) (Q : m_R → Prop) : mt_T cd_MD_finishAll 0 q Q = mt_go [o_aload 0, o_get 9 20, o_istore 1] q (mt_kk cd_MD_finishAll Q (o_fall 5)) := mt_blk rfl q Q
theorem k_MD_finishAll_5 (q : m_C) (Q : m_R → Prop) : mt_T cd_MD_finishAll 5 q Q = mt_go [o_iload 1] q (mt_kk cd_MD_finishAll Q (o_ifle 19 9)) := mt_blk rfl q Q
theorem k_MD_finishAll_9 (q : m_C) (Q : m_R → Prop) : mt_T cd_MD_finishAll 9 q Q = mt_go [o_aload 0] q (mt_kk cd_MD_finishAll Q (o_callV sm_MD_finishRecord 9 1 13)) := mt_blk rfl q Q
theorem k_MD_finishAll_13 (q : m_C) (Q : m_R → Prop) : mt_T cd_MD_finishAll 13 q Q = mt_go [o_iinc 1 (-1)] q (mt_kk cd_MD_finishAll Q (o_fall 5)) := mt_blk rfl q Q
theorem k_MD_finishAll_19 (q : m_C) (Q : m_R → Prop) : mt_T cd_MD_finishAll 19 q Q = mt_go [] q (mt_kk cd_MD_finishAll Q (o_ret)) := mt_blk rfl q Q
-- TreeCarrierModel.begin (IZ)Z
noncomputable def cd_MD_begin : List m_B := [(0, [o_aload 0, o_get 9 9], o_ifne 18 7), (7, [o_iload 1, o_const (nI 1)], o_iclt 18 12), (12, [o_iload 1, o_const (nI 8)], o_icle 20 18), (18, [o_const (nI 0)], o_zret), (20, [o_aload 0, o_const (nI 1), o_putZ 9 9, o_aload 0, o_iload 1, o_putI 9 10, o_aload 0, o_iload 2, o_putZ 9 11, o_aload 0, o_const (nI 0), o_putI 9 12, o_aload 0], o_callV sm_MD_finishAll 9 1 44), (44, [o_const (nI 0), o_istore 3], o_fall 46), (46, [o_iload 3, o_const (nI 12)], o_icge 95 52), (52, [o_aload 0, o_iload 3], o_callV sm_MD_isSelected 9 2 57), (57, [], o_ifeq 89 60), (60, [o_aload 0, o_get 9 0, o_iload 3, o_zald], o_ifeq 89 69), (69, [o_aload 0, o_const (nI 1), o_const (nI 1), o_iload 3, o_const (nI 0), o_aload 0, o_get 9 1, o_iload 3, o_iald, o_aload 0, o_get 9 2, o_iload 3, o_iald], o_callV sm_MD_message 9 7 89), (89, [o_iinc 3 (nI 1)], o_fall 46), (95, [o_aload 0, o_const (nI 1), o_const (nI 2), o_const (nI 0), o_const (nI 0), o_const (nI 0), o_const (nI 0)], o_callV sm_MD_message 9 7 105), (105, [o_const (nI 1)], o_zret)]
noncomputable def sm_MD_begin : List m_V → m_M → Option m_R := mt_sem cd_MD_begin 4
theorem k_MD_begin_0 (q : m_C) (Q : m_R → Prop) : mt_T cd_MD_begin 0 q Q = mt_go [o_aload 0, o_get 9 9] q (mt_kk cd_MD_begin Q (o_ifne 18 7)) := mt_blk rfl q Q
theorem k_MD_begin_7 (q : m_C) (Q : m_R → Prop) : mt_T cd_MD_begin 7 q Q = mt_go [o_iload 1, o_const (nI 1)] q (mt_kk cd_MD_begin Q (o_iclt 18 12)) := mt_blk rfl q Q
theorem k_MD_begin_12 (q : m_C) (Q : m_R → Prop) : mt_T cd_MD_begin 12 q Q = mt_go [o_iload 1, o_const (nI 8)] q (mt_kk cd_MD_begin Q (o_icle 20 18)) := mt_blk rfl q Q
theorem k_MD_begin_18 (q : m_C) (Q : m_R → Prop) : mt_T cd_MD_begin 18 q Q = mt_go [o_const (nI 0)] q (mt_kk cd_MD_begin Q (o_zret)) := mt_blk rfl q Q
theorem k_MD_begin_20 (q : m_C) (Q : m_R → Prop) : mt_T cd_MD_begin 20 q Q = mt_go [o_aload 0, o_const (nI 1), o_putZ 9 9, o_aload 0, o_iload 1, o_putI 9 10, o_aload 0, o_iload 2, o_putZ 9 11, o_aload 0, o_const (nI 0), o_putI 9 12, o_aload 0] q (mt_kk cd_MD_begin Q (o_callV sm_MD_finishAll 9 1 44)) := mt_blk rfl q Q
theorem k_MD_begin_44 (q : m_C) (Q : m_R → Prop) : mt_T cd_MD_begin 44 q Q = mt_go [o_const (nI 0), o_istore 3] q (mt_kk cd_MD_begin Q (o_fall 46)) := mt_blk rfl q Q
theorem k_MD_begin_46 (q : m_C) (Q : m_R → Prop) : mt_T cd_MD_begin 46 q Q = mt_go [o_iload 3, o_const (nI 12)] q (mt_kk cd_MD_begin Q (o_icge 95 52)) := mt_blk rfl q Q
theorem k_MD_begin_52 (q : m_C) (Q : m_R → Prop) : mt_T cd_MD_begin 52 q Q = mt_go [o_aload 0, o_iload 3] q (mt_kk cd_MD_begin Q (o_callV sm_MD_isSelected 9 2 57)) := mt_blk rfl q Q
theorem k_MD_begin_57 (q : m_C) (Q : m_R → Prop) : mt_T cd_MD_begin 57 q Q = mt_go [] q (mt_kk cd_MD_begin Q (o_ifeq 89 60)) := mt_blk rfl q Q
theorem k_MD_begin_60 (q : m_C) (Q : m_R → Prop) : mt_T cd_MD_begin 60 q Q = mt_go [o_aload 0, o_get 9 0, o_iload 3, o_zald] q (mt_kk cd_MD_begin Q (o_ifeq 89 69)) := mt_blk rfl q Q
theorem k_MD_begin_69 (q : m_C) (Q : m_R → Prop) : mt_T cd_MD_begin 69 q Q = mt_go [o_aload 0, o_const (nI 1), o_const (nI 1), o_iload 3, o_const (nI 0), o_aload 0, o_get 9 1, o_iload 3, o_iald, o_aload 0, o_get 9 2, o_iload 3, o_iald] q (mt_kk cd_MD_begin Q (o_callV sm_MD_message 9 7 89)) := mt_blk rfl q Q
theorem k_MD_begin_89 (q : m_C) (Q : m_R → Prop) : mt_T cd_MD_begin 89 q Q = mt_go [o_iinc 3 (nI 1)] q (mt_kk cd_MD_begin Q (o_fall 46)) := mt_blk rfl q Q
theorem k_MD_begin_95 (q : m_C) (Q : m_R → Prop) : mt_T cd_MD_begin 95 q Q = mt_go [o_aload 0, o_const (nI 1), o_const (nI 2), o_const (nI 0), o_const (nI 0), o_const (nI 0), o_const (nI 0)] q (mt_kk cd_MD_begin Q (o_callV sm_MD_message 9 7 105)) := mt_blk rfl q Q
theorem k_MD_begin_105 (q : m_C) (Q : m_R → Prop) : mt_T cd_MD_begin 105 q Q = mt_go [o_const (nI 1)] q (mt_kk cd_MD_begin Q (o_zret)) := mt_blk rfl q Q
-- TreeCarrierModel.over ()V
noncomputable def cd_MD_over : List m_B := [(0, [o_aload 0, o_const (nI 0), o_putZ 9 9, o_aload 0, o_const (nI 0), o_putI 9 12, o_aload 0, o_get 9 17, o_const (nI 0), o_const (nI 0), o_iast, o_aload 0, o_get 9 17, o_const (nI 1), o_const (nI 0), o_iast], o_ret)]
noncomputable def sm_MD_over : List m_V → m_M → Option m_R := mt_sem cd_MD_over 1
theorem k_MD_over_0 (q : m_C) (Q : m_R → Prop) : mt_T cd_MD_over 0 q Q = mt_go [o_aload 0, o_const (nI 0), o_putZ 9 9, o_aload 0, o_const (nI 0), o_putI 9 12, o_aload 0, o_get 9 17, o_const (nI 0), o_const (nI 0), o_iast, o_aload 0, o_get 9 17, o_const (nI 1), o_const (nI 0), o_iast] q (mt_kk cd_MD_over Q (o_ret)) := mt_blk rfl q Q
-- TreeCarrierModel.crash ()Z
noncomputable def cd_MD_crash : List m_B := [(0, [o_aload 0, o_get 9 9], o_ifne 9 7), (7, [o_const (nI 0)], o_zret), (9, [o_aload 0], o_callV sm_MD_over 9 1 13), (13, [o_const (nI 1)], o_zret)]
noncomputable def sm_MD_crash : List m_V → m_M → Option m_R := mt_sem cd_MD_crash 1
theorem k_MD_crash_0 (q : m_C) (Q : m_R → Prop) : mt_T cd_MD_crash 0 q Q = mt_go [o_aload 0, o_get 9 9] q (mt_kk cd_MD_crash Q (o_ifne 9 7)) := mt_blk rfl q Q
theorem k_MD_crash_7 (q : m_C) (Q : m_R → Prop) : mt_T cd_MD_crash 7 q Q = mt_go [o_const (nI 0)] q (mt_kk cd_MD_crash Q (o_zret)) := mt_blk rfl q Q
theorem k_MD_crash_9 (q : m_C) (Q : m_R → Prop) : mt_T cd_MD_crash 9 q Q = mt_go [o_aload 0] q (mt_kk cd_MD_crash Q (o_callV sm_MD_over 9 1 13)) := mt_blk rfl q Q
theorem k_MD_crash_13 (q : m_C) (Q : m_R → Prop) : mt_T cd_MD_crash 13 q Q = mt_go [o_const (nI 1)] q (mt_kk cd_MD_crash Q (o_zret)) := mt_blk rfl q Q
-- TreeCarrierModel.concludeIfDone ()V
noncomputable def cd_MD_concludeIfDone : List m_B := [(0, [o_const (nI 1), o_istore 1, o_const (nI 0), o_istore 2], o_fall 4), (4, [o_iload 2, o_aload 0, o_get 9 12], o_icge 37 12), (12, [o_iload 1], o_ifeq 29 16), (16, [o_aload 0, o_get 9 16, o_iload 2, o_zald], o_ifne 29 25), (25, [o_const (nI 1)], o_fall 30), (29, [o_const (nI 0)], o_fall 30), (30, [o_istore 1, o_iinc 2 (nI 1)], o_fall 4), (37, [o_iload 1], o_ifne 42 41), (41, [], o_ret), (42, [o_aload 0], o_callV sm_MD_finishAll 9 1 46), (46, [o_const (nI 0), o_istore 2], o_fall 48), (48, [o_iload 2, o_const (nI 12)], o_icge 148 54), (54, [o_const (nI 0), o_istore 3, o_const (nI 0), o_istore 4], o_fall 59), (59, [o_iload 4, o_aload 0, o_get 9 12], o_icge 95 68), (68, [o_iload 3], o_ifne 83 72), (72, [o_aload 0, o_get 9 13, o_iload 4, o_iald, o_iload 2], o_icne 87 83), (83, [o_const (nI 1)], o_fall 88), (87, [o_const (nI 0)], o_fall 88), (88, [o_istore 3, o_iinc 4 (nI 1)], o_fall 59), (95, [o_aload 0, o_get 9 11], o_ifeq 142 102), (102, [o_aload 0, o_get 9 0, o_const (nI 12), o_iload 2, o_add, o_zald], o_ifeq 142 114), (114, [o_aload 0, o_iload 2], o_callV sm_MD_isSelected 9 2 119), (119, [], o_ifeq 142 122), (122, [o_iload 3], o_ifne 142 126), (126, [o_aload 0, o_get 9 0, o_const (nI 12), o_iload 2, o_add, o_const (nI 0), o_zast, o_aload 0, o_const (nI 6)], o_callV sm_MD_add 9 2 142), (142, [o_iinc 2 (nI 1)], o_fall 48), (148, [o_aload 0], o_callV sm_MD_over 9 1 152), (152, [o_aload 0, o_const (nI 4)], o_callV sm_MD_add 9 2 157), (157, [], o_ret)]
noncomputable def sm_MD_concludeIfDone : List m_V → m_M → Option m_R := mt_sem cd_MD_concludeIfDone 5
theorem k_MD_concludeIfDone_0 (q : m_C) (Q : m_R → Prop) : mt_T cd_MD_concludeIfDone 0 q Q = mt_go [o_const (nI 1), o_istore 1, o_const (nI 0), o_istore 2] q (mt_kk cd_MD_concludeIfDone Q (o_fall 4)) := mt_blk rfl q Q
theorem k_MD_concludeIfDone_4 (q : m_C) (Q : m_R → Prop) : mt_T cd_MD_concludeIfDone 4 q Q = mt_go [o_iload 2, o_aload 0, o_get 9 12] q (mt_kk cd_MD_concludeIfDone Q (o_icge 37 12)) := mt_blk rfl q Q
theorem k_MD_concludeIfDone_12 (q : m_C) (Q : m_R → Prop) : mt_T cd_MD_concludeIfDone 12 q Q = mt_go [o_iload 1] q (mt_kk cd_MD_concludeIfDone Q (o_ifeq 29 16)) := mt_blk rfl q Q
theorem k_MD_concludeIfDone_16 (q : m_C) (Q : m_R → Prop) : mt_T cd_MD_concludeIfDone 16 q Q = mt_go [o_aload 0, o_get 9 16, o_iload 2, o_zald] q (mt_kk cd_MD_concludeIfDone Q (o_ifne 29 25)) := mt_blk rfl q Q
theorem k_MD_concludeIfDone_25 (q : m_C) (Q : m_R → Prop) : mt_T cd_MD_concludeIfDone 25 q Q = mt_go [o_const (nI 1)] q (mt_kk cd_MD_concludeIfDone Q (o_fall 30)) := mt_blk rfl q Q
theorem k_MD_concludeIfDone_29 (q : m_C) (Q : m_R → Prop) : mt_T cd_MD_concludeIfDone 29 q Q = mt_go [o_const (nI 0)] q (mt_kk cd_MD_concludeIfDone Q (o_fall 30)) := mt_blk rfl q Q
theorem k_MD_concludeIfDone_30 (q : m_C) (Q : m_R → Prop) : mt_T cd_MD_concludeIfDone 30 q Q = mt_go [o_istore 1, o_iinc 2 (nI 1)] q (mt_kk cd_MD_concludeIfDone Q (o_fall 4)) := mt_blk rfl q Q
theorem k_MD_concludeIfDone_37 (q : m_C) (Q : m_R → Prop) : mt_T cd_MD_concludeIfDone 37 q Q = mt_go [o_iload 1] q (mt_kk cd_MD_concludeIfDone Q (o_ifne 42 41)) := mt_blk rfl q Q
theorem k_MD_concludeIfDone_41 (q : m_C) (Q : m_R → Prop) : mt_T cd_MD_concludeIfDone 41 q Q = mt_go [] q (mt_kk cd_MD_concludeIfDone Q (o_ret)) := mt_blk rfl q Q
theorem k_MD_concludeIfDone_42 (q : m_C) (Q : m_R → Prop) : mt_T cd_MD_concludeIfDone 42 q Q = mt_go [o_aload 0] q (mt_kk cd_MD_concludeIfDone Q (o_callV sm_MD_finishAll 9 1 46)) := mt_blk rfl q Q
theorem k_MD_concludeIfDone_46 (q : m_C) (Q : m_R → Prop) : mt_T cd_MD_concludeIfDone 46 q Q = mt_go [o_const (nI 0), o_istore 2] q (mt_kk cd_MD_concludeIfDone Q (o_fall 48)) := mt_blk rfl q Q
theorem k_MD_concludeIfDone_48 (q : m_C) (Q : m_R → Prop) : mt_T cd_MD_concludeIfDone 48 q Q = mt_go [o_iload 2, o_const (nI 12)] q (mt_kk cd_MD_concludeIfDone Q (o_icge 148 54)) := mt_blk rfl q Q
theorem k_MD_concludeIfDone_54 (q : m_C) (Q : m_R → Prop) : mt_T cd_MD_concludeIfDone 54 q Q = mt_go [o_const (nI 0), o_istore 3, o_const (nI 0), o_istore 4] q (mt_kk cd_MD_concludeIfDone Q (o_fall 59)) := mt_blk rfl q Q
theorem k_MD_concludeIfDone_59 (q : m_C) (Q : m_R → Prop) : mt_T cd_MD_concludeIfDone 59 q Q = mt_go [o_iload 4, o_aload 0, o_get 9 12] q (mt_kk cd_MD_concludeIfDone Q (o_icge 95 68)) := mt_blk rfl q Q
theorem k_MD_concludeIfDone_68 (q : m_C) (Q : m_R → Prop) : mt_T cd_MD_concludeIfDone 68 q Q = mt_go [o_iload 3] q (mt_kk cd_MD_concludeIfDone Q (o_ifne 83 72)) := mt_blk rfl q Q
theorem k_MD_concludeIfDone_72 (q : m_C) (Q : m_R → Prop) : mt_T cd_MD_concludeIfDone 72 q Q = mt_go [o_aload 0, o_get 9 13, o_iload 4, o_iald, o_iload 2] q (mt_kk cd_MD_concludeIfDone Q (o_icne 87 83)) := mt_blk rfl q Q
theorem k_MD_concludeIfDone_83 (q : m_C) (Q : m_R → Prop) : mt_T cd_MD_concludeIfDone 83 q Q = mt_go [o_const (nI 1)] q (mt_kk cd_MD_concludeIfDone Q (o_fall 88)) := mt_blk rfl q Q
theorem k_MD_concludeIfDone_87 (q : m_C) (Q : m_R → Prop) : mt_T cd_MD_concludeIfDone 87 q Q = mt_go [o_const (nI 0)] q (mt_kk cd_MD_concludeIfDone Q (o_fall 88)) := mt_blk rfl q Q
theorem k_MD_concludeIfDone_88 (q : m_C) (Q : m_R → Prop) : mt_T cd_MD_concludeIfDone 88 q Q = mt_go [o_istore 3, o_iinc 4 (nI 1)] q (mt_kk cd_MD_concludeIfDone Q (o_fall 59)) := mt_blk rfl q Q
theorem k_MD_concludeIfDone_95 (q : m_C) (Q : m_R → Prop) : mt_T cd_MD_concludeIfDone 95 q Q = mt_go [o_aload 0, o_get 9 11] q (mt_kk cd_MD_concludeIfDone Q (o_ifeq 142 102)) := mt_blk rfl q Q
theorem k_MD_concludeIfDone_102 (q : m_C) (Q : m_R → Prop) : mt_T cd_MD_concludeIfDone 102 q Q = mt_go [o_aload 0, o_get 9 0, o_const (nI 12), o_iload 2, o_add, o_zald] q (mt_kk cd_MD_concludeIfDone Q (o_ifeq 142 114)) := mt_blk rfl q Q
theorem k_MD_concludeIfDone_114 (q : m_C) (Q : m_R → Prop) : mt_T cd_MD_concludeIfDone 114 q Q = mt_go [o_aload 0, o_iload 2] q (mt_kk cd_MD_concludeIfDone Q (o_callV sm_MD_isSelected 9 2 119)) := mt_blk rfl q Q
theorem k_MD_concludeIfDone_119 (q : m_C) (Q : m_R → Prop) : mt_T cd_MD_concludeIfDone 119 q Q = mt_go [] q (mt_kk cd_MD_concludeIfDone Q (o_ifeq 142 122)) := mt_blk rfl q Q
theorem k_MD_concludeIfDone_122 (q : m_C) (Q : m_R → Prop) : mt_T cd_MD_concludeIfDone 122 q Q = mt_go [o_iload 3] q (mt_kk cd_MD_concludeIfDone Q (o_ifne 142 126)) := mt_blk rfl q Q
theorem k_MD_concludeIfDone_126 (q : m_C) (Q : m_R → Prop) : mt_T cd_MD_concludeIfDone 126 q Q = mt_go [o_aload 0, o_get 9 0, o_const (nI 12), o_iload 2, o_add, o_const (nI 0), o_zast, o_aload 0, o_const (nI 6)] q (mt_kk cd_MD_concludeIfDone Q (o_callV sm_MD_add 9 2 142)) := mt_blk rfl q Q
theorem k_MD_concludeIfDone_142 (q : m_C) (Q : m_R → Prop) : mt_T cd_MD_concludeIfDone 142 q Q = mt_go [o_iinc 2 (nI 1)] q (mt_kk cd_MD_concludeIfDone Q (o_fall 48)) := mt_blk rfl q Q
theorem k_MD_concludeIfDone_148 (q : m_C) (Q : m_R → Prop) : mt_T cd_MD_concludeIfDone 148 q Q = mt_go [o_aload 0] q (mt_kk cd_MD_concludeIfDone Q (o_callV sm_MD_over 9 1 152)) := mt_blk rfl q Q
theorem k_MD_concludeIfDone_152 (q : m_C) (Q : m_R → Prop) : mt_T cd_MD_concludeIfDone 152 q Q = mt_go [o_aload 0, o_const (nI 4)] q (mt_kk cd_MD_concludeIfDone Q (o_callV sm_MD_add 9 2 157)) := mt_blk rfl q Q
theorem k_MD_concludeIfDone_157 (q : m_C) (Q : m_R → Prop) : mt_T cd_MD_concludeIfDone 157 q Q = mt_go [] q (mt_kk cd_MD_concludeIfDone Q (o_ret)) := mt_blk rfl q Q
-- TreeCarrierModel.entryOf (I)I
noncomputable def cd_MD_entryOf : List m_B := [(0, [o_const (nI 0), o_istore 2, o_const (nI 0), o_istore 3], o_fall 4), (4, [o_iload 3, o_aload 0, o_get 9 12], o_icge 34 12), (12, [o_aload 0, o_get 9 13, o_iload 3, o_iald, o_iload 1], o_icne 26 22), (22, [o_iload 3], o_fall 27), (26, [o_iload 2], o_fall 27), (27, [o_istore 2, o_iinc 3 (nI 1)], o_fall 4), (34, [o_iload 2], o_iret)]
noncomputable def sm_MD_entryOf : List m_V → m_M → Option m_R := mt_sem cd_MD_entryOf 4
theorem k_MD_entryOf_0 (q : m_C) (Q : m_R → Prop) : mt_T cd_MD_entryOf 0 q Q = mt_go [o_const (nI 0), o_istore 2, o_const (nI 0), o_istore 3] q (mt_kk cd_MD_entryOf Q (o_fall 4)) := mt_blk rfl q Q
theorem k_MD_entryOf_4 (q : m_C) (Q : m_R → Prop) : mt_T cd_MD_entryOf 4 q Q = mt_go [o_iload 3, o_aload 0, o_get 9 12] q (mt_kk cd_MD_entryOf Q (o_icge 34 12)) := mt_blk rfl q Q
theorem k_MD_entryOf_12 (q : m_C) (Q : m_R → Prop) : mt_T cd_MD_entryOf 12 q Q = mt_go [o_aload 0, o_get 9 13, o_iload 3, o_iald, o_iload 1] q (mt_kk cd_MD_entryOf Q (o_icne 26 22)) := mt_blk rfl q Q
theorem k_MD_entryOf_22 (q : m_C) (Q : m_R → Prop) : mt_T cd_MD_entryOf 22 q Q = mt_go [o_iload 3] q (mt_kk cd_MD_entryOf Q (o_fall 27)) := mt_blk rfl q Q
theorem k_MD_entryOf_26 (q : m_C) (Q : m_R → Prop) : mt_T cd_MD_entryOf 26 q Q = mt_go [o_iload 2] q (mt_kk cd_MD_entryOf Q (o_fall 27)) := mt_blk rfl q Q
theorem k_MD_entryOf_27 (q : m_C) (Q : m_R → Prop) : mt_T cd_MD_entryOf 27 q Q = mt_go [o_istore 2, o_iinc 3 (nI 1)] q (mt_kk cd_MD_entryOf Q (o_fall 4)) := mt_blk rfl q Q
theorem k_MD_entryOf_34 (q : m_C) (Q : m_R → Prop) : mt_T cd_MD_entryOf 34 q Q = mt_go [o_iload 2] q (mt_kk cd_MD_entryOf Q (o_iret)) := mt_blk rfl q Q
-- TreeCarrierModel.end ()V
noncomputable def cd_MD_end : List m_B := [(0, [o_const (nI 0), o_istore 1], o_fall 2), (2, [o_iload 1, o_aload 0, o_get 9 12], o_icge 106 10), (10, [o_aload 0, o_const (nI 1), o_aload 0, o_get 9 13, o_iload 1, o_iald], o_callV sm_MD_file 9 3 21), (21, [o_istore 2, o_iload 2], o_iflt 60 26), (26, [o_aload 0, o_get 9 1, o_iload 2, o_iald, o_aload 0, o_get 9 14, o_iload 1, o_iald], o_icne 60 41), (41, [o_aload 0, o_get 9 2, o_iload 2, o_iald, o_aload 0, o_get 9 15, o_iload 1, o_iald], o_icne 60 56), (56, [o_const (nI 1)], o_fall 61), (60, [o_const (nI 0)], o_fall 61), (61, [o_istore 3, o_aload 0, o_get 9 16, o_iload 1, o_iload 3], o_ifne 75 71), (71, [o_const (nI 1)], o_fall 76), (75, [o_const (nI 0)], o_fall 76), (76, [o_zast, o_iload 3], o_ifeq 89 81), (81, [o_aload 0, o_const (nI 5)], o_callV sm_MD_add 9 2 86), (86, [], o_fall 100), (89, [o_aload 0, o_aload 0, o_get 9 13, o_iload 1, o_iald, o_const (nI 1)], o_callV sm_MD_sendSignature 9 3 100), (100, [o_iinc 1 (nI 1)], o_fall 2), (106, [o_aload 0], o_callV sm_MD_concludeIfDone 9 1 110), (110, [], o_ret)]
noncomputable def sm_MD_end : List m_V → m_M → Option m_R := mt_sem cd_MD_end 4
theorem k_MD_end_0 (q : m_C) (Q : m_R → Prop) : mt_T cd_MD_end 0 q Q = mt_go [o_const (nI 0), o_istore 1] q (mt_kk cd_MD_end Q (o_fall 2)) := mt_blk rfl q Q
theorem k_MD_end_2 (q : m_C) (Q : m_R → Prop) : mt_T cd_MD_end 2 q Q = mt_go [o_iload 1, o_aload 0, o_get 9 12] q (mt_kk cd_MD_end Q (o_icge 106 10)) := mt_blk rfl q Q
theorem k_MD_end_10 (q : m_C) (Q : m_R → Prop) : mt_T cd_MD_end 10 q Q = mt_go [o_aload 0, o_const (nI 1), o_aload 0, o_get 9 13, o_iload 1, o_iald] q (mt_kk cd_MD_end Q (o_callV sm_MD_file 9 3 21)) := mt_blk rfl q Q
theorem k_MD_end_21 (q : m_C) (Q : m_R → Prop) : mt_T cd_MD_end 21 q Q = mt_go [o_istore 2, o_iload 2] q (mt_kk cd_MD_end Q (o_iflt 60 26)) := mt_blk rfl q Q
theorem k_MD_end_26 (q : m_C) (Q : m_R → Prop) : mt_T cd_MD_end 26 q Q = mt_go [o_aload 0, o_get 9 1, o_iload 2, o_iald, o_aload 0, o_get 9 14, o_iload 1, o_iald] q (mt_kk cd_MD_end Q (o_icne 60 41)) := mt_blk rfl q Q
theorem k_MD_end_41 (q : m_C) (Q : m_R → Prop) : mt_T cd_MD_end 41 q Q = mt_go [o_aload 0, o_get 9 2, o_iload 2, o_iald, o_aload 0, o_get 9 15, o_iload 1, o_iald] q (mt_kk cd_MD_end Q (o_icne 60 56)) := mt_blk rfl q Q
theorem k_MD_end_56 (q : m_C) (Q : m_R → Prop) : mt_T cd_MD_end 56 q Q = mt_go [o_const (nI 1)] q (mt_kk cd_MD_end Q (o_fall 61)) := mt_blk rfl q Q
theorem k_MD_end_60 (q : m_C) (Q : m_R → Prop) : mt_T cd_MD_end 60 q Q = mt_go [o_const (nI 0)] q (mt_kk cd_MD_end Q (o_fall 61)) := mt_blk rfl q Q
theorem k_MD_end_61 (q : m_C) (Q : m_R → Prop) : mt_T cd_MD_end 61 q Q = mt_go [o_istore 3, o_aload 0, o_get 9 16, o_iload 1, o_iload 3] q (mt_kk cd_MD_end Q (o_ifne 75 71)) := mt_blk rfl q Q
theorem k_MD_end_71 (q : m_C) (Q : m_R → Prop) : mt_T cd_MD_end 71 q Q = mt_go [o_const (nI 1)] q (mt_kk cd_MD_end Q (o_fall 76)) := mt_blk rfl q Q
theorem k_MD_end_75 (q : m_C) (Q : m_R → Prop) : mt_T cd_MD_end 75 q Q = mt_go [o_const (nI 0)] q (mt_kk cd_MD_end Q (o_fall 76)) := mt_blk rfl q Q
theorem k_MD_end_76 (q : m_C) (Q : m_R → Prop) : mt_T cd_MD_end 76 q Q = mt_go [o_zast, o_iload 3] q (mt_kk cd_MD_end Q (o_ifeq 89 81)) := mt_blk rfl q Q
theorem k_MD_end_81 (q : m_C) (Q : m_R → Prop) : mt_T cd_MD_end 81 q Q = mt_go [o_aload 0, o_const (nI 5)] q (mt_kk cd_MD_end Q (o_callV sm_MD_add 9 2 86)) := mt_blk rfl q Q
theorem k_MD_end_86 (q : m_C) (Q : m_R → Prop) : mt_T cd_MD_end 86 q Q = mt_go [] q (mt_kk cd_MD_end Q (o_fall 100)) := mt_blk rfl q Q
theorem k_MD_end_89 (q : m_C) (Q : m_R → Prop) : mt_T cd_MD_end 89 q Q = mt_go [o_aload 0, o_aload 0, o_get 9 13, o_iload 1, o_iald, o_const (nI 1)] q (mt_kk cd_MD_end Q (o_callV sm_MD_sendSignature 9 3 100)) := mt_blk rfl q Q
theorem k_MD_end_100 (q : m_C) (Q : m_R → Prop) : mt_T cd_MD_end 100 q Q = mt_go [o_iinc 1 (nI 1)] q (mt_kk cd_MD_end Q (o_fall 2)) := mt_blk rfl q Q
theorem k_MD_end_106 (q : m_C) (Q : m_R → Prop) : mt_T cd_MD_end 106 q Q = mt_go [o_aload 0] q (mt_kk cd_MD_end Q (o_callV sm_MD_concludeIfDone 9 1 110)) := mt_blk rfl q Q
theorem k_MD_end_110 (q : m_C) (Q : m_R → Prop) : mt_T cd_MD_end 110 q Q = mt_go [] q (mt_kk cd_MD_end Q (o_ret)) := mt_blk rfl q Q
-- TreeCarrierModel.match (III)I
noncomputable def cd_MD_match : List m_B := [(0, [o_aload 0, o_iload 2, o_aload 0, o_get 9 10], o_callV sm_MD_weak 9 3 9), (9, [o_istore 4, o_aload 0, o_iload 2, o_aload 0, o_get 9 10, o_iload 3], o_callV sm_MD_strong 9 4 21), (21, [o_istore 5, o_const (-1), o_istore 6, o_aload 0, o_get 9 18, o_iload 1, o_const (nI 5), o_add, o_iald, o_const (nI 2), o_div, o_const (nI 1), o_sub, o_istore 7], o_fall 40), (40, [o_iload 7], o_iflt 98 45), (45, [o_aload 0, o_get 9 18, o_iload 1, o_const (nI 6), o_add, o_const (nI 2), o_iload 7, o_mul, o_add, o_iald, o_iload 4], o_icne 88 64), (64, [o_aload 0, o_get 9 18, o_iload 1, o_const (nI 7), o_add, o_const (nI 2), o_iload 7, o_mul, o_add, o_iald, o_iload 5], o_icne 88 83), (83, [o_iload 7], o_fall 90), (88, [o_iload 6], o_fall 90), (90, [o_istore 6, o_iinc 7 (-1)], o_fall 40), (98, [o_iload 6], o_iret)]
noncomputable def sm_MD_match : List m_V → m_M → Option m_R := mt_sem cd_MD_match 8
theorem k_MD_match_0 (q : m_C) (Q : m_R → Prop) : mt_T cd_MD_match 0 q Q = mt_go [o_aload 0, o_iload 2, o_aload 0, o_get 9 10] q (mt_kk cd_MD_match Q (o_callV sm_MD_weak 9 3 9)) := mt_blk rfl q Q
theorem k_MD_match_9 (q : m_C) (Q : m_R → Prop) : mt_T cd_MD_match 9 q Q = mt_go [o_istore 4, o_aload 0, o_iload 2, o_aload 0, o_get 9 10, o_iload 3] q (mt_kk cd_MD_match Q (o_callV sm_MD_strong 9 4 21)) := mt_blk rfl q Q
theorem k_MD_match_21 (q : m_C) (Q : m_R → Prop) : mt_T cd_MD_match 21 q Q = mt_go [o_istore 5, o_const (-1), o_istore 6, o_aload 0, o_get 9 18, o_iload 1, o_const (nI 5), o_add, o_iald, o_const (nI 2), o_div, o_const (nI 1), o_sub, o_istore 7] q (mt_kk cd_MD_match Q (o_fall 40)) := mt_blk rfl q Q
theorem k_MD_match_40 (q : m_C) (Q : m_R → Prop) : mt_T cd_MD_match 40 q Q = mt_go [o_iload 7] q (mt_kk cd_MD_match Q (o_iflt 98 45)) := mt_blk rfl q Q
theorem k_MD_match_45 (q : m_C) (Q : m_R → Prop) : mt_T cd_MD_match 45 q Q = mt_go [o_aload 0, o_get 9 18, o_iload 1, o_const (nI 6), o_add, o_const (nI 2), o_iload 7, o_mul, o_add, o_iald, o_iload 4] q (mt_kk cd_MD_match Q (o_icne 88 64)) := mt_blk rfl q Q
theorem k_MD_match_64 (q : m_C) (Q : m_R → Prop) : mt_T cd_MD_match 64 q Q = mt_go [o_aload 0, o_get 9 18, o_iload 1, o_const (nI 7), o_add, o_const (nI 2), o_iload 7, o_mul, o_add, o_iald, o_iload 5] q (mt_kk cd_MD_match Q (o_icne 88 83)) := mt_blk rfl q Q
theorem k_MD_match_83 (q : m_C) (Q : m_R → Prop) : mt_T cd_MD_match 83 q Q = mt_go [o_iload 7] q (mt_kk cd_MD_match Q (o_fall 90)) := mt_blk rfl q Q
theorem k_MD_match_88 (q : m_C) (Q : m_R → Prop) : mt_T cd_MD_match 88 q Q = mt_go [o_iload 6] q (mt_kk cd_MD_match Q (o_fall 90)) := mt_blk rfl q Q
theorem k_MD_match_90 (q : m_C) (Q : m_R → Prop) : mt_T cd_MD_match 90 q Q = mt_go [o_istore 6, o_iinc 7 (-1)] q (mt_kk cd_MD_match Q (o_fall 40)) := mt_blk rfl q Q
theorem k_MD_match_98 (q : m_C) (Q : m_R → Prop) : mt_T cd_MD_match 98 q Q = mt_go [o_iload 6] q (mt_kk cd_MD_match Q (o_iret)) := mt_blk rfl q Q
-- TreeCarrierModel.answer (I)V
noncomputable def cd_MD_answer : List m_B := [(0, [o_aload 0, o_get 9 18, o_iload 1, o_const (nI 1), o_add, o_iald, o_istore 2, o_aload 0, o_get 9 18, o_iload 1, o_const (nI 2), o_add, o_iald, o_istore 3, o_aload 0, o_const (nI 0), o_iload 2], o_callV sm_MD_file 9 3 24), (24, [o_istore 4, o_iload 4], o_ifge 42 31), (31, [o_aload 0, o_const (nI 1), o_const (nI 5), o_iload 2, o_iload 3, o_const (nI 0), o_const (nI 0)], o_callV sm_MD_message 9 7 41), (41, [], o_ret), (42, [o_const (-2128831035), o_istore 5, o_const (nI 0), o_istore 6], o_fall 49), (49, [o_iload 6, o_aload 0, o_get 9 1, o_iload 4, o_iald], o_icge 88 61), (61, [o_iload 5, o_aload 0, o_get 9 3, o_const (nI 40), o_iload 4, o_mul, o_iload 6, o_add, o_iald, o_xor, o_const (nI 16777619), o_mul, o_istore 5, o_iinc 6 (nI 1)], o_fall 49), (88, [o_aload 0, o_const (nI 1), o_const (nI 4), o_iload 2, o_iload 3, o_iload 5, o_const (nI 0)], o_callV sm_MD_message 9 7 99), (99, [o_const (nI 0), o_istore 6], o_fall 102), (102, [o_iload 6, o_aload 0, o_get 9 1, o_iload 4, o_iald], o_icge 220 114), (114, [o_iload 6, o_aload 0, o_get 9 10, o_add, o_aload 0, o_get 9 1, o_iload 4, o_iald], o_icgt 148 131), (131, [o_aload 0, o_iload 1, o_const (nI 40), o_iload 4, o_mul, o_iload 6, o_add, o_iload 3], o_callV sm_MD_match 9 4 145), (145, [], o_fall 149), (148, [o_const (-1)], o_fall 149), (149, [o_istore 7, o_aload 0, o_iload 7], o_iflt 166 157), (157, [o_const (nI 256), o_iload 7, o_add], o_fall 179), (166, [o_aload 0, o_get 9 3, o_const (nI 40), o_iload 4, o_mul, o_iload 6, o_add, o_iald], o_fall 179), (179, [], o_callV sm_MD_more 9 2 182), (182, [o_aload 0, o_iload 7], o_iflt 192 188), (188, [o_const (nI 1)], o_fall 193), (192, [o_const (nI 0)], o_fall 193), (193, [], o_callV sm_MD_add 9 2 196), (196, [o_iload 7], o_iflt 211 201), (201, [o_iload 6, o_aload 0, o_get 9 10, o_add], o_fall 215), (211, [o_iload 6, o_const (nI 1), o_add], o_fall 215), (215, [o_istore 6], o_fall 102), (220, [], o_ret)]
noncomputable def sm_MD_answer : List m_V → m_M → Option m_R := mt_sem cd_MD_answer 8
theorem k_MD_answer_0 (q : m_C) (Q : m_R → Prop) : mt_T cd_MD_answer 0 q Q = mt_go [o_aload 0, o_get 9 18, o_iload 1, o_const (nI 1), o_add, o_iald, o_istore 2, o_aload 0, o_get 9 18, o_iload 1, o_const (nI 2), o_add, o_iald, o_istore 3, o_aload 0, o_const (nI 0), o_iload 2] q (mt_kk cd_MD_answer Q (o_callV sm_MD_file 9 3 24)) := mt_blk rfl q Q
theorem k_MD_answer_24 (q : m_C) (Q : m_R → Prop) : mt_T cd_MD_answer 24 q Q = mt_go [o_istore 4, o_iload 4] q (mt_kk cd_MD_answer Q (o_ifge 42 31)) := mt_blk rfl q Q
theorem k_MD_answer_31 (q : m_C) (Q : m_R → Prop) : mt_T cd_MD_answer 31 q Q = mt_go [o_aload 0, o_const (nI 1), o_const (nI 5), o_iload 2, o_iload 3, o_const (nI 0), o_const (nI 0)] q (mt_kk cd_MD_answer Q (o_callV sm_MD_message 9 7 41)) := mt_blk rfl q Q
theorem k_MD_answer_41 (q : m_C) (Q : m_R → Prop) : mt_T cd_MD_answer 41 q Q = mt_go [] q (mt_kk cd_MD_answer Q (o_ret)) := mt_blk rfl q Q
theorem k_MD_answer_42 (q : m_C) (Q : m_R → Prop) : mt_T cd_MD_answer 42 q Q = mt_go [o_const (-2128831035), o_istore 5, o_const (nI 0), o_istore 6] q (mt_kk cd_MD_answer Q (o_fall 49)) := mt_blk rfl q Q
theorem k_MD_answer_49 (q : m_C) (Q : m_R → Prop) : mt_T cd_MD_answer 49 q Q = mt_go [o_iload 6, o_aload 0, o_get 9 1, o_iload 4, o_iald] q (mt_kk cd_MD_answer Q (o_icge 88 61)) := mt_blk rfl q Q
theorem k_MD_answer_61 (q : m_C) (Q : m_R → Prop) : mt_T cd_MD_answer 61 q Q = mt_go [o_iload 5, o_aload 0, o_get 9 3, o_const (nI 40), o_iload 4, o_mul, o_iload 6, o_add, o_iald, o_xor, o_const (nI 16777619), o_mul, o_istore 5, o_iinc 6 (nI 1)] q (mt_kk cd_MD_answer Q (o_fall 49)) := mt_blk rfl q Q
theorem k_MD_answer_88 (q : m_C) (Q : m_R → Prop) : mt_T cd_MD_answer 88 q Q = mt_go [o_aload 0, o_const (nI 1), o_const (nI 4), o_iload 2, o_iload 3, o_iload 5, o_const (nI 0)] q (mt_kk cd_MD_answer Q (o_callV sm_MD_message 9 7 99)) := mt_blk rfl q Q
theorem k_MD_answer_99 (q : m_C) (Q : m_R → Prop) : mt_T cd_MD_answer 99 q Q = mt_go [o_const (nI 0), o_istore 6] q (mt_kk cd_MD_answer Q (o_fall 102)) := mt_blk rfl q Q
theorem k_MD_answer_102 (q : m_C) (Q : m_R → Prop) : mt_T cd_MD_answer 102 q Q = mt_go [o_iload 6, o_aload 0, o_get 9 1, o_iload 4, o_iald] q (mt_kk cd_MD_answer Q (o_icge 220 114)) := mt_blk rfl q Q
theorem k_MD_answer_114 (q : m_C) (Q : m_R → Prop) : mt_T cd_MD_answer 114 q Q = mt_go [o_iload 6, o_aload 0, o_get 9 10, o_add, o_aload 0, o_get 9 1, o_iload 4, o_iald] q (mt_kk cd_MD_answer Q (o_icgt 148 131)) := mt_blk rfl q Q
theorem k_MD_answer_131 (q : m_C) (Q : m_R → Prop) : mt_T cd_MD_answer 131 q Q = mt_go [o_aload 0, o_iload 1, o_const (nI 40), o_iload 4, o_mul, o_iload 6, o_add, o_iload 3] q (mt_kk cd_MD_answer Q (o_callV sm_MD_match 9 4 145)) := mt_blk rfl q Q
theorem k_MD_answer_145 (q : m_C) (Q : m_R → Prop) : mt_T cd_MD_answer 145 q Q = mt_go [] q (mt_kk cd_MD_answer Q (o_fall 149)) := mt_blk rfl q Q
theorem k_MD_answer_148 (q : m_C) (Q : m_R → Prop) : mt_T cd_MD_answer 148 q Q = mt_go [o_const (-1)] q (mt_kk cd_MD_answer Q (o_fall 149)) := mt_blk rfl q Q
theorem k_MD_answer_149 (q : m_C) (Q : m_R → Prop) : mt_T cd_MD_answer 149 q Q = mt_go [o_istore 7, o_aload 0, o_iload 7] q (mt_kk cd_MD_answer Q (o_iflt 166 157)) := mt_blk rfl q Q
theorem k_MD_answer_157 (q : m_C) (Q : m_R → Prop) : mt_T cd_MD_answer 157 q Q = mt_go [o_const (nI 256), o_iload 7, o_add] q (mt_kk cd_MD_answer Q (o_fall 179)) := mt_blk rfl q Q
theorem k_MD_answer_166 (q : m_C) (Q : m_R → Prop) : mt_T cd_MD_answer 166 q Q = mt_go [o_aload 0, o_get 9 3, o_const (nI 40), o_iload 4, o_mul, o_iload 6, o_add, o_iald] q (mt_kk cd_MD_answer Q (o_fall 179)) := mt_blk rfl q Q
theorem k_MD_answer_179 (q : m_C) (Q : m_R → Prop) : mt_T cd_MD_answer 179 q Q = mt_go [] q (mt_kk cd_MD_answer Q (o_callV sm_MD_more 9 2 182)) := mt_blk rfl q Q
theorem k_MD_answer_182 (q : m_C) (Q : m_R → Prop) : mt_T cd_MD_answer 182 q Q = mt_go [o_aload 0, o_iload 7] q (mt_kk cd_MD_answer Q (o_iflt 192 188)) := mt_blk rfl q Q
theorem k_MD_answer_188 (q : m_C) (Q : m_R → Prop) : mt_T cd_MD_answer 188 q Q = mt_go [o_const (nI 1)] q (mt_kk cd_MD_answer Q (o_fall 193)) := mt_blk rfl q Q
theorem k_MD_answer_192 (q : m_C) (Q : m_R → Prop) : mt_T cd_MD_answer 192 q Q = mt_go [o_const (nI 0)] q (mt_kk cd_MD_answer Q (o_fall 193)) := mt_blk rfl q Q
theorem k_MD_answer_193 (q : m_C) (Q : m_R → Prop) : mt_T cd_MD_answer 193 q Q = mt_go [] q (mt_kk cd_MD_answer Q (o_callV sm_MD_add 9 2 196)) := mt_blk rfl q Q
theorem k_MD_answer_196 (q : m_C) (Q : m_R → Prop) : mt_T cd_MD_answer 196 q Q = mt_go [o_iload 7] q (mt_kk cd_MD_answer Q (o_iflt 211 201)) := mt_blk rfl q Q
theorem k_MD_answer_201 (q : m_C) (Q : m_R → Prop) : mt_T cd_MD_answer 201 q Q = mt_go [o_iload 6, o_aload 0, o_get 9 10, o_add] q (mt_kk cd_MD_answer Q (o_fall 215)) := mt_blk rfl q Q
theorem k_MD_answer_211 (q : m_C) (Q : m_R → Prop) : mt_T cd_MD_answer 211 q Q = mt_go [o_iload 6, o_const (nI 1), o_add] q (mt_kk cd_MD_answer Q (o_fall 215)) := mt_blk rfl q Q
theorem k_MD_answer_215 (q : m_C) (Q : m_R → Prop) : mt_T cd_MD_answer 215 q Q = mt_go [o_istore 6] q (mt_kk cd_MD_answer Q (o_fall 102)) := mt_blk rfl q Q
theorem k_MD_answer_220 (q : m_C) (Q : m_R → Prop) : mt_T cd_MD_answer 220 q Q = mt_go [] q (mt_kk cd_MD_answer Q (o_ret)) := mt_blk rfl q Q
-- TreeCarrierModel.rebuild (I)I
noncomputable def cd_MD_rebuild : List m_B := [(0, [o_aload 0, o_const (nI 1), o_aload 0, o_get 9 18, o_iload 1, o_const (nI 1), o_add, o_iald], o_callV sm_MD_file 9 3 13), (13, [o_istore 2, o_aload 0, o_const (nI 0), o_putI 9 26, o_const (nI 0), o_istore 3], o_fall 21), (21, [o_iload 3, o_aload 0, o_get 9 18, o_iload 1, o_const (nI 5), o_add, o_iald], o_icge 190 33), (33, [o_aload 0, o_get 9 18, o_iload 1, o_const (nI 6), o_add, o_iload 3, o_add, o_iald, o_istore 4, o_iload 4, o_const (nI 256)], o_icge 58 54), (54, [o_const (nI 0)], o_fall 69), (58, [o_iload 4, o_const (nI 256), o_sub, o_aload 0, o_get 9 10, o_mul], o_fall 69), (69, [o_istore 5, o_iload 5, o_istore 6], o_fall 75), (75, [o_iload 6, o_iload 5, o_iload 4, o_const (nI 256)], o_icge 91 87), (87, [o_const (nI 1)], o_fall 95), (91, [o_aload 0, o_get 9 10], o_fall 95), (95, [o_add], o_icge 184 99), (99, [o_iload 4, o_const (nI 256)], o_iclt 122 107), (107, [o_iload 2], o_iflt 126 111), (111, [o_iload 6, o_aload 0, o_get 9 1, o_iload 2, o_iald], o_icge 126 122), (122, [o_const (nI 1)], o_fall 127), (126, [o_const (nI 0)], o_fall 127), (127, [o_istore 7, o_iload 7], o_ifeq 178 134), (134, [o_aload 0, o_get 9 25, o_aload 0, o_get 9 26, o_iload 4, o_const (nI 256)], o_icge 155 150), (150, [o_iload 4], o_fall 167), (155, [o_aload 0, o_get 9 3, o_const (nI 40), o_iload 2, o_mul, o_iload 6, o_add, o_iald], o_fall 167), (167, [o_iast, o_aload 0, o_aload 0, o_get 9 26, o_const (nI 1), o_add, o_putI 9 26], o_fall 178), (178, [o_iinc 6 (nI 1)], o_fall 75), (184, [o_iinc 3 (nI 1)], o_fall 21), (190, [o_const (-2128831035), o_istore 3, o_const (nI 0), o_istore 4], o_fall 196), (196, [o_iload 4, o_aload 0, o_get 9 26], o_icge 224 205), (205, [o_iload 3, o_aload 0, o_get 9 25, o_iload 4, o_iald, o_xor, o_const (nI 16777619), o_mul, o_istore 3, o_iinc 4 (nI 1)], o_fall 196), (224, [o_iload 3], o_iret)]
noncomputable def sm_MD_rebuild : List m_V → m_M → Option m_R := mt_sem cd_MD_rebuild 8
theorem k_MD_rebuild_0 (q : m_C) (Q : m_R → Prop) : mt_T cd_MD_rebuild 0 q Q = mt_go [o_aload 0, o_const (nI 1), o_aload 0, o_get 9 18, o_iload 1, o_const (nI 1), o_add, o_iald] q (mt_kk cd_MD_rebuild Q (o_callV sm_MD_file 9 3 13)) := mt_blk rfl q Q
theorem k_MD_rebuild_13 (q : m_C) (Q : m_R → Prop) : mt_T cd_MD_rebuild 13 q Q = mt_go [o_istore 2, o_aload 0, o_const (nI 0), o_putI 9 26, o_const (nI 0), o_istore 3] q (mt_kk cd_MD_rebuild Q (o_fall 21)) := mt_blk rfl q Q
theorem k_MD_rebuild_21 (q : m_C) (Q : m_R → Prop) : mt_T cd_MD_rebuild 21 q Q = mt_go [o_iload 3, o_aload 0, o_get 9 18, o_iload 1, o_const (nI 5), o_add, o_iald] q (mt_kk cd_MD_rebuild Q (o_icge 190 33)) := mt_blk rfl q Q
theorem k_MD_rebuild_33 (q : m_C) (Q : m_R → Prop) : mt_T cd_MD_rebuild 33 q Q = mt_go [o_aload 0, o_get 9 18, o_iload 1, o_const (nI 6), o_add, o_iload 3, o_add, o_iald, o_istore 4, o_iload 4, o_const (nI 256)] q (mt_kk cd_MD_rebuild Q (o_icge 58 54)) := mt_blk rfl q Q
theorem k_MD_rebuild_54 (q : m_C) (Q : m_R → Prop) : mt_T cd_MD_rebuild 54 q Q = mt_go [o_const (nI 0)] q (mt_kk cd_MD_rebuild Q (o_fall 69)) := mt_blk rfl q Q
theorem k_MD_rebuild_58 (q : m_C) (Q : m_R → Prop) : mt_T cd_MD_rebuild 58 q Q = mt_go [o_iload 4, o_const (nI 256), o_sub, o_aload 0, o_get 9 10, o_mul] q (mt_kk cd_MD_rebuild Q (o_fall 69)) := mt_blk rfl q Q
theorem k_MD_rebuild_69 (q : m_C) (Q : m_R → Prop) : mt_T cd_MD_rebuild 69 q Q = mt_go [o_istore 5, o_iload 5, o_istore 6] q (mt_kk cd_MD_rebuild Q (o_fall 75)) := mt_blk rfl q Q
theorem k_MD_rebuild_75 (q : m_C) (Q : m_R → Prop) : mt_T cd_MD_rebuild 75 q Q = mt_go [o_iload 6, o_iload 5, o_iload 4, o_const (nI 256)] q (mt_kk cd_MD_rebuild Q (o_icge 91 87)) := mt_blk rfl q Q
theorem k_MD_rebuild_87 (q : m_C) (Q : m_R → Prop) : mt_T cd_MD_rebuild 87 q Q = mt_go [o_const (nI 1)] q (mt_kk cd_MD_rebuild Q (o_fall 95)) := mt_blk rfl q Q
theorem k_MD_rebuild_91 (q : m_C) (Q : m_R → Prop) : mt_T cd_MD_rebuild 91 q Q = mt_go [o_aload 0, o_get 9 10] q (mt_kk cd_MD_rebuild Q (o_fall 95)) := mt_blk rfl q Q
theorem k_MD_rebuild_95 (q : m_C) (Q : m_R → Prop) : mt_T cd_MD_rebuild 95 q Q = mt_go [o_add] q (mt_kk cd_MD_rebuild Q (o_icge 184 99)) := mt_blk rfl q Q
theorem k_MD_rebuild_99 (q : m_C) (Q : m_R → Prop) : mt_T cd_MD_rebuild 99 q Q = mt_go [o_iload 4, o_const (nI 256)] q (mt_kk cd_MD_rebuild Q (o_iclt 122 107)) := mt_blk rfl q Q
theorem k_MD_rebuild_107 (q : m_C) (Q : m_R → Prop) : mt_T cd_MD_rebuild 107 q Q = mt_go [o_iload 2] q (mt_kk cd_MD_rebuild Q (o_iflt 126 111)) := mt_blk rfl q Q
theorem k_MD_rebuild_111 (q : m_C) (Q : m_R → Prop) : mt_T cd_MD_rebuild 111 q Q = mt_go [o_iload 6, o_aload 0, o_get 9 1, o_iload 2, o_iald] q (mt_kk cd_MD_rebuild Q (o_icge 126 122)) := mt_blk rfl q Q
theorem k_MD_rebuild_122 (q : m_C) (Q : m_R → Prop) : mt_T cd_MD_rebuild 122 q Q = mt_go [o_const (nI 1)] q (mt_kk cd_MD_rebuild Q (o_fall 127)) := mt_blk rfl q Q
theorem k_MD_rebuild_126 (q : m_C) (Q : m_R → Prop) : mt_T cd_MD_rebuild 126 q Q = mt_go [o_const (nI 0)] q (mt_kk cd_MD_rebuild Q (o_fall 127)) := mt_blk rfl q Q
theorem k_MD_rebuild_127 (q : m_C) (Q : m_R → Prop) : mt_T cd_MD_rebuild 127 q Q = mt_go [o_istore 7, o_iload 7] q (mt_kk cd_MD_rebuild Q (o_ifeq 178 134)) := mt_blk rfl q Q
theorem k_MD_rebuild_134 (q : m_C) (Q : m_R → Prop) : mt_T cd_MD_rebuild 134 q Q = mt_go [o_aload 0, o_get 9 25, o_aload 0, o_get 9 26, o_iload 4, o_const (nI 256)] q (mt_kk cd_MD_rebuild Q (o_icge 155 150)) := mt_blk rfl q Q
theorem k_MD_rebuild_150 (q : m_C) (Q : m_R → Prop) : mt_T cd_MD_rebuild 150 q Q = mt_go [o_iload 4] q (mt_kk cd_MD_rebuild Q (o_fall 167)) := mt_blk rfl q Q
theorem k_MD_rebuild_155 (q : m_C) (Q : m_R → Prop) : mt_T cd_MD_rebuild 155 q Q = mt_go [o_aload 0, o_get 9 3, o_const (nI 40), o_iload 2, o_mul, o_iload 6, o_add, o_iald] q (mt_kk cd_MD_rebuild Q (o_fall 167)) := mt_blk rfl q Q
theorem k_MD_rebuild_167 (q : m_C) (Q : m_R → Prop) : mt_T cd_MD_rebuild 167 q Q = mt_go [o_iast, o_aload 0, o_aload 0, o_get 9 26, o_const (nI 1), o_add, o_putI 9 26] q (mt_kk cd_MD_rebuild Q (o_fall 178)) := mt_blk rfl q Q
theorem k_MD_rebuild_178 (q : m_C) (Q : m_R → Prop) : mt_T cd_MD_rebuild 178 q Q = mt_go [o_iinc 6 (nI 1)] q (mt_kk cd_MD_rebuild Q (o_fall 75)) := mt_blk rfl q Q
theorem k_MD_rebuild_184 (q : m_C) (Q : m_R → Prop) : mt_T cd_MD_rebuild 184 q Q = mt_go [o_iinc 3 (nI 1)] q (mt_kk cd_MD_rebuild Q (o_fall 21)) := mt_blk rfl q Q
theorem k_MD_rebuild_190 (q : m_C) (Q : m_R → Prop) : mt_T cd_MD_rebuild 190 q Q = mt_go [o_const (-2128831035), o_istore 3, o_const (nI 0), o_istore 4] q (mt_kk cd_MD_rebuild Q (o_fall 196)) := mt_blk rfl q Q
theorem k_MD_rebuild_196 (q : m_C) (Q : m_R → Prop) : mt_T cd_MD_rebuild 196 q Q = mt_go [o_iload 4, o_aload 0, o_get 9 26] q (mt_kk cd_MD_rebuild Q (o_icge 224 205)) := mt_blk rfl q Q
theorem k_MD_rebuild_205 (q : m_C) (Q : m_R → Prop) : mt_T cd_MD_rebuild 205 q Q = mt_go [o_iload 3, o_aload 0, o_get 9 25, o_iload 4, o_iald, o_xor, o_const (nI 16777619), o_mul, o_istore 3, o_iinc 4 (nI 1)] q (mt_kk cd_MD_rebuild Q (o_fall 196)) := mt_blk rfl q Q
theorem k_MD_rebuild_224 (q : m_C) (Q : m_R → Prop) : mt_T cd_MD_rebuild 224 q Q = mt_go [o_iload 3] q (mt_kk cd_MD_rebuild Q (o_iret)) := mt_blk rfl q Q
-- TreeCarrierModel.delta (I)V
noncomputable def cd_MD_delta : List m_B := [(0, [o_aload 0, o_get 9 18, o_iload 1, o_const (nI 1), o_add, o_iald, o_istore 2, o_aload 0, o_iload 2], o_callV sm_MD_entryOf 9 2 14), (14, [o_istore 3, o_aload 0, o_iload 1], o_callV sm_MD_rebuild 9 2 20), (20, [o_istore 4, o_iload 4, o_aload 0, o_get 9 18, o_iload 1, o_const (nI 3), o_add, o_iald], o_icne 133 35), (35, [o_aload 0, o_get 9 21, o_aload 0, o_get 9 20, o_iload 2, o_iast, o_aload 0, o_get 9 22, o_aload 0, o_get 9 20, o_aload 0, o_get 9 15, o_iload 3, o_iald, o_iast, o_aload 0, o_get 9 23, o_aload 0, o_get 9 20, o_aload 0, o_get 9 26, o_iast, o_const (nI 0), o_istore 5], o_fall 76), (76, [o_iload 5, o_aload 0, o_get 9 26], o_icge 113 85), (85, [o_aload 0, o_get 9 24, o_const (nI 40), o_aload 0, o_get 9 20, o_mul, o_iload 5, o_add, o_aload 0, o_get 9 25, o_iload 5, o_iald, o_iast, o_iinc 5 (nI 1)], o_fall 76), (113, [o_aload 0, o_aload 0, o_get 9 20, o_const (nI 1), o_add, o_putI 9 20, o_aload 0, o_get 9 16, o_iload 3, o_const (nI 0), o_zast], o_fall 171), (133, [o_aload 0, o_get 9 18, o_iload 1, o_const (nI 2), o_add, o_iald, o_const (nI 1)], o_icne 159 145), (145, [o_aload 0, o_iload 2, o_const (nI 2)], o_callV sm_MD_sendSignature 9 3 151), (151, [o_aload 0, o_const (nI 2)], o_callV sm_MD_add 9 2 156), (156, [], o_fall 171), (159, [o_aload 0, o_const (nI 3)], o_callV sm_MD_add 9 2 164), (164, [o_aload 0, o_get 9 16, o_iload 3, o_const (nI 0), o_zast], o_fall 171), (171, [o_aload 0], o_callV sm_MD_concludeIfDone 9 1 175), (175, [], o_ret)]
noncomputable def sm_MD_delta : List m_V → m_M → Option m_R := mt_sem cd_MD_delta 6
theorem k_MD_delta_0 (q : m_C) (Q : m_R → Prop) : mt_T cd_MD_delta 0 q Q = mt_go [o_aload 0, o_get 9 18, o_iload 1, o_const (nI 1), o_add, o_iald, o_istore 2, o_aload 0, o_iload 2] q (mt_kk cd_MD_delta Q (o_callV sm_MD_entryOf 9 2 14)) := mt_blk rfl q Q
theorem k_MD_delta_14 (q : m_C) (Q : m_R → Prop) : mt_T cd_MD_delta 14 q Q = mt_go [o_istore 3, o_aload 0, o_iload 1] q (mt_kk cd_MD_delta Q (o_callV sm_MD_rebuild 9 2 20)) := mt_blk rfl q Q
theorem k_MD_delta_20 (q : m_C) (Q : m_R → Prop) : mt_T cd_MD_delta 20 q Q = mt_go [o_istore 4, o_iload 4, o_aload 0, o_get 9 18, o_iload 1, o_const (nI 3), o_add, o_iald] q (mt_kk cd_MD_delta Q (o_icne 133 35)) := mt_blk rfl q Q
theorem k_MD_delta_35 (q : m_C) (Q : m_R → Prop) : mt_T cd_MD_delta 35 q Q = mt_go [o_aload 0, o_get 9 21, o_aload 0, o_get 9 20, o_iload 2, o_iast, o_aload 0, o_get 9 22, o_aload 0, o_get 9 20, o_aload 0, o_get 9 15, o_iload 3, o_iald, o_iast, o_aload 0, o_get 9 23, o_aload 0, o_get 9 20, o_aload 0, o_get 9 26, o_iast, o_const (nI 0), o_istore 5] q (mt_kk cd_MD_delta Q (o_fall 76)) := mt_blk rfl q Q
theorem k_MD_delta_76 (q : m_C) (Q : m_R → Prop) : mt_T cd_MD_delta 76 q Q = mt_go [o_iload 5, o_aload 0, o_get 9 26] q (mt_kk cd_MD_delta Q (o_icge 113 85)) := mt_blk rfl q Q
theorem k_MD_delta_85 (q : m_C) (Q : m_R → Prop) : mt_T cd_MD_delta 85 q Q = mt_go [o_aload 0, o_get 9 24, o_const (nI 40), o_aload 0, o_get 9 20, o_mul, o_iload 5, o_add, o_aload 0, o_get 9 25, o_iload 5, o_iald, o_iast, o_iinc 5 (nI 1)] q (mt_kk cd_MD_delta Q (o_fall 76)) := mt_blk rfl q Q
theorem k_MD_delta_113 (q : m_C) (Q : m_R → Prop) : mt_T cd_MD_delta 113 q Q = mt_go [o_aload 0, o_aload 0, o_get 9 20, o_const (nI 1), o_add, o_putI 9 20, o_aload 0, o_get 9 16, o_iload 3, o_const (nI 0), o_zast] q (mt_kk cd_MD_delta Q (o_fall 171)) := mt_blk rfl q Q
theorem k_MD_delta_133 (q : m_C) (Q : m_R → Prop) : mt_T cd_MD_delta 133 q Q = mt_go [o_aload 0, o_get 9 18, o_iload 1, o_const (nI 2), o_add, o_iald, o_const (nI 1)] q (mt_kk cd_MD_delta Q (o_icne 159 145)) := mt_blk rfl q Q
theorem k_MD_delta_145 (q : m_C) (Q : m_R → Prop) : mt_T cd_MD_delta 145 q Q = mt_go [o_aload 0, o_iload 2, o_const (nI 2)] q (mt_kk cd_MD_delta Q (o_callV sm_MD_sendSignature 9 3 151)) := mt_blk rfl q Q
theorem k_MD_delta_151 (q : m_C) (Q : m_R → Prop) : mt_T cd_MD_delta 151 q Q = mt_go [o_aload 0, o_const (nI 2)] q (mt_kk cd_MD_delta Q (o_callV sm_MD_add 9 2 156)) := mt_blk rfl q Q
theorem k_MD_delta_156 (q : m_C) (Q : m_R → Prop) : mt_T cd_MD_delta 156 q Q = mt_go [] q (mt_kk cd_MD_delta Q (o_fall 171)) := mt_blk rfl q Q
theorem k_MD_delta_159 (q : m_C) (Q : m_R → Prop) : mt_T cd_MD_delta 159 q Q = mt_go [o_aload 0, o_const (nI 3)] q (mt_kk cd_MD_delta Q (o_callV sm_MD_add 9 2 164)) := mt_blk rfl q Q
theorem k_MD_delta_164 (q : m_C) (Q : m_R → Prop) : mt_T cd_MD_delta 164 q Q = mt_go [o_aload 0, o_get 9 16, o_iload 3, o_const (nI 0), o_zast] q (mt_kk cd_MD_delta Q (o_fall 171)) := mt_blk rfl q Q
theorem k_MD_delta_171 (q : m_C) (Q : m_R → Prop) : mt_T cd_MD_delta 171 q Q = mt_go [o_aload 0] q (mt_kk cd_MD_delta Q (o_callV sm_MD_concludeIfDone 9 1 175)) := mt_blk rfl q Q
theorem k_MD_delta_175 (q : m_C) (Q : m_R → Prop) : mt_T cd_MD_delta 175 q Q = mt_go [] q (mt_kk cd_MD_delta Q (o_ret)) := mt_blk rfl q Q
-- TreeCarrierModel.note (I)V
noncomputable def cd_MD_note : List m_B := [(0, [o_aload 0, o_get 9 13, o_aload 0, o_get 9 12, o_aload 0, o_get 9 18, o_iload 1, o_const (nI 1), o_add, o_iald, o_iast, o_aload 0, o_get 9 14, o_aload 0, o_get 9 12, o_aload 0, o_get 9 18, o_iload 1, o_const (nI 3), o_add, o_iald, o_iast, o_aload 0, o_get 9 15, o_aload 0, o_get 9 12, o_aload 0, o_get 9 18, o_iload 1, o_const (nI 4), o_add, o_iald, o_iast, o_aload 0, o_get 9 16, o_aload 0, o_get 9 12, o_const (nI 1), o_zast, o_aload 0, o_aload 0, o_get 9 12, o_const (nI 1), o_add, o_putI 9 12], o_ret)]
noncomputable def sm_MD_note : List m_V → m_M → Option m_R := mt_sem cd_MD_note 2
theorem k_MD_note_0 (q : m_C) (Q : m_R → Prop) : mt_T cd_MD_note 0 q Q = mt_go [o_aload 0, o_get 9 13, o_aload 0, o_get 9 12, o_aload 0, o_get 9 18, o_iload 1, o_const (nI 1), o_add, o_iald, o_iast, o_aload 0, o_get 9 14, o_aload 0, o_get 9 12, o_aload 0, o_get 9 18, o_iload 1, o_const (nI 3), o_add, o_iald, o_iast, o_aload 0, o_get 9 15, o_aload 0, o_get 9 12, o_aload 0, o_get 9 18, o_iload 1, o_const (nI 4), o_add, o_iald, o_iast, o_aload 0, o_get 9 16, o_aload 0, o_get 9 12, o_const (nI 1), o_zast, o_aload 0, o_aload 0, o_get 9 12, o_const (nI 1), o_add, o_putI 9 12] q (mt_kk cd_MD_note Q (o_ret)) := mt_blk rfl q Q
-- TreeCarrierModel.take (I)I
noncomputable def cd_MD_take : List m_B := [(0, [o_const (nI 1440), o_iload 1, o_mul, o_istore 2, o_const (nI 2790), o_istore 3, o_aload 0, o_get 9 17, o_iload 1, o_aload 0, o_get 9 17, o_iload 1, o_iald, o_const (nI 1), o_sub, o_iast, o_const (nI 0), o_istore 4], o_fall 27), (27, [o_iload 4, o_const (nI 90)], o_icge 58 34), (34, [o_aload 0, o_get 9 18, o_iload 3, o_iload 4, o_add, o_aload 0, o_get 9 18, o_iload 2, o_iload 4, o_add, o_iald, o_iast, o_iinc 4 (nI 1)], o_fall 27), (58, [o_iload 2, o_istore 4], o_fall 61), (61, [o_iload 4, o_iload 2, o_const (nI 90), o_aload 0, o_get 9 17, o_iload 1, o_iald, o_mul, o_add], o_icge 100 77), (77, [o_aload 0, o_get 9 18, o_iload 4, o_aload 0, o_get 9 18, o_iload 4, o_const (nI 90), o_add, o_iald, o_iast, o_iinc 4 (nI 1)], o_fall 61), (100, [o_iload 3], o_iret)]
noncomputable def sm_MD_take : List m_V → m_M → Option m_R := mt_sem cd_MD_take 5
theorem k_MD_take_0 (q : m_C) (Q : m_R → Prop) : mt_T cd_MD_take 0 q Q = mt_go [o_const (nI 1440), o_iload 1, o_mul, o_istore 2, o_const (nI 2790), o_istore 3, o_aload 0, o_get 9 17, o_iload 1, o_aload 0, o_get 9 17, o_iload 1, o_iald, o_const (nI 1), o_sub, o_iast, o_const (nI 0), o_istore 4] q (mt_kk cd_MD_take Q (o_fall 27)) := mt_blk rfl q Q
theorem k_MD_take_27 (q : m_C) (Q : m_R → Prop) : mt_T cd_MD_take 27 q Q = mt_go [o_iload 4, o_const (nI 90)] q (mt_kk cd_MD_take Q (o_icge 58 34)) := mt_blk rfl q Q
theorem k_MD_take_34 (q : m_C) (Q : m_R → Prop) : mt_T cd_MD_take 34 q Q = mt_go [o_aload 0, o_get 9 18, o_iload 3, o_iload 4, o_add, o_aload 0, o_get 9 18, o_iload 2, o_iload 4, o_add, o_iald, o_iast, o_iinc 4 (nI 1)] q (mt_kk cd_MD_take Q (o_fall 27)) := mt_blk rfl q Q
theorem k_MD_take_58 (q : m_C) (Q : m_R → Prop) : mt_T cd_MD_take 58 q Q = mt_go [o_iload 2, o_istore 4] q (mt_kk cd_MD_take Q (o_fall 61)) := mt_blk rfl q Q
theorem k_MD_take_61 (q : m_C) (Q : m_R → Prop) : mt_T cd_MD_take 61 q Q = mt_go [o_iload 4, o_iload 2, o_const (nI 90), o_aload 0, o_get 9 17, o_iload 1, o_iald, o_mul, o_add] q (mt_kk cd_MD_take Q (o_icge 100 77)) := mt_blk rfl q Q
theorem k_MD_take_77 (q : m_C) (Q : m_R → Prop) : mt_T cd_MD_take 77 q Q = mt_go [o_aload 0, o_get 9 18, o_iload 4, o_aload 0, o_get 9 18, o_iload 4, o_const (nI 90), o_add, o_iald, o_iast, o_iinc 4 (nI 1)] q (mt_kk cd_MD_take Q (o_fall 61)) := mt_blk rfl q Q
theorem k_MD_take_100 (q : m_C) (Q : m_R → Prop) : mt_T cd_MD_take 100 q Q = mt_go [o_iload 3] q (mt_kk cd_MD_take Q (o_iret)) := mt_blk rfl q Q
-- TreeCarrierModel.deliver (I)I
noncomputable def cd_MD_deliver : List m_B := [(0, [o_iload 1, o_const (nI 1)], o_callS sm_MD_in 2 5), (5, [], o_ifeq 17 8), (8, [o_aload 0, o_get 9 17, o_iload 1, o_iald], o_ifne 19 17), (17, [o_const (nI 0)], o_iret), (19, [o_iload 1, o_const (nI 1)], o_icne 35 24), (24, [o_aload 0, o_get 9 20], o_ifle 35 31), (31, [o_aload 0], o_callV sm_MD_finishRecord 9 1 35), (35, [o_aload 0, o_iload 1], o_callV sm_MD_take 9 2 40), (40, [o_istore 2, o_aload 0, o_get 9 18, o_iload 2, o_iald, o_istore 3, o_iload 3, o_const (nI 1)], o_icne 61 53), (53, [o_aload 0, o_iload 2], o_callV sm_MD_note 9 2 58), (58, [], o_fall 126), (61, [o_iload 3, o_const (nI 2)], o_icne 73 66), (66, [o_aload 0], o_callV sm_MD_end 9 1 70), (70, [], o_fall 126), (73, [o_iload 3, o_const (nI 3)], o_icne 86 78), (78, [o_aload 0, o_iload 2], o_callV sm_MD_answer 9 2 83), (83, [], o_fall 126), (86, [o_iload 3, o_const (nI 4)], o_icne 99 91), (91, [o_aload 0, o_iload 2], o_callV sm_MD_delta 9 2 96), (96, [], o_fall 126), (99, [o_aload 0, o_get 9 16, o_aload 0, o_aload 0, o_get 9 18, o_iload 2, o_const (nI 1), o_add, o_iald], o_callV sm_MD_entryOf 9 2 115), (115, [o_const (nI 0), o_zast, o_aload 0, o_const (nI 3)], o_callV sm_MD_add 9 2 122), (122, [o_aload 0], o_callV sm_MD_concludeIfDone 9 1 126), (126, [o_iload 3], o_iret)]
noncomputable def sm_MD_deliver : List m_V → m_M → Option m_R := mt_sem cd_MD_deliver 4
theorem k_MD_deliver_0 (q : m_C) (Q : m_R → Prop) : mt_T cd_MD_deliver 0 q Q = mt_go [o_iload 1, o_const (nI 1)] q (mt_kk cd_MD_deliver Q (o_callS sm_MD_in 2 5)) := mt_blk rfl q Q
theorem k_MD_deliver_5 (q : m_C) (Q : m_R → Prop) : mt_T cd_MD_deliver 5 q Q = mt_go [] q (mt_kk cd_MD_deliver Q (o_ifeq 17 8)) := mt_blk rfl q Q
theorem k_MD_deliver_8 (q : m_C) (Q : m_R → Prop) : mt_T cd_MD_deliver 8 q Q = mt_go [o_aload 0, o_get 9 17, o_iload 1, o_iald] q (mt_kk cd_MD_deliver Q (o_ifne 19 17)) := mt_blk rfl q Q
theorem k_MD_deliver_17 (q : m_C) (Q : m_R → Prop) : mt_T cd_MD_deliver 17 q Q = mt_go [o_const (nI 0)] q (mt_kk cd_MD_deliver Q (o_iret)) := mt_blk rfl q Q
theorem k_MD_deliver_19 (q : m_C) (Q : m_R → Prop) : mt_T cd_MD_deliver 19 q Q = mt_go [o_iload 1, o_const (nI 1)] q (mt_kk cd_MD_deliver Q (o_icne 35 24)) := mt_blk rfl q Q
theorem k_MD_deliver_24 (q : m_C) (Q : m_R → Prop) : mt_T cd_MD_deliver 24 q Q = mt_go [o_aload 0, o_get 9 20] q (mt_kk cd_MD_deliver Q (o_ifle 35 31)) := mt_blk rfl q Q
theorem k_MD_deliver_31 (q : m_C) (Q : m_R → Prop) : mt_T cd_MD_deliver 31 q Q = mt_go [o_aload 0] q (mt_kk cd_MD_deliver Q (o_callV sm_MD_finishRecord 9 1 35)) := mt_blk rfl q Q
theorem k_MD_deliver_35 (q : m_C) (Q : m_R → Prop) : mt_T cd_MD_deliver 35 q Q = mt_go [o_aload 0, o_iload 1] q (mt_kk cd_MD_deliver Q (o_callV sm_MD_take 9 2 40)) := mt_blk rfl q Q
theorem k_MD_deliver_40 (q : m_C) (Q : m_R → Prop) : mt_T cd_MD_deliver 40 q Q = mt_go [o_istore 2, o_aload 0, o_get 9 18, o_iload 2, o_iald, o_istore 3, o_iload 3, o_const (nI 1)] q (mt_kk cd_MD_deliver Q (o_icne 61 53)) := mt_blk rfl q Q
theorem k_MD_deliver_53 (q : m_C) (Q : m_R → Prop) : mt_T cd_MD_deliver 53 q Q = mt_go [o_aload 0, o_iload 2] q (mt_kk cd_MD_deliver Q (o_callV sm_MD_note 9 2 58)) := mt_blk rfl q Q
theorem k_MD_deliver_58 (q : m_C) (Q : m_R → Prop) : mt_T cd_MD_deliver 58 q Q = mt_go [] q (mt_kk cd_MD_deliver Q (o_fall 126)) := mt_blk rfl q Q
theorem k_MD_deliver_61 (q : m_C) (Q : m_R → Prop) : mt_T cd_MD_deliver 61 q Q = mt_go [o_iload 3, o_const (nI 2)] q (mt_kk cd_MD_deliver Q (o_icne 73 66)) := mt_blk rfl q Q
theorem k_MD_deliver_66 (q : m_C) (Q : m_R → Prop) : mt_T cd_MD_deliver 66 q Q = mt_go [o_aload 0] q (mt_kk cd_MD_deliver Q (o_callV sm_MD_end 9 1 70)) := mt_blk rfl q Q
theorem k_MD_deliver_70 (q : m_C) (Q : m_R → Prop) : mt_T cd_MD_deliver 70 q Q = mt_go [] q (mt_kk cd_MD_deliver Q (o_fall 126)) := mt_blk rfl q Q
theorem k_MD_deliver_73 (q : m_C) (Q : m_R → Prop) : mt_T cd_MD_deliver 73 q Q = mt_go [o_iload 3, o_const (nI 3)] q (mt_kk cd_MD_deliver Q (o_icne 86 78)) := mt_blk rfl q Q
theorem k_MD_deliver_78 (q : m_C) (Q : m_R → Prop) : mt_T cd_MD_deliver 78 q Q = mt_go [o_aload 0, o_iload 2] q (mt_kk cd_MD_deliver Q (o_callV sm_MD_answer 9 2 83)) := mt_blk rfl q Q
theorem k_MD_deliver_83 (q : m_C) (Q : m_R → Prop) : mt_T cd_MD_deliver 83 q Q = mt_go [] q (mt_kk cd_MD_deliver Q (o_fall 126)) := mt_blk rfl q Q
theorem k_MD_deliver_86 (q : m_C) (Q : m_R → Prop) : mt_T cd_MD_deliver 86 q Q = mt_go [o_iload 3, o_const (nI 4)] q (mt_kk cd_MD_deliver Q (o_icne 99 91)) := mt_blk rfl q Q
theorem k_MD_deliver_91 (q : m_C) (Q : m_R → Prop) : mt_T cd_MD_deliver 91 q Q = mt_go [o_aload 0, o_iload 2] q (mt_kk cd_MD_deliver Q (o_callV sm_MD_delta 9 2 96)) := mt_blk rfl q Q
theorem k_MD_deliver_96 (q : m_C) (Q : m_R → Prop) : mt_T cd_MD_deliver 96 q Q = mt_go [] q (mt_kk cd_MD_deliver Q (o_fall 126)) := mt_blk rfl q Q
theorem k_MD_deliver_99 (q : m_C) (Q : m_R → Prop) : mt_T cd_MD_deliver 99 q Q = mt_go [o_aload 0, o_get 9 16, o_aload 0, o_aload 0, o_get 9 18, o_iload 2, o_const (nI 1), o_add, o_iald] q (mt_kk cd_MD_deliver Q (o_callV sm_MD_entryOf 9 2 115)) := mt_blk rfl q Q
theorem k_MD_deliver_115 (q : m_C) (Q : m_R → Prop) : mt_T cd_MD_deliver 115 q Q = mt_go [o_const (nI 0), o_zast, o_aload 0, o_const (nI 3)] q (mt_kk cd_MD_deliver Q (o_callV sm_MD_add 9 2 122)) := mt_blk rfl q Q
theorem k_MD_deliver_122 (q : m_C) (Q : m_R → Prop) : mt_T cd_MD_deliver 122 q Q = mt_go [o_aload 0] q (mt_kk cd_MD_deliver Q (o_callV sm_MD_concludeIfDone 9 1 126)) := mt_blk rfl q Q
theorem k_MD_deliver_126 (q : m_C) (Q : m_R → Prop) : mt_T cd_MD_deliver 126 q Q = mt_go [o_iload 3] q (mt_kk cd_MD_deliver Q (o_iret)) := mt_blk rfl q Q
-- TreeCarrierModel.on ()Z
noncomputable def cd_MD_on : List m_B := [(0, [o_aload 0, o_get 9 9], o_zret)]
noncomputable def sm_MD_on : List m_V → m_M → Option m_R := mt_sem cd_MD_on 1
theorem k_MD_on_0 (q : m_C) (Q : m_R → Prop) : mt_T cd_MD_on 0 q Q = mt_go [o_aload 0, o_get 9 9] q (mt_kk cd_MD_on Q (o_zret)) := mt_blk rfl q Q
-- TreeCarrierModel.waiting (I)I
noncomputable def cd_MD_waiting : List m_B := [(0, [o_iload 1, o_const (nI 1)], o_callS sm_MD_in 2 5), (5, [], o_ifeq 17 8), (8, [o_aload 0, o_get 9 17, o_iload 1, o_iald], o_fall 18), (17, [o_const (-1)], o_fall 18), (18, [], o_iret)]
noncomputable def sm_MD_waiting : List m_V → m_M → Option m_R := mt_sem cd_MD_waiting 2
theorem k_MD_waiting_0 (q : m_C) (Q : m_R → Prop) : mt_T cd_MD_waiting 0 q Q = mt_go [o_iload 1, o_const (nI 1)] q (mt_kk cd_MD_waiting Q (o_callS sm_MD_in 2 5)) := mt_blk rfl q Q
theorem k_MD_waiting_5 (q : m_C) (Q : m_R → Prop) : mt_T cd_MD_waiting 5 q Q = mt_go [] q (mt_kk cd_MD_waiting Q (o_ifeq 17 8)) := mt_blk rfl q Q
theorem k_MD_waiting_8 (q : m_C) (Q : m_R → Prop) : mt_T cd_MD_waiting 8 q Q = mt_go [o_aload 0, o_get 9 17, o_iload 1, o_iald] q (mt_kk cd_MD_waiting Q (o_fall 18)) := mt_blk rfl q Q
theorem k_MD_waiting_17 (q : m_C) (Q : m_R → Prop) : mt_T cd_MD_waiting 17 q Q = mt_go [o_const (-1)] q (mt_kk cd_MD_waiting Q (o_fall 18)) := mt_blk rfl q Q
theorem k_MD_waiting_18 (q : m_C) (Q : m_R → Prop) : mt_T cd_MD_waiting 18 q Q = mt_go [] q (mt_kk cd_MD_waiting Q (o_iret)) := mt_blk rfl q Q
-- TreeCarrierModel.next (I)I
noncomputable def cd_MD_next : List m_B := [(0, [o_iload 1, o_const (nI 1)], o_callS sm_MD_in 2 5), (5, [], o_ifeq 30 8), (8, [o_aload 0, o_get 9 17, o_iload 1, o_iald], o_ifle 30 17), (17, [o_aload 0, o_get 9 18, o_const (nI 1440), o_iload 1, o_mul, o_iald], o_fall 31), (30, [o_const (nI 0)], o_fall 31), (31, [], o_iret)]
noncomputable def sm_MD_next : List m_V → m_M → Option m_R := mt_sem cd_MD_next 2
theorem k_MD_next_0 (q : m_C) (Q : m_R → Prop) : mt_T cd_MD_next 0 q Q = mt_go [o_iload 1, o_const (nI 1)] q (mt_kk cd_MD_next Q (o_callS sm_MD_in 2 5)) := mt_blk rfl q Q
theorem k_MD_next_5 (q : m_C) (Q : m_R → Prop) : mt_T cd_MD_next 5 q Q = mt_go [] q (mt_kk cd_MD_next Q (o_ifeq 30 8)) := mt_blk rfl q Q
theorem k_MD_next_8 (q : m_C) (Q : m_R → Prop) : mt_T cd_MD_next 8 q Q = mt_go [o_aload 0, o_get 9 17, o_iload 1, o_iald] q (mt_kk cd_MD_next Q (o_ifle 30 17)) := mt_blk rfl q Q
theorem k_MD_next_17 (q : m_C) (Q : m_R → Prop) : mt_T cd_MD_next 17 q Q = mt_go [o_aload 0, o_get 9 18, o_const (nI 1440), o_iload 1, o_mul, o_iald] q (mt_kk cd_MD_next Q (o_fall 31)) := mt_blk rfl q Q
theorem k_MD_next_30 (q : m_C) (Q : m_R → Prop) : mt_T cd_MD_next 30 q Q = mt_go [o_const (nI 0)] q (mt_kk cd_MD_next Q (o_fall 31)) := mt_blk rfl q Q
theorem k_MD_next_31 (q : m_C) (Q : m_R → Prop) : mt_T cd_MD_next 31 q Q = mt_go [] q (mt_kk cd_MD_next Q (o_iret)) := mt_blk rfl q Q
-- TreeCarrierModel.journal ()I
noncomputable def cd_MD_journal : List m_B := [(0, [o_aload 0, o_get 9 20], o_iret)]
noncomputable def sm_MD_journal : List m_V → m_M → Option m_R := mt_sem cd_MD_journal 1
theorem k_MD_journal_0 (q : m_C) (Q : m_R → Prop) : mt_T cd_MD_journal 0 q Q = mt_go [o_aload 0, o_get 9 20] q (mt_kk cd_MD_journal Q (o_iret)) := mt_blk rfl q Q
-- TreeCarrierModel.count (I)I
noncomputable def cd_MD_count : List m_B := [(0, [o_iload 1, o_const (nI 7)], o_callS sm_MD_in 2 6), (6, [], o_ifeq 18 9), (9, [o_aload 0, o_get 9 27, o_iload 1, o_iald], o_fall 19), (18, [o_const (-1)], o_fall 19), (19, [], o_iret)]
noncomputable def sm_MD_count : List m_V → m_M → Option m_R := mt_sem cd_MD_count 2
theorem k_MD_count_0 (q : m_C) (Q : m_R → Prop) : mt_T cd_MD_count 0 q Q = mt_go [o_iload 1, o_const (nI 7)] q (mt_kk cd_MD_count Q (o_callS sm_MD_in 2 6)) := mt_blk rfl q Q
theorem k_MD_count_6 (q : m_C) (Q : m_R → Prop) : mt_T cd_MD_count 6 q Q = mt_go [] q (mt_kk cd_MD_count Q (o_ifeq 18 9)) := mt_blk rfl q Q
theorem k_MD_count_9 (q : m_C) (Q : m_R → Prop) : mt_T cd_MD_count 9 q Q = mt_go [o_aload 0, o_get 9 27, o_iload 1, o_iald] q (mt_kk cd_MD_count Q (o_fall 19)) := mt_blk rfl q Q
theorem k_MD_count_18 (q : m_C) (Q : m_R → Prop) : mt_T cd_MD_count 18 q Q = mt_go [o_const (-1)] q (mt_kk cd_MD_count Q (o_fall 19)) := mt_blk rfl q Q
theorem k_MD_count_19 (q : m_C) (Q : m_R → Prop) : mt_T cd_MD_count 19 q Q = mt_go [] q (mt_kk cd_MD_count Q (o_iret)) := mt_blk rfl q Q
noncomputable def cdL (sb L : Nat) (xs : Nat → Int32) : List m_B := [(0, [o_new 8 n_fs_TC, o_dup], o_callI sm_TC_init 1 7), (7, [o_astore 1, o_new 9 n_fs_MD, o_dup], o_callI sm_MD_init 1 15), (15, [o_astore 2, o_const (nI 0), o_istore 3], o_fall 18), (18, [o_iload 3, o_aload 0, o_slen sb L, o_const (nI 5), o_sub], o_icgt 618 26), (26, [o_aload 0, o_iload 3, o_sld sb L xs, o_const (nI 15), o_and], o_tsw 0 15 612 [112, 171, 214, 267, 300, 349, 372, 385, 398, 431, 474, 507, 530, 553, 576, 589]), (112, [o_aload 1, o_aload 0, o_iload 3, o_const (nI 1), o_add, o_sld sb L xs], o_ifeq 125 121), (121, [o_const (nI 1)], o_fall 126), (125, [o_const (nI 0)], o_fall 126), (126, [o_aload 0, o_iload 3, o_const (nI 2), o_add, o_sld sb L xs, o_aload 0, o_iload 3, o_const (nI 3), o_add, o_sld sb L xs], o_callV sm_TC_rule 8 4 139), (139, [o_aload 2, o_aload 0, o_iload 3, o_const (nI 1), o_add, o_sld sb L xs], o_ifeq 152 148), (148, [o_const (nI 1)], o_fall 153), (152, [o_const (nI 0)], o_fall 153), (153, [o_aload 0, o_iload 3, o_const (nI 2), o_add, o_sld sb L xs, o_aload 0, o_iload 3, o_const (nI 3), o_add, o_sld sb L xs], o_callV sm_MD_rule 9 4 166), (166, [], o_iceq 612 169), (169, [o_const (nI 0)], o_zret), (171, [o_aload 1, o_aload 0, o_iload 3, o_const (nI 1), o_add, o_sld sb L xs, o_aload 0, o_iload 3, o_const (nI 2), o_add, o_sld sb L xs, o_aload 0, o_iload 3, o_const (nI 3), o_add, o_sld sb L xs], o_callV sm_TC_put 8 4 190), (190, [o_aload 2, o_aload 0, o_iload 3, o_const (nI 1), o_add, o_sld sb L xs, o_aload 0, o_iload 3, o_const (nI 2), o_add, o_sld sb L xs, o_aload 0, o_iload 3, o_const (nI 3), o_add, o_sld sb L xs], o_callV sm_MD_put 9 4 209), (209, [], o_iceq 612 212), (212, [o_const (nI 0)], o_zret), (214, [o_aload 1, o_aload 0, o_iload 3, o_const (nI 1), o_add, o_sld sb L xs, o_aload 0, o_iload 3, o_const (nI 2), o_add, o_sld sb L xs, o_aload 0, o_iload 3, o_const (nI 3), o_add, o_sld sb L xs, o_aload 0, o_iload 3, o_const (nI 4), o_add, o_sld sb L xs], o_callV sm_TC_set 8 5 238), (238, [o_aload 2, o_aload 0, o_iload 3, o_const (nI 1), o_add, o_sld sb L xs, o_aload 0, o_iload 3, o_const (nI 2), o_add, o_sld sb L xs, o_aload 0, o_iload 3, o_const (nI 3), o_add, o_sld sb L xs, o_aload 0, o_iload 3, o_const (nI 4), o_add, o_sld sb L xs], o_callV sm_MD_set 9 5 262), (262, [], o_iceq 612 265), (265, [o_const (nI 0)], o_zret), (267, [o_aload 1, o_aload 0, o_iload 3, o_const (nI 1), o_add, o_sld sb L xs, o_aload 0, o_iload 3, o_const (nI 2), o_add, o_sld sb L xs], o_callV sm_TC_remove 8 3 281), (281, [o_aload 2, o_aload 0, o_iload 3, o_const (nI 1), o_add, o_sld sb L xs, o_aload 0, o_iload 3, o_const (nI 2), o_add, o_sld sb L xs], o_callV sm_MD_remove 9 3 295), (295, [], o_iceq 612 298), (298, [o_const (nI 0)], o_zret), (300, [o_aload 1, o_aload 0, o_iload 3, o_const (nI 1), o_add, o_sld sb L xs, o_aload 0, o_iload 3, o_const (nI 2), o_add, o_sld sb L xs], o_ifeq 318 314), (314, [o_const (nI 1)], o_fall 319), (318, [o_const (nI 0)], o_fall 319), (319, [], o_callV sm_TC_begin 8 3 322), (322, [o_aload 2, o_aload 0, o_iload 3, o_const (nI 1), o_add, o_sld sb L xs, o_aload 0, o_iload 3, o_const (nI 2), o_add, o_sld sb L xs], o_ifeq 340 336), (336, [o_const (nI 1)], o_fall 341), (340, [o_const (nI 0)], o_fall 341), (341, [], o_callV sm_MD_begin 9 3 344), (344, [], o_iceq 612 347), (347, [o_const (nI 0)], o_zret), (349, [o_aload 1, o_aload 0, o_iload 3, o_const (nI 1), o_add, o_sld sb L xs], o_callV sm_TC_deliver 8 2 358), (358, [o_aload 2, o_aload 0, o_iload 3, o_const (nI 1), o_add, o_sld sb L xs], o_callV sm_MD_deliver 9 2 367), (367, [], o_iceq 612 370), (370, [o_const (nI 0)], o_zret), (372, [o_aload 1], o_callV sm_TC_crash 8 1 376), (376, [o_aload 2], o_callV sm_MD_crash 9 1 380), (380, [], o_iceq 612 383), (383, [o_const (nI 0)], o_zret), (385, [o_aload 1], o_callV sm_TC_on 8 1 389), (389, [o_aload 2], o_callV sm_MD_on 9 1 393), (393, [], o_iceq 612 396), (396, [o_const (nI 0)], o_zret), (398, [o_aload 1, o_aload 0, o_iload 3, o_const (nI 1), o_add, o_sld sb L xs, o_aload 0, o_iload 3, o_const (nI 2), o_add, o_sld sb L xs], o_callV sm_TC_size 8 3 412), (412, [o_aload 2, o_aload 0, o_iload 3, o_const (nI 1), o_add, o_sld sb L xs, o_aload 0, o_iload 3, o_const (nI 2), o_add, o_sld sb L xs], o_callV sm_MD_size 9 3 426), (426, [], o_iceq 612 429), (429, [o_const (nI 0)], o_zret), (431, [o_aload 1, o_aload 0, o_iload 3, o_const (nI 1), o_add, o_sld sb L xs, o_aload 0, o_iload 3, o_const (nI 2), o_add, o_sld sb L xs, o_aload 0, o_iload 3, o_const (nI 3), o_add, o_sld sb L xs], o_callV sm_TC_at 8 4 450), (450, [o_aload 2, o_aload 0, o_iload 3, o_const (nI 1), o_add, o_sld sb L xs, o_aload 0, o_iload 3, o_const (nI 2), o_add, o_sld sb L xs, o_aload 0, o_iload 3, o_const (nI 3), o_add, o_sld sb L xs], o_callV sm_MD_at 9 4 469), (469, [], o_iceq 612 472), (472, [o_const (nI 0)], o_zret), (474, [o_aload 1, o_aload 0, o_iload 3, o_const (nI 1), o_add, o_sld sb L xs, o_aload 0, o_iload 3, o_const (nI 2), o_add, o_sld sb L xs], o_callV sm_TC_time 8 3 488), (488, [o_aload 2, o_aload 0, o_iload 3, o_const (nI 1), o_add, o_sld sb L xs, o_aload 0, o_iload 3, o_const (nI 2), o_add, o_sld sb L xs], o_callV sm_MD_time 9 3 502), (502, [], o_iceq 612 505), (505, [o_const (nI 0)], o_zret), (507, [o_aload 1, o_aload 0, o_iload 3, o_const (nI 1), o_add, o_sld sb L xs], o_callV sm_TC_selected 8 2 516), (516, [o_aload 2, o_aload 0, o_iload 3, o_const (nI 1), o_add, o_sld sb L xs], o_callV sm_MD_selected 9 2 525), (525, [], o_iceq 612 528), (528, [o_const (nI 0)], o_zret), (530, [o_aload 1, o_aload 0, o_iload 3, o_const (nI 1), o_add, o_sld sb L xs], o_callV sm_TC_waiting 8 2 539), (539, [o_aload 2, o_aload 0, o_iload 3, o_const (nI 1), o_add, o_sld sb L xs], o_callV sm_MD_waiting 9 2 548), (548, [], o_iceq 612 551), (551, [o_const (nI 0)], o_zret), (553, [o_aload 1, o_aload 0, o_iload 3, o_const (nI 1), o_add, o_sld sb L xs], o_callV sm_TC_next 8 2 562), (562, [o_aload 2, o_aload 0, o_iload 3, o_const (nI 1), o_add, o_sld sb L xs], o_callV sm_MD_next 9 2 571), (571, [], o_iceq 612 574), (574, [o_const (nI 0)], o_zret), (576, [o_aload 1], o_callV sm_TC_journal 8 1 580), (580, [o_aload 2], o_callV sm_MD_journal 9 1 584), (584, [], o_iceq 612 587), (587, [o_const (nI 0)], o_zret), (589, [o_aload 1, o_aload 0, o_iload 3, o_const (nI 1), o_add, o_sld sb L xs], o_callV sm_TC_count 8 2 598), (598, [o_aload 2, o_aload 0, o_iload 3, o_const (nI 1), o_add, o_sld sb L xs], o_callV sm_MD_count 9 2 607), (607, [], o_iceq 612 610), (610, [o_const (nI 0)], o_zret), (612, [o_iinc 3 (nI 5)], o_fall 18), (618, [o_const (nI 1)], o_zret)]
theorem kL_0 (sb L : Nat) (xs : Nat → Int32) (q : m_C) (Q : m_R → Prop) : mt_T (cdL sb L xs) 0 q Q = mt_go [o_new 8 n_fs_TC, o_dup] q (mt_kk (cdL sb L xs) Q (o_callI sm_TC_init 1 7)) := mt_blk rfl q Q
theorem kL_7 (sb L : Nat) (xs : Nat → Int32) (q : m_C) (Q : m_R → Prop) : mt_T (cdL sb L xs) 7 q Q = mt_go [o_astore 1, o_new 9 n_fs_MD, o_dup] q (mt_kk (cdL sb L xs) Q (o_callI sm_MD_init 1 15)) := mt_blk rfl q Q
theorem kL_15 (sb L : Nat) (xs : Nat → Int32) (q : m_C) (Q : m_R → Prop) : mt_T (cdL sb L xs) 15 q Q = mt_go [o_astore 2, o_const (nI 0), o_istore 3] q (mt_kk (cdL sb L xs) Q (o_fall 18)) := mt_blk rfl q Q
theorem kL_18 (sb L : Nat) (xs : Nat → Int32) (q : m_C) (Q : m_R → Prop) : mt_T (cdL sb L xs) 18 q Q = mt_go [o_iload 3, o_aload 0, o_slen sb L, o_const (nI 5), o_sub] q (mt_kk (cdL sb L xs) Q (o_icgt 618 26)) := mt_blk rfl q Q
theorem kL_26 (sb L : Nat) (xs : Nat → Int32) (q : m_C) (Q : m_R → Prop) : mt_T (cdL sb L xs) 26 q Q = mt_go [o_aload 0, o_iload 3, o_sld sb L xs, o_const (nI 15), o_and] q (mt_kk (cdL sb L xs) Q (o_tsw 0 15 612 [112, 171, 214, 267, 300, 349, 372, 385, 398, 431, 474, 507, 530, 553, 576, 589])) := mt_blk rfl q Q
theorem kL_112 (sb L : Nat) (xs : Nat → Int32) (q : m_C) (Q : m_R → Prop) : mt_T (cdL sb L xs) 112 q Q = mt_go [o_aload 1, o_aload 0, o_iload 3, o_const (nI 1), o_add, o_sld sb L xs] q (mt_kk (cdL sb L xs) Q (o_ifeq 125 121)) := mt_blk rfl q Q
theorem kL_121 (sb L : Nat) (xs : Nat → Int32) (q : m_C) (Q : m_R → Prop) : mt_T (cdL sb L xs) 121 q Q = mt_go [o_const (nI 1)] q (mt_kk (cdL sb L xs) Q (o_fall 126)) := mt_blk rfl q Q
theorem kL_125 (sb L : Nat) (xs : Nat → Int32) (q : m_C) (Q : m_R → Prop) : mt_T (cdL sb L xs) 125 q Q = mt_go [o_const (nI 0)] q (mt_kk (cdL sb L xs) Q (o_fall 126)) := mt_blk rfl q Q
theorem kL_126 (sb L : Nat) (xs : Nat → Int32) (q : m_C) (Q : m_R → Prop) : mt_T (cdL sb L xs) 126 q Q = mt_go [o_aload 0, o_iload 3, o_const (nI 2), o_add, o_sld sb L xs, o_aload 0, o_iload 3, o_const (nI 3), o_add, o_sld sb L xs] q (mt_kk (cdL sb L xs) Q (o_callV sm_TC_rule 8 4 139)) := mt_blk rfl q Q
theorem kL_139 (sb L : Nat) (xs : Nat → Int32) (q : m_C) (Q : m_R → Prop) : mt_T (cdL sb L xs) 139 q Q = mt_go [o_aload 2, o_aload 0, o_iload 3, o_const (nI 1), o_add, o_sld sb L xs] q (mt_kk (cdL sb L xs) Q (o_ifeq 152 148)) := mt_blk rfl q Q
theorem kL_148 (sb L : Nat) (xs : Nat → Int32) (q : m_C) (Q : m_R → Prop) : mt_T (cdL sb L xs) 148 q Q = mt_go [o_const (nI 1)] q (mt_kk (cdL sb L xs) Q (o_fall 153)) := mt_blk rfl q Q
theorem kL_152 (sb L : Nat) (xs : Nat → Int32) (q : m_C) (Q : m_R → Prop) : mt_T (cdL sb L xs) 152 q Q = mt_go [o_const (nI 0)] q (mt_kk (cdL sb L xs) Q (o_fall 153)) := mt_blk rfl q Q
theorem kL_153 (sb L : Nat) (xs : Nat → Int32) (q : m_C) (Q : m_R → Prop) : mt_T (cdL sb L xs) 153 q Q = mt_go [o_aload 0, o_iload 3, o_const (nI 2), o_add, o_sld sb L xs, o_aload 0, o_iload 3, o_const (nI 3), o_add, o_sld sb L xs] q (mt_kk (cdL sb L xs) Q (o_callV sm_MD_rule 9 4 166)) := mt_blk rfl q Q
theorem kL_166 (sb L : Nat) (xs : Nat → Int32) (q : m_C) (Q : m_R → Prop) : mt_T (cdL sb L xs) 166 q Q = mt_go [] q (mt_kk (cdL sb L xs) Q (o_iceq 612 169)) := mt_blk rfl q Q
theorem kL_169 (sb L : Nat) (xs : Nat → Int32) (q : m_C) (Q : m_R → Prop) : mt_T (cdL sb L xs) 169 q Q = mt_go [o_const (nI 0)] q (mt_kk (cdL sb L xs) Q (o_zret)) := mt_blk rfl q Q
theorem kL_171 (sb L : Nat) (xs : Nat → Int32) (q : m_C) (Q : m_R → Prop) : mt_T (cdL sb L xs) 171 q Q = mt_go [o_aload 1, o_aload 0, o_iload 3, o_const (nI 1), o_add, o_sld sb L xs, o_aload 0, o_iload 3, o_const (nI 2), o_add, o_sld sb L xs, o_aload 0, o_iload 3, o_const (nI 3), o_add, o_sld sb L xs] q (mt_kk (cdL sb L xs) Q (o_callV sm_TC_put 8 4 190)) := mt_blk rfl q Q
theorem kL_190 (sb L : Nat) (xs : Nat → Int32) (q : m_C) (Q : m_R → Prop) : mt_T (cdL sb L xs) 190 q Q = mt_go [o_aload 2, o_aload 0, o_iload 3, o_const (nI 1), o_add, o_sld sb L xs, o_aload 0, o_iload 3, o_const (nI 2), o_add, o_sld sb L xs, o_aload 0, o_iload 3, o_const (nI 3), o_add, o_sld sb L xs] q (mt_kk (cdL sb L xs) Q (o_callV sm_MD_put 9 4 209)) := mt_blk rfl q Q
theorem kL_209 (sb L : Nat) (xs : Nat → Int32) (q : m_C) (Q : m_R → Prop) : mt_T (cdL sb L xs) 209 q Q = mt_go [] q (mt_kk (cdL sb L xs) Q (o_iceq 612 212)) := mt_blk rfl q Q
theorem kL_212 (sb L : Nat) (xs : Nat → Int32) (q : m_C) (Q : m_R → Prop) : mt_T (cdL sb L xs) 212 q Q = mt_go [o_const (nI 0)] q (mt_kk (cdL sb L xs) Q (o_zret)) := mt_blk rfl q Q
theorem kL_214 (sb L : Nat) (xs : Nat → Int32) (q : m_C) (Q : m_R → Prop) : mt_T (cdL sb L xs) 214 q Q = mt_go [o_aload 1, o_aload 0, o_iload 3, o_const (nI 1), o_add, o_sld sb L xs, o_aload 0, o_iload 3, o_const (nI 2), o_add, o_sld sb L xs, o_aload 0, o_iload 3, o_const (nI 3), o_add, o_sld sb L xs, o_aload 0, o_iload 3, o_const (nI 4), o_add, o_sld sb L xs] q (mt_kk (cdL sb L xs) Q (o_callV sm_TC_set 8 5 238)) := mt_blk rfl q Q
theorem kL_238 (sb L : Nat) (xs : Nat → Int32) (q : m_C) (Q : m_R → Prop) : mt_T (cdL sb L xs) 238 q Q = mt_go [o_aload 2, o_aload 0, o_iload 3, o_const (nI 1), o_add, o_sld sb L xs, o_aload 0, o_iload 3, o_const (nI 2), o_add, o_sld sb L xs, o_aload 0, o_iload 3, o_const (nI 3), o_add, o_sld sb L xs, o_aload 0, o_iload 3, o_const (nI 4), o_add, o_sld sb L xs] q (mt_kk (cdL sb L xs) Q (o_callV sm_MD_set 9 5 262)) := mt_blk rfl q Q
theorem kL_262 (sb L : Nat) (xs : Nat → Int32) (q : m_C) (Q : m_R → Prop) : mt_T (cdL sb L xs) 262 q Q = mt_go [] q (mt_kk (cdL sb L xs) Q (o_iceq 612 265)) := mt_blk rfl q Q
theorem kL_265 (sb L : Nat) (xs : Nat → Int32) (q : m_C) (Q : m_R → Prop) : mt_T (cdL sb L xs) 265 q Q = mt_go [o_const (nI 0)] q (mt_kk (cdL sb L xs) Q (o_zret)) := mt_blk rfl q Q
theorem kL_267 (sb L : Nat) (xs : Nat → Int32) (q : m_C) (Q : m_R → Prop) : mt_T (cdL sb L xs) 267 q Q = mt_go [o_aload 1, o_aload 0, o_iload 3, o_const (nI 1), o_add, o_sld sb L xs, o_aload 0, o_iload 3, o_const (nI 2), o_add, o_sld sb L xs] q (mt_kk (cdL sb L xs) Q (o_callV sm_TC_remove 8 3 281)) := mt_blk rfl q Q
theorem kL_281 (sb L : Nat) (xs : Nat → Int32) (q : m_C) (Q : m_R → Prop) : mt_T (cdL sb L xs) 281 q Q = mt_go [o_aload 2, o_aload 0, o_iload 3, o_const (nI 1), o_add, o_sld sb L xs, o_aload 0, o_iload 3, o_const (nI 2), o_add, o_sld sb L xs] q (mt_kk (cdL sb L xs) Q (o_callV sm_MD_remove 9 3 295)) := mt_blk rfl q Q
theorem kL_295 (sb L : Nat) (xs : Nat → Int32) (q : m_C) (Q : m_R → Prop) : mt_T (cdL sb L xs) 295 q Q = mt_go [] q (mt_kk (cdL sb L xs) Q (o_iceq 612 298)) := mt_blk rfl q Q
theorem kL_298 (sb L : Nat) (xs : Nat → Int32) (q : m_C) (Q : m_R → Prop) : mt_T (cdL sb L xs) 298 q Q = mt_go [o_const (nI 0)] q (mt_kk (cdL sb L xs) Q (o_zret)) := mt_blk rfl q Q
theorem kL_300 (sb L : Nat) (xs : Nat → Int32) (q : m_C) (Q : m_R → Prop) : mt_T (cdL sb L xs) 300 q Q = mt_go [o_aload 1, o_aload 0, o_iload 3, o_const (nI 1), o_add, o_sld sb L xs, o_aload 0, o_iload 3, o_const (nI 2), o_add, o_sld sb L xs] q (mt_kk (cdL sb L xs) Q (o_ifeq 318 314)) := mt_blk rfl q Q
theorem kL_314 (sb L : Nat) (xs : Nat → Int32) (q : m_C) (Q : m_R → Prop) : mt_T (cdL sb L xs) 314 q Q = mt_go [o_const (nI 1)] q (mt_kk (cdL sb L xs) Q (o_fall 319)) := mt_blk rfl q Q
theorem kL_318 (sb L : Nat) (xs : Nat → Int32) (q : m_C) (Q : m_R → Prop) : mt_T (cdL sb L xs) 318 q Q = mt_go [o_const (nI 0)] q (mt_kk (cdL sb L xs) Q (o_fall 319)) := mt_blk rfl q Q
theorem kL_319 (sb L : Nat) (xs : Nat → Int32) (q : m_C) (Q : m_R → Prop) : mt_T (cdL sb L xs) 319 q Q = mt_go [] q (mt_kk (cdL sb L xs) Q (o_callV sm_TC_begin 8 3 322)) := mt_blk rfl q Q
theorem kL_322 (sb L : Nat) (xs : Nat → Int32) (q : m_C) (Q : m_R → Prop) : mt_T (cdL sb L xs) 322 q Q = mt_go [o_aload 2, o_aload 0, o_iload 3, o_const (nI 1), o_add, o_sld sb L xs, o_aload 0, o_iload 3, o_const (nI 2), o_add, o_sld sb L xs] q (mt_kk (cdL sb L xs) Q (o_ifeq 340 336)) := mt_blk rfl q Q
theorem kL_336 (sb L : Nat) (xs : Nat → Int32) (q : m_C) (Q : m_R → Prop) : mt_T (cdL sb L xs) 336 q Q = mt_go [o_const (nI 1)] q (mt_kk (cdL sb L xs) Q (o_fall 341)) := mt_blk rfl q Q
theorem kL_340 (sb L : Nat) (xs : Nat → Int32) (q : m_C) (Q : m_R → Prop) : mt_T (cdL sb L xs) 340 q Q = mt_go [o_const (nI 0)] q (mt_kk (cdL sb L xs) Q (o_fall 341)) := mt_blk rfl q Q
theorem kL_341 (sb L : Nat) (xs : Nat → Int32) (q : m_C) (Q : m_R → Prop) : mt_T (cdL sb L xs) 341 q Q = mt_go [] q (mt_kk (cdL sb L xs) Q (o_callV sm_MD_begin 9 3 344)) := mt_blk rfl q Q
theorem kL_344 (sb L : Nat) (xs : Nat → Int32) (q : m_C) (Q : m_R → Prop) : mt_T (cdL sb L xs) 344 q Q = mt_go [] q (mt_kk (cdL sb L xs) Q (o_iceq 612 347)) := mt_blk rfl q Q
theorem kL_347 (sb L : Nat) (xs : Nat → Int32) (q : m_C) (Q : m_R → Prop) : mt_T (cdL sb L xs) 347 q Q = mt_go [o_const (nI 0)] q (mt_kk (cdL sb L xs) Q (o_zret)) := mt_blk rfl q Q
theorem kL_349 (sb L : Nat) (xs : Nat → Int32) (q : m_C) (Q : m_R → Prop) : mt_T (cdL sb L xs) 349 q Q = mt_go [o_aload 1, o_aload 0, o_iload 3, o_const (nI 1), o_add, o_sld sb L xs] q (mt_kk (cdL sb L xs) Q (o_callV sm_TC_deliver 8 2 358)) := mt_blk rfl q Q
theorem kL_358 (sb L : Nat) (xs : Nat → Int32) (q : m_C) (Q : m_R → Prop) : mt_T (cdL sb L xs) 358 q Q = mt_go [o_aload 2, o_aload 0, o_iload 3, o_const (nI 1), o_add, o_sld sb L xs] q (mt_kk (cdL sb L xs) Q (o_callV sm_MD_deliver 9 2 367)) := mt_blk rfl q Q
theorem kL_367 (sb L : Nat) (xs : Nat → Int32) (q : m_C) (Q : m_R → Prop) : mt_T (cdL sb L xs) 367 q Q = mt_go [] q (mt_kk (cdL sb L xs) Q (o_iceq 612 370)) := mt_blk rfl q Q
theorem kL_370 (sb L : Nat) (xs : Nat → Int32) (q : m_C) (Q : m_R → Prop) : mt_T (cdL sb L xs) 370 q Q = mt_go [o_const (nI 0)] q (mt_kk (cdL sb L xs) Q (o_zret)) := mt_blk rfl q Q
theorem kL_372 (sb L : Nat) (xs : Nat → Int32) (q : m_C) (Q : m_R → Prop) : mt_T (cdL sb L xs) 372 q Q = mt_go [o_aload 1] q (mt_kk (cdL sb L xs) Q (o_callV sm_TC_crash 8 1 376)) := mt_blk rfl q Q
theorem kL_376 (sb L : Nat) (xs : Nat → Int32) (q : m_C) (Q : m_R → Prop) : mt_T (cdL sb L xs) 376 q Q = mt_go [o_aload 2] q (mt_kk (cdL sb L xs) Q (o_callV sm_MD_crash 9 1 380)) := mt_blk rfl q Q
theorem kL_380 (sb L : Nat) (xs : Nat → Int32) (q : m_C) (Q : m_R → Prop) : mt_T (cdL sb L xs) 380 q Q = mt_go [] q (mt_kk (cdL sb L xs) Q (o_iceq 612 383)) := mt_blk rfl q Q
theorem kL_383 (sb L : Nat) (xs : Nat → Int32) (q : m_C) (Q : m_R → Prop) : mt_T (cdL sb L xs) 383 q Q = mt_go [o_const (nI 0)] q (mt_kk (cdL sb L xs) Q (o_zret)) := mt_blk rfl q Q
theorem kL_385 (sb L : Nat) (xs : Nat → Int32) (q : m_C) (Q : m_R → Prop) : mt_T (cdL sb L xs) 385 q Q = mt_go [o_aload 1] q (mt_kk (cdL sb L xs) Q (o_callV sm_TC_on 8 1 389)) := mt_blk rfl q Q
theorem kL_389 (sb L : Nat) (xs : Nat → Int32) (q : m_C) (Q : m_R → Prop) : mt_T (cdL sb L xs) 389 q Q = mt_go [o_aload 2] q (mt_kk (cdL sb L xs) Q (o_callV sm_MD_on 9 1 393)) := mt_blk rfl q Q
theorem kL_393 (sb L : Nat) (xs : Nat → Int32) (q : m_C) (Q : m_R → Prop) : mt_T (cdL sb L xs) 393 q Q = mt_go [] q (mt_kk (cdL sb L xs) Q (o_iceq 612 396)) := mt_blk rfl q Q
theorem kL_396 (sb L : Nat) (xs : Nat → Int32) (q : m_C) (Q : m_R → Prop) : mt_T (cdL sb L xs) 396 q Q = mt_go [o_const (nI 0)] q (mt_kk (cdL sb L xs) Q (o_zret)) := mt_blk rfl q Q
theorem kL_398 (sb L : Nat) (xs : Nat → Int32) (q : m_C) (Q : m_R → Prop) : mt_T (cdL sb L xs) 398 q Q = mt_go [o_aload 1, o_aload 0, o_iload 3, o_const (nI 1), o_add, o_sld sb L xs, o_aload 0, o_iload 3, o_const (nI 2), o_add, o_sld sb L xs] q (mt_kk (cdL sb L xs) Q (o_callV sm_TC_size 8 3 412)) := mt_blk rfl q Q
theorem kL_412 (sb L : Nat) (xs : Nat → Int32) (q : m_C) (Q : m_R → Prop) : mt_T (cdL sb L xs) 412 q Q = mt_go [o_aload 2, o_aload 0, o_iload 3, o_const (nI 1), o_add, o_sld sb L xs, o_aload 0, o_iload 3, o_const (nI 2), o_add, o_sld sb L xs] q (mt_kk (cdL sb L xs) Q (o_callV sm_MD_size 9 3 426)) := mt_blk rfl q Q
theorem kL_426 (sb L : Nat) (xs : Nat → Int32) (q : m_C) (Q : m_R → Prop) : mt_T (cdL sb L xs) 426 q Q = mt_go [] q (mt_kk (cdL sb L xs) Q (o_iceq 612 429)) := mt_blk rfl q Q
theorem kL_429 (sb L : Nat) (xs : Nat → Int32) (q : m_C) (Q : m_R → Prop) : mt_T (cdL sb L xs) 429 q Q = mt_go [o_const (nI 0)] q (mt_kk (cdL sb L xs) Q (o_zret)) := mt_blk rfl q Q
theorem kL_431 (sb L : Nat) (xs : Nat → Int32) (q : m_C) (Q : m_R → Prop) : mt_T (cdL sb L xs) 431 q Q = mt_go [o_aload 1, o_aload 0, o_iload 3, o_const (nI 1), o_add, o_sld sb L xs, o_aload 0, o_iload 3, o_const (nI 2), o_add, o_sld sb L xs, o_aload 0, o_iload 3, o_const (nI 3), o_add, o_sld sb L xs] q (mt_kk (cdL sb L xs) Q (o_callV sm_TC_at 8 4 450)) := mt_blk rfl q Q
theorem kL_450 (sb L : Nat) (xs : Nat → Int32) (q : m_C) (Q : m_R → Prop) : mt_T (cdL sb L xs) 450 q Q = mt_go [o_aload 2, o_aload 0, o_iload 3, o_const (nI 1), o_add, o_sld sb L xs, o_aload 0, o_iload 3, o_const (nI 2), o_add, o_sld sb L xs, o_aload 0, o_iload 3, o_const (nI 3), o_add, o_sld sb L xs] q (mt_kk (cdL sb L xs) Q (o_callV sm_MD_at 9 4 469)) := mt_blk rfl q Q
theorem kL_469 (sb L : Nat) (xs : Nat → Int32) (q : m_C) (Q : m_R → Prop) : mt_T (cdL sb L xs) 469 q Q = mt_go [] q (mt_kk (cdL sb L xs) Q (o_iceq 612 472)) := mt_blk rfl q Q
theorem kL_472 (sb L : Nat) (xs : Nat → Int32) (q : m_C) (Q : m_R → Prop) : mt_T (cdL sb L xs) 472 q Q = mt_go [o_const (nI 0)] q (mt_kk (cdL sb L xs) Q (o_zret)) := mt_blk rfl q Q
theorem kL_474 (sb L : Nat) (xs : Nat → Int32) (q : m_C) (Q : m_R → Prop) : mt_T (cdL sb L xs) 474 q Q = mt_go [o_aload 1, o_aload 0, o_iload 3, o_const (nI 1), o_add, o_sld sb L xs, o_aload 0, o_iload 3, o_const (nI 2), o_add, o_sld sb L xs] q (mt_kk (cdL sb L xs) Q (o_callV sm_TC_time 8 3 488)) := mt_blk rfl q Q
theorem kL_488 (sb L : Nat) (xs : Nat → Int32) (q : m_C) (Q : m_R → Prop) : mt_T (cdL sb L xs) 488 q Q = mt_go [o_aload 2, o_aload 0, o_iload 3, o_const (nI 1), o_add, o_sld sb L xs, o_aload 0, o_iload 3, o_const (nI 2), o_add, o_sld sb L xs] q (mt_kk (cdL sb L xs) Q (o_callV sm_MD_time 9 3 502)) := mt_blk rfl q Q
theorem kL_502 (sb L : Nat) (xs : Nat → Int32) (q : m_C) (Q : m_R → Prop) : mt_T (cdL sb L xs) 502 q Q = mt_go [] q (mt_kk (cdL sb L xs) Q (o_iceq 612 505)) := mt_blk rfl q Q
theorem kL_505 (sb L : Nat) (xs : Nat → Int32) (q : m_C) (Q : m_R → Prop) : mt_T (cdL sb L xs) 505 q Q = mt_go [o_const (nI 0)] q (mt_kk (cdL sb L xs) Q (o_zret)) := mt_blk rfl q Q
theorem kL_507 (sb L : Nat) (xs : Nat → Int32) (q : m_C) (Q : m_R → Prop) : mt_T (cdL sb L xs) 507 q Q = mt_go [o_aload 1, o_aload 0, o_iload 3, o_const (nI 1), o_add, o_sld sb L xs] q (mt_kk (cdL sb L xs) Q (o_callV sm_TC_selected 8 2 516)) := mt_blk rfl q Q
theorem kL_516 (sb L : Nat) (xs : Nat → Int32) (q : m_C) (Q : m_R → Prop) : mt_T (cdL sb L xs) 516 q Q = mt_go [o_aload 2, o_aload 0, o_iload 3, o_const (nI 1), o_add, o_sld sb L xs] q (mt_kk (cdL sb L xs) Q (o_callV sm_MD_selected 9 2 525)) := mt_blk rfl q Q
theorem kL_525 (sb L : Nat) (xs : Nat → Int32) (q : m_C) (Q : m_R → Prop) : mt_T (cdL sb L xs) 525 q Q = mt_go [] q (mt_kk (cdL sb L xs) Q (o_iceq 612 528)) := mt_blk rfl q Q
theorem kL_528 (sb L : Nat) (xs : Nat → Int32) (q : m_C) (Q : m_R → Prop) : mt_T (cdL sb L xs) 528 q Q = mt_go [o_const (nI 0)] q (mt_kk (cdL sb L xs) Q (o_zret)) := mt_blk rfl q Q
theorem kL_530 (sb L : Nat) (xs : Nat → Int32) (q : m_C) (Q : m_R → Prop) : mt_T (cdL sb L xs) 530 q Q = mt_go [o_aload 1, o_aload 0, o_iload 3, o_const (nI 1), o_add, o_sld sb L xs] q (mt_kk (cdL sb L xs) Q (o_callV sm_TC_waiting 8 2 539)) := mt_blk rfl q Q
theorem kL_539 (sb L : Nat) (xs : Nat → Int32) (q : m_C) (Q : m_R → Prop) : mt_T (cdL sb L xs) 539 q Q = mt_go [o_aload 2, o_aload 0, o_iload 3, o_const (nI 1), o_add, o_sld sb L xs] q (mt_kk (cdL sb L xs) Q (o_callV sm_MD_waiting 9 2 548)) := mt_blk rfl q Q
theorem kL_548 (sb L : Nat) (xs : Nat → Int32) (q : m_C) (Q : m_R → Prop) : mt_T (cdL sb L xs) 548 q Q = mt_go [] q (mt_kk (cdL sb L xs) Q (o_iceq 612 551)) := mt_blk rfl q Q
theorem kL_551 (sb L : Nat) (xs : Nat → Int32) (q : m_C) (Q : m_R → Prop) : mt_T (cdL sb L xs) 551 q Q = mt_go [o_const (nI 0)] q (mt_kk (cdL sb L xs) Q (o_zret)) := mt_blk rfl q Q
theorem kL_553 (sb L : Nat) (xs : Nat → Int32) (q : m_C) (Q : m_R → Prop) : mt_T (cdL sb L xs) 553 q Q = mt_go [o_aload 1, o_aload 0, o_iload 3, o_const (nI 1), o_add, o_sld sb L xs] q (mt_kk (cdL sb L xs) Q (o_callV sm_TC_next 8 2 562)) := mt_blk rfl q Q
theorem kL_562 (sb L : Nat) (xs : Nat → Int32) (q : m_C) (Q : m_R → Prop) : mt_T (cdL sb L xs) 562 q Q = mt_go [o_aload 2, o_aload 0, o_iload 3, o_const (nI 1), o_add, o_sld sb L xs] q (mt_kk (cdL sb L xs) Q (o_callV sm_MD_next 9 2 571)) := mt_blk rfl q Q
theorem kL_571 (sb L : Nat) (xs : Nat → Int32) (q : m_C) (Q : m_R → Prop) : mt_T (cdL sb L xs) 571 q Q = mt_go [] q (mt_kk (cdL sb L xs) Q (o_iceq 612 574)) := mt_blk rfl q Q
theorem kL_574 (sb L : Nat) (xs : Nat → Int32) (q : m_C) (Q : m_R → Prop) : mt_T (cdL sb L xs) 574 q Q = mt_go [o_const (nI 0)] q (mt_kk (cdL sb L xs) Q (o_zret)) := mt_blk rfl q Q
theorem kL_576 (sb L : Nat) (xs : Nat → Int32) (q : m_C) (Q : m_R → Prop) : mt_T (cdL sb L xs) 576 q Q = mt_go [o_aload 1] q (mt_kk (cdL sb L xs) Q (o_callV sm_TC_journal 8 1 580)) := mt_blk rfl q Q
theorem kL_580 (sb L : Nat) (xs : Nat → Int32) (q : m_C) (Q : m_R → Prop) : mt_T (cdL sb L xs) 580 q Q = mt_go [o_aload 2] q (mt_kk (cdL sb L xs) Q (o_callV sm_MD_journal 9 1 584)) := mt_blk rfl q Q
theorem kL_584 (sb L : Nat) (xs : Nat → Int32) (q : m_C) (Q : m_R → Prop) : mt_T (cdL sb L xs) 584 q Q = mt_go [] q (mt_kk (cdL sb L xs) Q (o_iceq 612 587)) := mt_blk rfl q Q
theorem kL_587 (sb L : Nat) (xs : Nat → Int32) (q : m_C) (Q : m_R → Prop) : mt_T (cdL sb L xs) 587 q Q = mt_go [o_const (nI 0)] q (mt_kk (cdL sb L xs) Q (o_zret)) := mt_blk rfl q Q
theorem kL_589 (sb L : Nat) (xs : Nat → Int32) (q : m_C) (Q : m_R → Prop) : mt_T (cdL sb L xs) 589 q Q = mt_go [o_aload 1, o_aload 0, o_iload 3, o_const (nI 1), o_add, o_sld sb L xs] q (mt_kk (cdL sb L xs) Q (o_callV sm_TC_count 8 2 598)) := mt_blk rfl q Q
theorem kL_598 (sb L : Nat) (xs : Nat → Int32) (q : m_C) (Q : m_R → Prop) : mt_T (cdL sb L xs) 598 q Q = mt_go [o_aload 2, o_aload 0, o_iload 3, o_const (nI 1), o_add, o_sld sb L xs] q (mt_kk (cdL sb L xs) Q (o_callV sm_MD_count 9 2 607)) := mt_blk rfl q Q
theorem kL_607 (sb L : Nat) (xs : Nat → Int32) (q : m_C) (Q : m_R → Prop) : mt_T (cdL sb L xs) 607 q Q = mt_go [] q (mt_kk (cdL sb L xs) Q (o_iceq 612 610)) := mt_blk rfl q Q
theorem kL_610 (sb L : Nat) (xs : Nat → Int32) (q : m_C) (Q : m_R → Prop) : mt_T (cdL sb L xs) 610 q Q = mt_go [o_const (nI 0)] q (mt_kk (cdL sb L xs) Q (o_zret)) := mt_blk rfl q Q
theorem kL_612 (sb L : Nat) (xs : Nat → Int32) (q : m_C) (Q : m_R → Prop) : mt_T (cdL sb L xs) 612 q Q = mt_go [o_iinc 3 (nI 5)] q (mt_kk (cdL sb L xs) Q (o_fall 18)) := mt_blk rfl q Q
theorem kL_618 (sb L : Nat) (xs : Nat → Int32) (q : m_C) (Q : m_R → Prop) : mt_T (cdL sb L xs) 618 q Q = mt_go [o_const (nI 1)] q (mt_kk (cdL sb L xs) Q (o_zret)) := mt_blk rfl q Q
