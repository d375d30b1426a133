/-! The reference: deliver. What a session keeps true. -/
section MD
variable {n w c : Nat} {f : Nat → Option m_E}
theorem m_dv {U : v_N} {z : a_Z} {k : Int32} (h : dR U z) (ho : ∀ y, z.2.2.2.2.2 = some y → y_ok y) : mt_P sm_MD_deliver [.inr (some c), .inl k] (n, w, imr c U f) (d_Q (s_dv z k).1 n w c f (s_dv z k).2) := by
  refine mt_P_of ?_
  have hx0 := mt_ix_nI (j := 0) (n := 2) (by decide) (by decide)
  have hx1 := mt_ix_nI (j := 1) (n := 2) (by decide) (by decide)
  have hc0 := mt_ix_nI (j := 2790) (n := 2880) (by decide) (by decide)
  have hc1 := mt_ix_nI (j := 2791) (n := 2880) (by decide) (by decide)
  rcases ln_cases k with rfl | rfl | ⟨h0, h1, hb⟩
  · have hw := (tR_l0 h.2.2.2.2.2).1
    unfold s_dv
    cases hz : z.2.2.2.2.2 with
    | none =>
      rw [hz] at hw
      have hw : U 12 0 = nI 0 := hw
      simp only [k_MD_deliver_0, k_MD_deliver_5, k_MD_deliver_8, k_MD_deliver_17, mt_kk, mt_l0, lget, lput, mt_pop, g_nil, g_const, g_null, g_iload, g_aload, g_istore, g_astore, g_iinc, g_add, g_sub, g_mul, g_and, g_xor, g_div, g_rem, g_dup, g_dup2, g_pop, g_get, g_putI, g_putZ, g_putA, g_iald, g_zald, g_iast, g_zast, g_aald, g_aast, g_alen, g_new, g_newI, g_newA, g_objinit, l_fall, l_ifeq, l_ifne, l_iflt, l_ifge, l_ifgt, l_ifle, l_iceq, l_icne, l_iclt, l_icge, l_icgt, l_icle, l_nullN, l_nullS, l_nonnullN, l_nonnullS, l_acne, l_callV, l_callI, l_callS, l_ret, l_iret, l_zret, l_aret, l_after, List.length_cons, List.length_nil, Nat.reduceAdd, Nat.reduceLT, Nat.reduceLeDiff, Nat.reduceEqDiff, and_self, and_true, true_and, if_true, if_false, reduceIte, ite_true, ite_false, beq_self_eq_true, Nat.zero_add, Option.toList_some, Option.toList_none, List.cons_append, List.nil_append, gj_0, gj_1, gj_2, gj_3, gj_4, gj_5, gj_6, gj_7, gj_8, gj_9, gj_10, gj_11, gj_12, gj_13, gj_14, gj_15, gj_16, gj_17, gj_18, gj_19, gj_20, gj_21, gj_22, gj_23, gj_24, gj_25, gj_26, gj_27, pj_4, pj_5, pj_9, pj_10, pj_11, pj_12, pj_19, pj_20, pj_26, ij_1, ij_2, ij_3, ij_4, ij_5, ij_6, ij_7, ij_8, ij_9, ij_10, ij_11, ij_12, ij_13, ij_14, ij_15, ij_16, ij_17, ij_18, ij_19, vf_1, vf_2, vf_3, vf_4, vf_5, vf_6, vf_7, vf_8, vf_9, vf_10, vf_11, vf_12, vf_13, vf_14, vf_15, vf_16, vf_17, vf_18, vf_19, sj, x_in (j := 0) (h := 1) (by decide) (by decide), e_1, hx0, hw, e_0]
      exact ⟨U, rfl, h⟩
    | some y =>
      rw [hz] at hw
      simp only [if_true]
      obtain ⟨o1, o2, o3, o4⟩ := ho y hz
      cases hl : y.2.2.2.2.2.1 with
      | nil =>
        have hw : U 12 0 = nI y.2.2.2.2.2.1.length := hw
        rw [hl] at hw
        have hw : U 12 0 = nI 0 := hw
        simp only [k_MD_deliver_0, k_MD_deliver_5, k_MD_deliver_8, k_MD_deliver_17, mt_kk, mt_l0, lget, lput, mt_pop, g_nil, g_const, g_null, g_iload, g_aload, g_istore, g_astore, g_iinc, g_add, g_sub, g_mul, g_and, g_xor, g_div, g_rem, g_dup, g_dup2, g_pop, g_get, g_putI, g_putZ, g_putA, g_iald, g_zald, g_iast, g_zast, g_aald, g_aast, g_alen, g_new, g_newI, g_newA, g_objinit, l_fall, l_ifeq, l_ifne, l_iflt, l_ifge, l_ifgt, l_ifle, l_iceq, l_icne, l_iclt, l_icge, l_icgt, l_icle, l_nullN, l_nullS, l_nonnullN, l_nonnullS, l_acne, l_callV, l_callI, l_callS, l_ret, l_iret, l_zret, l_aret, l_after, List.length_cons, List.length_nil, Nat.reduceAdd, Nat.reduceLT, Nat.reduceLeDiff, Nat.reduceEqDiff, and_self, and_true, true_and, if_true, if_false, reduceIte, ite_true, ite_false, beq_self_eq_true, Nat.zero_add, Option.toList_some, Option.toList_none, List.cons_append, List.nil_append, gj_0, gj_1, gj_2, gj_3, gj_4, gj_5, gj_6, gj_7, gj_8, gj_9, gj_10, gj_11, gj_12, gj_13, gj_14, gj_15, gj_16, gj_17, gj_18, gj_19, gj_20, gj_21, gj_22, gj_23, gj_24, gj_25, gj_26, gj_27, pj_4, pj_5, pj_9, pj_10, pj_11, pj_12, pj_19, pj_20, pj_26, ij_1, ij_2, ij_3, ij_4, ij_5, ij_6, ij_7, ij_8, ij_9, ij_10, ij_11, ij_12, ij_13, ij_14, ij_15, ij_16, ij_17, ij_18, ij_19, vf_1, vf_2, vf_3, vf_4, vf_5, vf_6, vf_7, vf_8, vf_9, vf_10, vf_11, vf_12, vf_13, vf_14, vf_15, vf_16, vf_17, vf_18, vf_19, sj, x_in (j := 0) (h := 1) (by decide) (by decide), e_1, hx0, hw, e_0]
        exact ⟨U, rfl, h⟩
      | cons m t =>
        have hw : U 12 0 = nI y.2.2.2.2.2.1.length := hw
        rw [hl, List.length_cons] at hw
        have hen : y.2.2.1 = true := by
          cases he : y.2.2.1 with
          | true => rfl
          | false => have := (o3 he).1; rw [hl] at this; cases this
        obtain ⟨b1, b2, b3⟩ := o4 hen
        rw [hl] at b1 b2
        rw [List.length_cons] at b1
        obtain ⟨m31, m32, m33, m34, m35, m36⟩ := b2 m List.mem_cons_self
        obtain ⟨a1, a2, a3, a4, a5, a6⟩ := id h
        rw [hz] at a6
        obtain ⟨s1, s2, s3, s4, s5, s6, s7, s8, s9⟩ := a6
        rw [hl] at s8
        have hne : (nI (t.length + 1) = 0) = False := eq_false (nI_ne0 (by omega) (by omega))
        simp only [k_MD_deliver_0, k_MD_deliver_5, k_MD_deliver_8, k_MD_deliver_19, k_MD_deliver_35, mt_kk, mt_l0, lget, lput, mt_pop, g_nil, g_const, g_null, g_iload, g_aload, g_istore, g_astore, g_iinc, g_add, g_sub, g_mul, g_and, g_xor, g_div, g_rem, g_dup, g_dup2, g_pop, g_get, g_putI, g_putZ, g_putA, g_iald, g_zald, g_iast, g_zast, g_aald, g_aast, g_alen, g_new, g_newI, g_newA, g_objinit, l_fall, l_ifeq, l_ifne, l_iflt, l_ifge, l_ifgt, l_ifle, l_iceq, l_icne, l_iclt, l_icge, l_icgt, l_icle, l_nullN, l_nullS, l_nonnullN, l_nonnullS, l_acne, l_callV, l_callI, l_callS, l_ret, l_iret, l_zret, l_aret, l_after, List.length_cons, List.length_nil, Nat.reduceAdd, Nat.reduceLT, Nat.reduceLeDiff, Nat.reduceEqDiff, and_self, and_true, true_and, if_true, if_false, reduceIte, ite_true, ite_false, beq_self_eq_true, Nat.zero_add, Option.toList_some, Option.toList_none, List.cons_append, List.nil_append, gj_0, gj_1, gj_2, gj_3, gj_4, gj_5, gj_6, gj_7, gj_8, gj_9, gj_10, gj_11, gj_12, gj_13, gj_14, gj_15, gj_16, gj_17, gj_18, gj_19, gj_20, gj_21, gj_22, gj_23, gj_24, gj_25, gj_26, gj_27, pj_4, pj_5, pj_9, pj_10, pj_11, pj_12, pj_19, pj_20, pj_26, ij_1, ij_2, ij_3, ij_4, ij_5, ij_6, ij_7, ij_8, ij_9, ij_10, ij_11, ij_12, ij_13, ij_14, ij_15, ij_16, ij_17, ij_18, ij_19, vf_1, vf_2, vf_3, vf_4, vf_5, vf_6, vf_7, vf_8, vf_9, vf_10, vf_11, vf_12, vf_13, vf_14, vf_15, vf_16, vf_17, vf_18, vf_19, sj, x_in (j := 0) (h := 1) (by decide) (by decide), e_1, hx0, hw, hne, (show (nI 0 = nI 1) = False from eq_false (by decide))]
        refine mt_call (x_take (by decide) s8) ?_
        rintro r ⟨U1, rfl, g1, g2, g3, g4, g5⟩
        have hd1 : dR U1 (z_s z z.2.2.2.1 z.2.2.2.2.1 (y.1, y.2.1, y.2.2.1, y.2.2.2.1, y.2.2.2.2.1, t, y.2.2.2.2.2.2)) := by
          refine dR_new h hz (fun k _ => by rw [g3 0 (by decide) (by decide)]) (fun q q1 q2 => g3 q (by omega) (by omega)) (hR_congr (by rw [g3 0 (by decide) (by decide)]) (fun q q1 q2 => g3 q (by omega) (by omega)) a4) (fun k hk => by rw [g3 19 (by decide) (by decide)]; exact a5 k hk) (oR_congr (by rw [g3 0 (by decide) (by decide)]) (fun q q1 q2 => g3 q (by omega) (by omega)) s6) (fun e => by rw [g3 11 (by decide) (by decide)]; exact s7 e) g1 (nR_congr (g4 1 (by decide)) (fun i hi => g5 _ (by omega) (by omega)) s9)
        have hk3 : U1 13 2790 = nI 3 := by have := g2.1; rw [m31] at this; exact this
        have e31 : (nI 3 = nI 1) = False := eq_false (by decide)
        have e32 : (nI 3 = nI 2) = False := eq_false (by decide)
        simp only [k_MD_deliver_40, k_MD_deliver_61, k_MD_deliver_73, k_MD_deliver_78, mt_kk, mt_l0, lget, lput, mt_pop, g_nil, g_const, g_null, g_iload, g_aload, g_istore, g_astore, g_iinc, g_add, g_sub, g_mul, g_and, g_xor, g_div, g_rem, g_dup, g_dup2, g_pop, g_get, g_putI, g_putZ, g_putA, g_iald, g_zald, g_iast, g_zast, g_aald, g_aast, g_alen, g_new, g_newI, g_newA, g_objinit, l_fall, l_ifeq, l_ifne, l_iflt, l_ifge, l_ifgt, l_ifle, l_iceq, l_icne, l_iclt, l_icge, l_icgt, l_icle, l_nullN, l_nullS, l_nonnullN, l_nonnullS, l_acne, l_callV, l_callI, l_callS, l_ret, l_iret, l_zret, l_aret, l_after, List.length_cons, List.length_nil, Nat.reduceAdd, Nat.reduceLT, Nat.reduceLeDiff, Nat.reduceEqDiff, and_self, and_true, true_and, if_true, if_false, reduceIte, ite_true, ite_false, beq_self_eq_true, Nat.zero_add, Option.toList_some, Option.toList_none, List.cons_append, List.nil_append, gj_0, gj_1, gj_2, gj_3, gj_4, gj_5, gj_6, gj_7, gj_8, gj_9, gj_10, gj_11, gj_12, gj_13, gj_14, gj_15, gj_16, gj_17, gj_18, gj_19, gj_20, gj_21, gj_22, gj_23, gj_24, gj_25, gj_26, gj_27, pj_4, pj_5, pj_9, pj_10, pj_11, pj_12, pj_19, pj_20, pj_26, ij_1, ij_2, ij_3, ij_4, ij_5, ij_6, ij_7, ij_8, ij_9, ij_10, ij_11, ij_12, ij_13, ij_14, ij_15, ij_16, ij_17, ij_18, ij_19, vf_1, vf_2, vf_3, vf_4, vf_5, vf_6, vf_7, vf_8, vf_9, vf_10, vf_11, vf_12, vf_13, vf_14, vf_15, vf_16, vf_17, vf_18, vf_19, sj, hc0, hk3, e31, e32]
        refine mt_call (x_mans (y := (y.1, y.2.1, y.2.2.1, y.2.2.2.1, y.2.2.2.2.1, t, y.2.2.2.2.2.2)) hd1 rfl g2 m31 m32 (by omega) m35 (by show y.2.2.2.2.2.2.length < 13; omega)) ?_
        rintro r ⟨U2, rfl, h2⟩
        simp only [k_MD_deliver_83, k_MD_deliver_126, mt_kk, mt_l0, lget, lput, mt_pop, g_nil, g_const, g_null, g_iload, g_aload, g_istore, g_astore, g_iinc, g_add, g_sub, g_mul, g_and, g_xor, g_div, g_rem, g_dup, g_dup2, g_pop, g_get, g_putI, g_putZ, g_putA, g_iald, g_zald, g_iast, g_zast, g_aald, g_aast, g_alen, g_new, g_newI, g_newA, g_objinit, l_fall, l_ifeq, l_ifne, l_iflt, l_ifge, l_ifgt, l_ifle, l_iceq, l_icne, l_iclt, l_icge, l_icgt, l_icle, l_nullN, l_nullS, l_nonnullN, l_nonnullS, l_acne, l_callV, l_callI, l_callS, l_ret, l_iret, l_zret, l_aret, l_after, List.length_cons, List.length_nil, Nat.reduceAdd, Nat.reduceLT, Nat.reduceLeDiff, Nat.reduceEqDiff, and_self, and_true, true_and, if_true, if_false, reduceIte, ite_true, ite_false, beq_self_eq_true, Nat.zero_add, Option.toList_some, Option.toList_none, List.cons_append, List.nil_append, gj_0, gj_1, gj_2, gj_3, gj_4, gj_5, gj_6, gj_7, gj_8, gj_9, gj_10, gj_11, gj_12, gj_13, gj_14, gj_15, gj_16, gj_17, gj_18, gj_19, gj_20, gj_21, gj_22, gj_23, gj_24, gj_25, gj_26, gj_27, pj_4, pj_5, pj_9, pj_10, pj_11, pj_12, pj_19, pj_20, pj_26, ij_1, ij_2, ij_3, ij_4, ij_5, ij_6, ij_7, ij_8, ij_9, ij_10, ij_11, ij_12, ij_13, ij_14, ij_15, ij_16, ij_17, ij_18, ij_19, vf_1, vf_2, vf_3, vf_4, vf_5, vf_6, vf_7, vf_8, vf_9, vf_10, vf_11, vf_12, vf_13, vf_14, vf_15, vf_16, vf_17, vf_18, vf_19, sj]
        rw [m31]
        exact ⟨U2, rfl, h2⟩
  · have hw := (tR_l1 h.2.2.2.2.2).1
    unfold s_dv
    have e10 : (nI 1 = nI 0) = False := eq_false (by decide)
    cases hz : z.2.2.2.2.2 with
    | none =>
      rw [hz] at hw
      have hw : U 12 1 = nI 0 := hw
      simp only [k_MD_deliver_0, k_MD_deliver_5, k_MD_deliver_8, k_MD_deliver_17, mt_kk, mt_l0, lget, lput, mt_pop, g_nil, g_const, g_null, g_iload, g_aload, g_istore, g_astore, g_iinc, g_add, g_sub, g_mul, g_and, g_xor, g_div, g_rem, g_dup, g_dup2, g_pop, g_get, g_putI, g_putZ, g_putA, g_iald, g_zald, g_iast, g_zast, g_aald, g_aast, g_alen, g_new, g_newI, g_newA, g_objinit, l_fall, l_ifeq, l_ifne, l_iflt, l_ifge, l_ifgt, l_ifle, l_iceq, l_icne, l_iclt, l_icge, l_icgt, l_icle, l_nullN, l_nullS, l_nonnullN, l_nonnullS, l_acne, l_callV, l_callI, l_callS, l_ret, l_iret, l_zret, l_aret, l_after, List.length_cons, List.length_nil, Nat.reduceAdd, Nat.reduceLT, Nat.reduceLeDiff, Nat.reduceEqDiff, and_self, and_true, true_and, if_true, if_false, reduceIte, ite_true, ite_false, beq_self_eq_true, Nat.zero_add, Option.toList_some, Option.toList_none, List.cons_append, List.nil_append, gj_0, gj_1, gj_2, gj_3, gj_4, gj_5, gj_6, gj_7, gj_8, gj_9, gj_10, gj_11, gj_12, gj_13, gj_14, gj_15, gj_16, gj_17, gj_18, gj_19, gj_20, gj_21, gj_22, gj_23, gj_24, gj_25, gj_26, gj_27, pj_4, pj_5, pj_9, pj_10, pj_11, pj_12, pj_19, pj_20, pj_26, ij_1, ij_2, ij_3, ij_4, ij_5, ij_6, ij_7, ij_8, ij_9, ij_10, ij_11, ij_12, ij_13, ij_14, ij_15, ij_16, ij_17, ij_18, ij_19, vf_1, vf_2, vf_3, vf_4, vf_5, vf_6, vf_7, vf_8, vf_9, vf_10, vf_11, vf_12, vf_13, vf_14, vf_15, vf_16, vf_17, vf_18, vf_19, sj, x_in (j := 1) (h := 1) (by decide) (by decide), e_1, hx1, hw, e_0]
      exact ⟨U, rfl, h⟩
    | some y =>
      rw [hz] at hw
      simp only [e10, if_false, if_true]
      obtain ⟨o1, o2, o3, o4⟩ := ho y hz
      cases hl : y.2.2.2.2.2.2 with
      | nil =>
        have hw : U 12 1 = nI y.2.2.2.2.2.2.length := hw
        rw [hl] at hw
        have hw : U 12 1 = nI 0 := hw
        simp only [k_MD_deliver_0, k_MD_deliver_5, k_MD_deliver_8, k_MD_deliver_17, mt_kk, mt_l0, lget, lput, mt_pop, g_nil, g_const, g_null, g_iload, g_aload, g_istore, g_astore, g_iinc, g_add, g_sub, g_mul, g_and, g_xor, g_div, g_rem, g_dup, g_dup2, g_pop, g_get, g_putI, g_putZ, g_putA, g_iald, g_zald, g_iast, g_zast, g_aald, g_aast, g_alen, g_new, g_newI, g_newA, g_objinit, l_fall, l_ifeq, l_ifne, l_iflt, l_ifge, l_ifgt, l_ifle, l_iceq, l_icne, l_iclt, l_icge, l_icgt, l_icle, l_nullN, l_nullS, l_nonnullN, l_nonnullS, l_acne, l_callV, l_callI, l_callS, l_ret, l_iret, l_zret, l_aret, l_after, List.length_cons, List.length_nil, Nat.reduceAdd, Nat.reduceLT, Nat.reduceLeDiff, Nat.reduceEqDiff, and_self, and_true, true_and, if_true, if_false, reduceIte, ite_true, ite_false, beq_self_eq_true, Nat.zero_add, Option.toList_some, Option.toList_none, List.cons_append, List.nil_append, gj_0, gj_1, gj_2, gj_3, gj_4, gj_5, gj_6, gj_7, gj_8, gj_9, gj_10, gj_11, gj_12, gj_13, gj_14, gj_15, gj_16, gj_17, gj_18, gj_19, gj_20, gj_21, gj_22, gj_23, gj_24, gj_25, gj_26, gj_27, pj_4, pj_5, pj_9, pj_10, pj_11, pj_12, pj_19, pj_20, pj_26, ij_1, ij_2, ij_3, ij_4, ij_5, ij_6, ij_7, ij_8, ij_9, ij_10, ij_11, ij_12, ij_13, ij_14, ij_15, ij_16, ij_17, ij_18, ij_19, vf_1, vf_2, vf_3, vf_4, vf_5, vf_6, vf_7, vf_8, vf_9, vf_10, vf_11, vf_12, vf_13, vf_14, vf_15, vf_16, vf_17, vf_18, vf_19, sj, x_in (j := 1) (h := 1) (by decide) (by decide), e_1, hx1, hw, e_0]
        exact ⟨U, rfl, h⟩
      | cons m t =>
        have hw : U 12 1 = nI y.2.2.2.2.2.2.length := hw
        rw [hl, List.length_cons] at hw
        have ht13 : t.length + 1 ≤ 13 := by
          have h6 := h.2.2.2.2.2
          rw [hz] at h6
          have := h6.2.2.2.2.2.2.2.2.2.1
          rw [hl, List.length_cons] at this
          exact this
        have hne : (nI (t.length + 1) = 0) = False := eq_false (nI_ne0 (by omega) (by omega))
        have hrest : ∀ U1, dR U1 (z_fl z) → mt_T cd_MD_deliver 35 ([some (.inr (some c)), some (.inl (nI 1)), none, none], [], (n, w, imr c U1 f)) (d_Q (nI m.1) n w c f (s_rc (z_fl z) (y.1, y.2.1, y.2.2.1, y.2.2.2.1, y.2.2.2.2.1, y.2.2.2.2.2.1, t) m)) := by
          intro U1 hd0
          obtain ⟨a1, a2, a3, a4, a5, a6⟩ := id hd0
          have a6 : tR U1 (some y) := by rw [← hz]; exact a6
          obtain ⟨s1, s2, s3, s4, s5, s6, s7, s8, s9⟩ := a6
          rw [hl] at s9
          simp only [k_MD_deliver_35, mt_kk, mt_l0, lget, lput, mt_pop, g_nil, g_const, g_null, g_iload, g_aload, g_istore, g_astore, g_iinc, g_add, g_sub, g_mul, g_and, g_xor, g_div, g_rem, g_dup, g_dup2, g_pop, g_get, g_putI, g_putZ, g_putA, g_iald, g_zald, g_iast, g_zast, g_aald, g_aast, g_alen, g_new, g_newI, g_newA, g_objinit, l_fall, l_ifeq, l_ifne, l_iflt, l_ifge, l_ifgt, l_ifle, l_iceq, l_icne, l_iclt, l_icge, l_icgt, l_icle, l_nullN, l_nullS, l_nonnullN, l_nonnullS, l_acne, l_callV, l_callI, l_callS, l_ret, l_iret, l_zret, l_aret, l_after, List.length_cons, List.length_nil, Nat.reduceAdd, Nat.reduceLT, Nat.reduceLeDiff, Nat.reduceEqDiff, and_self, and_true, true_and, if_true, if_false, reduceIte, ite_true, ite_false, beq_self_eq_true, Nat.zero_add, Option.toList_some, Option.toList_none, List.cons_append, List.nil_append, gj_0, gj_1, gj_2, gj_3, gj_4, gj_5, gj_6, gj_7, gj_8, gj_9, gj_10, gj_11, gj_12, gj_13, gj_14, gj_15, gj_16, gj_17, gj_18, gj_19, gj_20, gj_21, gj_22, gj_23, gj_24, gj_25, gj_26, gj_27, pj_4, pj_5, pj_9, pj_10, pj_11, pj_12, pj_19, pj_20, pj_26, ij_1, ij_2, ij_3, ij_4, ij_5, ij_6, ij_7, ij_8, ij_9, ij_10, ij_11, ij_12, ij_13, ij_14, ij_15, ij_16, ij_17, ij_18, ij_19, vf_1, vf_2, vf_3, vf_4, vf_5, vf_6, vf_7, vf_8, vf_9, vf_10, vf_11, vf_12, vf_13, vf_14, vf_15, vf_16, vf_17, vf_18, vf_19, sj]
          refine mt_call (x_take (by decide) s9) ?_
          rintro r ⟨U2, rfl, g1, g2, g3, g4, g5⟩
          have hd1 : dR U2 (z_s (z_fl z) none (z_fl z).2.2.2.2.1 (y.1, y.2.1, y.2.2.1, y.2.2.2.1, y.2.2.2.2.1, y.2.2.2.2.2.1, t)) := by
            refine dR_new hd0 hz (fun k _ => by rw [g3 0 (by decide) (by decide)]) (fun q q1 q2 => g3 q (by omega) (by omega)) (hR_congr (by rw [g3 0 (by decide) (by decide)]) (fun q q1 q2 => g3 q (by omega) (by omega)) a4) (fun k hk => by rw [g3 19 (by decide) (by decide)]; exact a5 k hk) (oR_congr (by rw [g3 0 (by decide) (by decide)]) (fun q q1 q2 => g3 q (by omega) (by omega)) s6) (fun e => by rw [g3 11 (by decide) (by decide)]; exact s7 e) (nR_congr (g4 0 (by decide)) (fun i hi => by have := s8.2.1; exact g5 _ (by omega) (by omega)) s8) g1
          have hkk := g2.1
          unfold s_rc
          cases he : y.2.2.1 with
          | false =>
            obtain ⟨b1, b2, es, b3, b4, b5, b6⟩ := o3 he
            rw [he] at hd1
            rw [hl] at b3
            cases es with
            | nil =>
              cases b3
              have hkk : U2 13 2790 = nI 2 := hkk
              rw [if_neg (show ¬ a_end.1 = 1 by decide), if_pos (show a_end.1 = 2 from rfl)]
              simp only [k_MD_deliver_40, k_MD_deliver_61, k_MD_deliver_66, mt_kk, mt_l0, lget, lput, mt_pop, g_nil, g_const, g_null, g_iload, g_aload, g_istore, g_astore, g_iinc, g_add, g_sub, g_mul, g_and, g_xor, g_div, g_rem, g_dup, g_dup2, g_pop, g_get, g_putI, g_putZ, g_putA, g_iald, g_zald, g_iast, g_zast, g_aald, g_aast, g_alen, g_new, g_newI, g_newA, g_objinit, l_fall, l_ifeq, l_ifne, l_iflt, l_ifge, l_ifgt, l_ifle, l_iceq, l_icne, l_iclt, l_icge, l_icgt, l_icle, l_nullN, l_nullS, l_nonnullN, l_nonnullS, l_acne, l_callV, l_callI, l_callS, l_ret, l_iret, l_zret, l_aret, l_after, List.length_cons, List.length_nil, Nat.reduceAdd, Nat.reduceLT, Nat.reduceLeDiff, Nat.reduceEqDiff, and_self, and_true, true_and, if_true, if_false, reduceIte, ite_true, ite_false, beq_self_eq_true, Nat.zero_add, Option.toList_some, Option.toList_none, List.cons_append, List.nil_append, gj_0, gj_1, gj_2, gj_3, gj_4, gj_5, gj_6, gj_7, gj_8, gj_9, gj_10, gj_11, gj_12, gj_13, gj_14, gj_15, gj_16, gj_17, gj_18, gj_19, gj_20, gj_21, gj_22, gj_23, gj_24, gj_25, gj_26, gj_27, pj_4, pj_5, pj_9, pj_10, pj_11, pj_12, pj_19, pj_20, pj_26, ij_1, ij_2, ij_3, ij_4, ij_5, ij_6, ij_7, ij_8, ij_9, ij_10, ij_11, ij_12, ij_13, ij_14, ij_15, ij_16, ij_17, ij_18, ij_19, vf_1, vf_2, vf_3, vf_4, vf_5, vf_6, vf_7, vf_8, vf_9, vf_10, vf_11, vf_12, vf_13, vf_14, vf_15, vf_16, vf_17, vf_18, vf_19, sj, hc0, hkk, (show (nI 2 = nI 1) = False from eq_false (by decide))]
              refine mt_call (x_mend (y := (y.1, y.2.1, false, y.2.2.2.1, y.2.2.2.2.1, y.2.2.2.2.2.1, [])) hd1 rfl b1 b2 o1) ?_
              rintro r ⟨U3, rfl, h3⟩
              simp only [k_MD_deliver_70, k_MD_deliver_126, mt_kk, mt_l0, lget, lput, mt_pop, g_nil, g_const, g_null, g_iload, g_aload, g_istore, g_astore, g_iinc, g_add, g_sub, g_mul, g_and, g_xor, g_div, g_rem, g_dup, g_dup2, g_pop, g_get, g_putI, g_putZ, g_putA, g_iald, g_zald, g_iast, g_zast, g_aald, g_aast, g_alen, g_new, g_newI, g_newA, g_objinit, l_fall, l_ifeq, l_ifne, l_iflt, l_ifge, l_ifgt, l_ifle, l_iceq, l_icne, l_iclt, l_icge, l_icgt, l_icle, l_nullN, l_nullS, l_nonnullN, l_nonnullS, l_acne, l_callV, l_callI, l_callS, l_ret, l_iret, l_zret, l_aret, l_after, List.length_cons, List.length_nil, Nat.reduceAdd, Nat.reduceLT, Nat.reduceLeDiff, Nat.reduceEqDiff, and_self, and_true, true_and, if_true, if_false, reduceIte, ite_true, ite_false, beq_self_eq_true, Nat.zero_add, Option.toList_some, Option.toList_none, List.cons_append, List.nil_append, gj_0, gj_1, gj_2, gj_3, gj_4, gj_5, gj_6, gj_7, gj_8, gj_9, gj_10, gj_11, gj_12, gj_13, gj_14, gj_15, gj_16, gj_17, gj_18, gj_19, gj_20, gj_21, gj_22, gj_23, gj_24, gj_25, gj_26, gj_27, pj_4, pj_5, pj_9, pj_10, pj_11, pj_12, pj_19, pj_20, pj_26, ij_1, ij_2, ij_3, ij_4, ij_5, ij_6, ij_7, ij_8, ij_9, ij_10, ij_11, ij_12, ij_13, ij_14, ij_15, ij_16, ij_17, ij_18, ij_19, vf_1, vf_2, vf_3, vf_4, vf_5, vf_6, vf_7, vf_8, vf_9, vf_10, vf_11, vf_12, vf_13, vf_14, vf_15, vf_16, vf_17, vf_18, vf_19, sj]
              exact ⟨U3, rfl, h3⟩
            | cons e0 es =>
              cases b3
              obtain ⟨n1, n2, n3, n4, n5⟩ := b5 m List.mem_cons_self
              rw [n1] at hkk
              rw [if_pos n1]
              simp only [k_MD_deliver_40, k_MD_deliver_53, mt_kk, mt_l0, lget, lput, mt_pop, g_nil, g_const, g_null, g_iload, g_aload, g_istore, g_astore, g_iinc, g_add, g_sub, g_mul, g_and, g_xor, g_div, g_rem, g_dup, g_dup2, g_pop, g_get, g_putI, g_putZ, g_putA, g_iald, g_zald, g_iast, g_zast, g_aald, g_aast, g_alen, g_new, g_newI, g_newA, g_objinit, l_fall, l_ifeq, l_ifne, l_iflt, l_ifge, l_ifgt, l_ifle, l_iceq, l_icne, l_iclt, l_icge, l_icgt, l_icle, l_nullN, l_nullS, l_nonnullN, l_nonnullS, l_acne, l_callV, l_callI, l_callS, l_ret, l_iret, l_zret, l_aret, l_after, List.length_cons, List.length_nil, Nat.reduceAdd, Nat.reduceLT, Nat.reduceLeDiff, Nat.reduceEqDiff, and_self, and_true, true_and, if_true, if_false, reduceIte, ite_true, ite_false, beq_self_eq_true, Nat.zero_add, Option.toList_some, Option.toList_none, List.cons_append, List.nil_append, gj_0, gj_1, gj_2, gj_3, gj_4, gj_5, gj_6, gj_7, gj_8, gj_9, gj_10, gj_11, gj_12, gj_13, gj_14, gj_15, gj_16, gj_17, gj_18, gj_19, gj_20, gj_21, gj_22, gj_23, gj_24, gj_25, gj_26, gj_27, pj_4, pj_5, pj_9, pj_10, pj_11, pj_12, pj_19, pj_20, pj_26, ij_1, ij_2, ij_3, ij_4, ij_5, ij_6, ij_7, ij_8, ij_9, ij_10, ij_11, ij_12, ij_13, ij_14, ij_15, ij_16, ij_17, ij_18, ij_19, vf_1, vf_2, vf_3, vf_4, vf_5, vf_6, vf_7, vf_8, vf_9, vf_10, vf_11, vf_12, vf_13, vf_14, vf_15, vf_16, vf_17, vf_18, vf_19, sj, hc0, hkk]
              refine mt_call (x_mnote (y := (y.1, y.2.1, false, y.2.2.2.1, y.2.2.2.2.1, y.2.2.2.2.2.1, es ++ [a_end])) hd1 rfl rfl g2 n2 n5) ?_
              rintro r ⟨U3, rfl, h3⟩
              simp only [k_MD_deliver_58, k_MD_deliver_126, mt_kk, mt_l0, lget, lput, mt_pop, g_nil, g_const, g_null, g_iload, g_aload, g_istore, g_astore, g_iinc, g_add, g_sub, g_mul, g_and, g_xor, g_div, g_rem, g_dup, g_dup2, g_pop, g_get, g_putI, g_putZ, g_putA, g_iald, g_zald, g_iast, g_zast, g_aald, g_aast, g_alen, g_new, g_newI, g_newA, g_objinit, l_fall, l_ifeq, l_ifne, l_iflt, l_ifge, l_ifgt, l_ifle, l_iceq, l_icne, l_iclt, l_icge, l_icgt, l_icle, l_nullN, l_nullS, l_nonnullN, l_nonnullS, l_acne, l_callV, l_callI, l_callS, l_ret, l_iret, l_zret, l_aret, l_after, List.length_cons, List.length_nil, Nat.reduceAdd, Nat.reduceLT, Nat.reduceLeDiff, Nat.reduceEqDiff, and_self, and_true, true_and, if_true, if_false, reduceIte, ite_true, ite_false, beq_self_eq_true, Nat.zero_add, Option.toList_some, Option.toList_none, List.cons_append, List.nil_append, gj_0, gj_1, gj_2, gj_3, gj_4, gj_5, gj_6, gj_7, gj_8, gj_9, gj_10, gj_11, gj_12, gj_13, gj_14, gj_15, gj_16, gj_17, gj_18, gj_19, gj_20, gj_21, gj_22, gj_23, gj_24, gj_25, gj_26, gj_27, pj_4, pj_5, pj_9, pj_10, pj_11, pj_12, pj_19, pj_20, pj_26, ij_1, ij_2, ij_3, ij_4, ij_5, ij_6, ij_7, ij_8, ij_9, ij_10, ij_11, ij_12, ij_13, ij_14, ij_15, ij_16, ij_17, ij_18, ij_19, vf_1, vf_2, vf_3, vf_4, vf_5, vf_6, vf_7, vf_8, vf_9, vf_10, vf_11, vf_12, vf_13, vf_14, vf_15, vf_16, vf_17, vf_18, vf_19, sj]
              rw [n1]
              exact ⟨U3, rfl, h3⟩
          | true =>
            obtain ⟨b1, b2, b3⟩ := o4 he
            rw [he] at hd1
            rw [hl] at b3 b1
            rw [List.length_cons] at b1
            have hm4 := b3 m List.mem_cons_self
            by_cases hk4 : m.1 = 4
            · rw [if_neg (by omega), if_neg (by omega), if_pos hk4]
              rw [hk4] at hkk
              simp only [k_MD_deliver_40, k_MD_deliver_61, k_MD_deliver_73, k_MD_deliver_86, k_MD_deliver_91, mt_kk, mt_l0, lget, lput, mt_pop, g_nil, g_const, g_null, g_iload, g_aload, g_istore, g_astore, g_iinc, g_add, g_sub, g_mul, g_and, g_xor, g_div, g_rem, g_dup, g_dup2, g_pop, g_get, g_putI, g_putZ, g_putA, g_iald, g_zald, g_iast, g_zast, g_aald, g_aast, g_alen, g_new, g_newI, g_newA, g_objinit, l_fall, l_ifeq, l_ifne, l_iflt, l_ifge, l_ifgt, l_ifle, l_iceq, l_icne, l_iclt, l_icge, l_icgt, l_icle, l_nullN, l_nullS, l_nonnullN, l_nonnullS, l_acne, l_callV, l_callI, l_callS, l_ret, l_iret, l_zret, l_aret, l_after, List.length_cons, List.length_nil, Nat.reduceAdd, Nat.reduceLT, Nat.reduceLeDiff, Nat.reduceEqDiff, and_self, and_true, true_and, if_true, if_false, reduceIte, ite_true, ite_false, beq_self_eq_true, Nat.zero_add, Option.toList_some, Option.toList_none, List.cons_append, List.nil_append, gj_0, gj_1, gj_2, gj_3, gj_4, gj_5, gj_6, gj_7, gj_8, gj_9, gj_10, gj_11, gj_12, gj_13, gj_14, gj_15, gj_16, gj_17, gj_18, gj_19, gj_20, gj_21, gj_22, gj_23, gj_24, gj_25, gj_26, gj_27, pj_4, pj_5, pj_9, pj_10, pj_11, pj_12, pj_19, pj_20, pj_26, ij_1, ij_2, ij_3, ij_4, ij_5, ij_6, ij_7, ij_8, ij_9, ij_10, ij_11, ij_12, ij_13, ij_14, ij_15, ij_16, ij_17, ij_18, ij_19, vf_1, vf_2, vf_3, vf_4, vf_5, vf_6, vf_7, vf_8, vf_9, vf_10, vf_11, vf_12, vf_13, vf_14, vf_15, vf_16, vf_17, vf_18, vf_19, sj, hc0, hkk, (show (nI 4 = nI 1) = False from eq_false (by decide)), (show (nI 4 = nI 2) = False from eq_false (by decide)), (show (nI 4 = nI 3) = False from eq_false (by decide))]
              refine mt_call (x_mdelta (y := (y.1, y.2.1, true, y.2.2.2.1, y.2.2.2.2.1, y.2.2.2.2.2.1, t)) hd1 rfl rfl rfl g2 hk4 hm4 (by show y.2.2.2.2.2.1.length < 13; omega) o2 o1) ?_
              rintro r ⟨U3, rfl, h3⟩
              simp only [k_MD_deliver_96, k_MD_deliver_126, mt_kk, mt_l0, lget, lput, mt_pop, g_nil, g_const, g_null, g_iload, g_aload, g_istore, g_astore, g_iinc, g_add, g_sub, g_mul, g_and, g_xor, g_div, g_rem, g_dup, g_dup2, g_pop, g_get, g_putI, g_putZ, g_putA, g_iald, g_zald, g_iast, g_zast, g_aald, g_aast, g_alen, g_new, g_newI, g_newA, g_objinit, l_fall, l_ifeq, l_ifne, l_iflt, l_ifge, l_ifgt, l_ifle, l_iceq, l_icne, l_iclt, l_icge, l_icgt, l_icle, l_nullN, l_nullS, l_nonnullN, l_nonnullS, l_acne, l_callV, l_callI, l_callS, l_ret, l_iret, l_zret, l_aret, l_after, List.length_cons, List.length_nil, Nat.reduceAdd, Nat.reduceLT, Nat.reduceLeDiff, Nat.reduceEqDiff, and_self, and_true, true_and, if_true, if_false, reduceIte, ite_true, ite_false, beq_self_eq_true, Nat.zero_add, Option.toList_some, Option.toList_none, List.cons_append, List.nil_append, gj_0, gj_1, gj_2, gj_3, gj_4, gj_5, gj_6, gj_7, gj_8, gj_9, gj_10, gj_11, gj_12, gj_13, gj_14, gj_15, gj_16, gj_17, gj_18, gj_19, gj_20, gj_21, gj_22, gj_23, gj_24, gj_25, gj_26, gj_27, pj_4, pj_5, pj_9, pj_10, pj_11, pj_12, pj_19, pj_20, pj_26, ij_1, ij_2, ij_3, ij_4, ij_5, ij_6, ij_7, ij_8, ij_9, ij_10, ij_11, ij_12, ij_13, ij_14, ij_15, ij_16, ij_17, ij_18, ij_19, vf_1, vf_2, vf_3, vf_4, vf_5, vf_6, vf_7, vf_8, vf_9, vf_10, vf_11, vf_12, vf_13, vf_14, vf_15, vf_16, vf_17, vf_18, vf_19, sj]
              rw [hk4]
              exact ⟨U3, rfl, h3⟩
            · have hk5 : m.1 = 5 := hm4.2.2.resolve_right (fun e => hk4 e.1)
              rw [if_neg (by omega), if_neg (by omega), if_neg hk4]
              rw [hk5] at hkk
              have hnm := hm4.1
              obtain ⟨c1, c2, c3, c4, c5, c6⟩ := id hd1
              obtain ⟨t1, t2, t3, t4, t5, t6, t7, t8, t9⟩ := c6
              obtain ⟨e0, he0⟩ := List.getElem?_of_mem (nl_mem.mpr ⟨hnm, hm4.2.1⟩ : m.2.1 ∈ a_nl y.2.2.2.1 12)
              have hxe := mt_ix_nI (j := e0) (n := 12) (Nat.lt_of_lt_of_le (List.getElem?_eq_some_iff.mp he0).1 (nl_len 12)) (by decide)
              have hent := x_ment (n := n) (w := w) (c := c) (f := f) (U := U2) t6 hnm he0
              have hn1 := g2.2.1
              simp only [Nat.reduceAdd] at hn1
              simp only [k_MD_deliver_40, k_MD_deliver_61, k_MD_deliver_73, k_MD_deliver_86, k_MD_deliver_99, k_MD_deliver_115, k_MD_deliver_122, mt_kk, mt_l0, lget, lput, mt_pop, g_nil, g_const, g_null, g_iload, g_aload, g_istore, g_astore, g_iinc, g_add, g_sub, g_mul, g_and, g_xor, g_div, g_rem, g_dup, g_dup2, g_pop, g_get, g_putI, g_putZ, g_putA, g_iald, g_zald, g_iast, g_zast, g_aald, g_aast, g_alen, g_new, g_newI, g_newA, g_objinit, l_fall, l_ifeq, l_ifne, l_iflt, l_ifge, l_ifgt, l_ifle, l_iceq, l_icne, l_iclt, l_icge, l_icgt, l_icle, l_nullN, l_nullS, l_nonnullN, l_nonnullS, l_acne, l_callV, l_callI, l_callS, l_ret, l_iret, l_zret, l_aret, l_after, List.length_cons, List.length_nil, Nat.reduceAdd, Nat.reduceLT, Nat.reduceLeDiff, Nat.reduceEqDiff, and_self, and_true, true_and, if_true, if_false, reduceIte, ite_true, ite_false, beq_self_eq_true, Nat.zero_add, Option.toList_some, Option.toList_none, List.cons_append, List.nil_append, gj_0, gj_1, gj_2, gj_3, gj_4, gj_5, gj_6, gj_7, gj_8, gj_9, gj_10, gj_11, gj_12, gj_13, gj_14, gj_15, gj_16, gj_17, gj_18, gj_19, gj_20, gj_21, gj_22, gj_23, gj_24, gj_25, gj_26, gj_27, pj_4, pj_5, pj_9, pj_10, pj_11, pj_12, pj_19, pj_20, pj_26, ij_1, ij_2, ij_3, ij_4, ij_5, ij_6, ij_7, ij_8, ij_9, ij_10, ij_11, ij_12, ij_13, ij_14, ij_15, ij_16, ij_17, ij_18, ij_19, vf_1, vf_2, vf_3, vf_4, vf_5, vf_6, vf_7, vf_8, vf_9, vf_10, vf_11, vf_12, vf_13, vf_14, vf_15, vf_16, vf_17, vf_18, vf_19, sj, hc0, hkk, (show (nI 5 = nI 1) = False from eq_false (by decide)), (show (nI 5 = nI 2) = False from eq_false (by decide)), (show (nI 5 = nI 3) = False from eq_false (by decide)), (show (nI 5 = nI 4) = False from eq_false (by decide)), nI_add, hc1, hn1, hent, hxe, z_0, x_add (show 3 < 8 by decide), up_ne (show 19 ≠ 11 by decide)]
              have gh : ∀ q, q ≠ 11 → q ≠ 19 → vu (vu U2 11 e0 (nI 0)) 19 3 (U2 19 3 + nI 1) q = U2 q := fun q e1 e2 => by rw [vu_off e2, vu_off e1]
              have hd2 : dR (vu (vu U2 11 e0 (nI 0)) 19 3 (U2 19 3 + nI 1)) (z_s (z_fl z) none (a_bp (z_fl z).2.2.2.2.1 3) (y.1, y.2.1, true, y.2.2.2.1, va_up y.2.2.2.2.1 m.2.1 false, y.2.2.2.2.2.1, t)) := by
                refine dR_new (z := z_s (z_fl z) none (z_fl z).2.2.2.2.1 (y.1, y.2.1, true, y.2.2.2.1, y.2.2.2.2.1, y.2.2.2.2.2.1, t)) (y := (y.1, y.2.1, true, y.2.2.2.1, y.2.2.2.2.1, y.2.2.2.2.2.1, t)) hd1 rfl (fun k _ => by rw [gh 0 (by decide) (by decide)]) (fun q q1 q2 => gh q (by omega) (by omega)) (hR_congr (by rw [gh 0 (by decide) (by decide)]) (fun q q1 q2 => gh q (by omega) (by omega)) c4) ?_ (oR_congr (by rw [gh 0 (by decide) (by decide)]) (fun q q1 q2 => gh q (by omega) (by omega)) t6) (fun _ e k hek => ?_) (nR_congr (by rw [gh 12 (by decide) (by decide)]) (fun i _ => by rw [gh 13 (by decide) (by decide)]) t8) (nR_congr (by rw [gh 12 (by decide) (by decide)]) (fun i _ => by rw [gh 13 (by decide) (by decide)]) t9)
                · have h9 := ct_bpM (U1 := vu U2 11 e0 (nI 0)) (ct := (z_fl z).2.2.2.2.1) (j := 3) (fun k hk => by rw [up_ne (by decide)]; exact c5 k hk) (by decide)
                  rw [up_ne (by decide)] at h9
                  exact h9
                · rw [up_ne (by decide)]
                  unfold va_up
                  by_cases hee : e = e0
                  · subst hee
                    rw [he0] at hek
                    cases hek
                    rw [vu_same, if_pos rfl]; rfl
                  · rw [vu_slot hee, if_neg (fun e9 => hee (nl_inj hek (by rw [e9]; exact he0)))]
                    exact t7 rfl e k hek
              refine mt_call (x_mcon (y := (y.1, y.2.1, true, y.2.2.2.1, va_up y.2.2.2.2.1 m.2.1 false, y.2.2.2.2.2.1, t)) hd2 rfl rfl (fun k hk => ?_) o1) ?_
              · have hk : va_up y.2.2.2.2.1 m.2.1 false k = true := hk
                unfold va_up at hk
                by_cases e : k = m.2.1
                · rw [if_pos e] at hk; cases hk
                · rw [if_neg e] at hk; exact o2 k hk
              · rintro r ⟨U3, rfl, h3⟩
                simp only [k_MD_deliver_126, mt_kk, mt_l0, lget, lput, mt_pop, g_nil, g_const, g_null, g_iload, g_aload, g_istore, g_astore, g_iinc, g_add, g_sub, g_mul, g_and, g_xor, g_div, g_rem, g_dup, g_dup2, g_pop, g_get, g_putI, g_putZ, g_putA, g_iald, g_zald, g_iast, g_zast, g_aald, g_aast, g_alen, g_new, g_newI, g_newA, g_objinit, l_fall, l_ifeq, l_ifne, l_iflt, l_ifge, l_ifgt, l_ifle, l_iceq, l_icne, l_iclt, l_icge, l_icgt, l_icle, l_nullN, l_nullS, l_nonnullN, l_nonnullS, l_acne, l_callV, l_callI, l_callS, l_ret, l_iret, l_zret, l_aret, l_after, List.length_cons, List.length_nil, Nat.reduceAdd, Nat.reduceLT, Nat.reduceLeDiff, Nat.reduceEqDiff, and_self, and_true, true_and, if_true, if_false, reduceIte, ite_true, ite_false, beq_self_eq_true, Nat.zero_add, Option.toList_some, Option.toList_none, List.cons_append, List.nil_append, gj_0, gj_1, gj_2, gj_3, gj_4, gj_5, gj_6, gj_7, gj_8, gj_9, gj_10, gj_11, gj_12, gj_13, gj_14, gj_15, gj_16, gj_17, gj_18, gj_19, gj_20, gj_21, gj_22, gj_23, gj_24, gj_25, gj_26, gj_27, pj_4, pj_5, pj_9, pj_10, pj_11, pj_12, pj_19, pj_20, pj_26, ij_1, ij_2, ij_3, ij_4, ij_5, ij_6, ij_7, ij_8, ij_9, ij_10, ij_11, ij_12, ij_13, ij_14, ij_15, ij_16, ij_17, ij_18, ij_19, vf_1, vf_2, vf_3, vf_4, vf_5, vf_6, vf_7, vf_8, vf_9, vf_10, vf_11, vf_12, vf_13, vf_14, vf_15, vf_16, vf_17, vf_18, vf_19, sj]
                rw [hk5]
                exact ⟨U3, rfl, h3⟩
        have hj := hR_n h
        cases hzj : z.2.2.2.1 with
        | none =>
          simp only [q_jr, hzj] at hj
          have h9 := hrest U (by rw [z_fl0 hzj]; exact h)
          simp only [k_MD_deliver_0, k_MD_deliver_5, k_MD_deliver_8, k_MD_deliver_19, k_MD_deliver_24, mt_kk, mt_l0, lget, lput, mt_pop, g_nil, g_const, g_null, g_iload, g_aload, g_istore, g_astore, g_iinc, g_add, g_sub, g_mul, g_and, g_xor, g_div, g_rem, g_dup, g_dup2, g_pop, g_get, g_putI, g_putZ, g_putA, g_iald, g_zald, g_iast, g_zast, g_aald, g_aast, g_alen, g_new, g_newI, g_newA, g_objinit, l_fall, l_ifeq, l_ifne, l_iflt, l_ifge, l_ifgt, l_ifle, l_iceq, l_icne, l_iclt, l_icge, l_icgt, l_icle, l_nullN, l_nullS, l_nonnullN, l_nonnullS, l_acne, l_callV, l_callI, l_callS, l_ret, l_iret, l_zret, l_aret, l_after, List.length_cons, List.length_nil, Nat.reduceAdd, Nat.reduceLT, Nat.reduceLeDiff, Nat.reduceEqDiff, and_self, and_true, true_and, if_true, if_false, reduceIte, ite_true, ite_false, beq_self_eq_true, Nat.zero_add, Option.toList_some, Option.toList_none, List.cons_append, List.nil_append, gj_0, gj_1, gj_2, gj_3, gj_4, gj_5, gj_6, gj_7, gj_8, gj_9, gj_10, gj_11, gj_12, gj_13, gj_14, gj_15, gj_16, gj_17, gj_18, gj_19, gj_20, gj_21, gj_22, gj_23, gj_24, gj_25, gj_26, gj_27, pj_4, pj_5, pj_9, pj_10, pj_11, pj_12, pj_19, pj_20, pj_26, ij_1, ij_2, ij_3, ij_4, ij_5, ij_6, ij_7, ij_8, ij_9, ij_10, ij_11, ij_12, ij_13, ij_14, ij_15, ij_16, ij_17, ij_18, ij_19, vf_1, vf_2, vf_3, vf_4, vf_5, vf_6, vf_7, vf_8, vf_9, vf_10, vf_11, vf_12, vf_13, vf_14, vf_15, vf_16, vf_17, vf_18, vf_19, sj, x_in (j := 1) (h := 1) (by decide) (by decide), e_1, hx1, hw, hne, hj, eq_true (show nI 0 ≤ 0 by decide)]
          exact h9
        | some v =>
          simp only [q_jr, hzj] at hj
          simp only [k_MD_deliver_0, k_MD_deliver_5, k_MD_deliver_8, k_MD_deliver_19, k_MD_deliver_24, k_MD_deliver_31, mt_kk, mt_l0, lget, lput, mt_pop, g_nil, g_const, g_null, g_iload, g_aload, g_istore, g_astore, g_iinc, g_add, g_sub, g_mul, g_and, g_xor, g_div, g_rem, g_dup, g_dup2, g_pop, g_get, g_putI, g_putZ, g_putA, g_iald, g_zald, g_iast, g_zast, g_aald, g_aast, g_alen, g_new, g_newI, g_newA, g_objinit, l_fall, l_ifeq, l_ifne, l_iflt, l_ifge, l_ifgt, l_ifle, l_iceq, l_icne, l_iclt, l_icge, l_icgt, l_icle, l_nullN, l_nullS, l_nonnullN, l_nonnullS, l_acne, l_callV, l_callI, l_callS, l_ret, l_iret, l_zret, l_aret, l_after, List.length_cons, List.length_nil, Nat.reduceAdd, Nat.reduceLT, Nat.reduceLeDiff, Nat.reduceEqDiff, and_self, and_true, true_and, if_true, if_false, reduceIte, ite_true, ite_false, beq_self_eq_true, Nat.zero_add, Option.toList_some, Option.toList_none, List.cons_append, List.nil_append, gj_0, gj_1, gj_2, gj_3, gj_4, gj_5, gj_6, gj_7, gj_8, gj_9, gj_10, gj_11, gj_12, gj_13, gj_14, gj_15, gj_16, gj_17, gj_18, gj_19, gj_20, gj_21, gj_22, gj_23, gj_24, gj_25, gj_26, gj_27, pj_4, pj_5, pj_9, pj_10, pj_11, pj_12, pj_19, pj_20, pj_26, ij_1, ij_2, ij_3, ij_4, ij_5, ij_6, ij_7, ij_8, ij_9, ij_10, ij_11, ij_12, ij_13, ij_14, ij_15, ij_16, ij_17, ij_18, ij_19, vf_1, vf_2, vf_3, vf_4, vf_5, vf_6, vf_7, vf_8, vf_9, vf_10, vf_11, vf_12, vf_13, vf_14, vf_15, vf_16, vf_17, vf_18, vf_19, sj, x_in (j := 1) (h := 1) (by decide) (by decide), e_1, hx1, hw, hne, hj, eq_false (show ¬ nI 1 ≤ 0 by decide)]
          refine mt_call (x_finR h hzj) ?_
          rintro r ⟨U1, rfl, h1⟩
          exact hrest U1 h1
  · have hs : s_dv z k = (nI 0, z) := by
      unfold s_dv
      cases z.2.2.2.2.2 with
      | none => rfl
      | some y =>
        simp only []
        rw [if_neg h0, if_neg h1]
    rw [hs]
    simp only [k_MD_deliver_0, k_MD_deliver_5, k_MD_deliver_17, mt_kk, mt_l0, lget, lput, mt_pop, g_nil, g_const, g_null, g_iload, g_aload, g_istore, g_astore, g_iinc, g_add, g_sub, g_mul, g_and, g_xor, g_div, g_rem, g_dup, g_dup2, g_pop, g_get, g_putI, g_putZ, g_putA, g_iald, g_zald, g_iast, g_zast, g_aald, g_aast, g_alen, g_new, g_newI, g_newA, g_objinit, l_fall, l_ifeq, l_ifne, l_iflt, l_ifge, l_ifgt, l_ifle, l_iceq, l_icne, l_iclt, l_icge, l_icgt, l_icle, l_nullN, l_nullS, l_nonnullN, l_nonnullS, l_acne, l_callV, l_callI, l_callS, l_ret, l_iret, l_zret, l_aret, l_after, List.length_cons, List.length_nil, Nat.reduceAdd, Nat.reduceLT, Nat.reduceLeDiff, Nat.reduceEqDiff, and_self, and_true, true_and, if_true, if_false, reduceIte, ite_true, ite_false, beq_self_eq_true, Nat.zero_add, Option.toList_some, Option.toList_none, List.cons_append, List.nil_append, gj_0, gj_1, gj_2, gj_3, gj_4, gj_5, gj_6, gj_7, gj_8, gj_9, gj_10, gj_11, gj_12, gj_13, gj_14, gj_15, gj_16, gj_17, gj_18, gj_19, gj_20, gj_21, gj_22, gj_23, gj_24, gj_25, gj_26, gj_27, pj_4, pj_5, pj_9, pj_10, pj_11, pj_12, pj_19, pj_20, pj_26, ij_1, ij_2, ij_3, ij_4, ij_5, ij_6, ij_7, ij_8, ij_9, ij_10, ij_11, ij_12, ij_13, ij_14, ij_15, ij_16, ij_17, ij_18, ij_19, vf_1, vf_2, vf_3, vf_4, vf_5, vf_6, vf_7, vf_8, vf_9, vf_10, vf_11, vf_12, vf_13, vf_14, vf_15, vf_16, vf_17, vf_18, vf_19, sj, x_inS (h := 1) hb (by decide), e_0]
    exact ⟨U, rfl, h⟩
end MD
