/-! The class: receive and deliver. -/
section TC
variable {n w b : Nat} {f : Nat → Option m_E}
theorem x_tail {V V1 : v_N} {z1 : a_Z} {y1 : a_S} {mo kk : Nat} (h : cR V1 z1) (hy : z1.2.2.2.2.2 = some y1) (hm : kd mo = 8) (hmo : mo < 188) (hk : V1 mo 0 = nI kk) (hk1 : kk ≠ 1) (hk5 : kk < 6) : mt_T cd_TC_receive 74 ([some (.inr (some b)), some (.inr (some (b + mo)))], [], (n, w, img b V1 f)) (c_Qv n w b f (z_co z1 y1) V (fun _ => True)) := by
  have e1 : (nI kk = nI 1) = False := eq_false (fun e => hk1 ((nI_eq (by omega) (by decide)).mp e))
  have hs := h.2.2.2.2.2
  rw [hy] at hs
  have ho := x_hasOpen (n := n) (w := w) (b := b) (f := f) (V := V1) (op := y1.2.2.2.2.1) (fun k hk => (hs.2.2.2.2.2.2.2 k hk).2.1)
  unfold z_co
  cases hop : a_ho y1.2.2.2.2.1 12 with
  | true =>
    rw [hop] at ho
    simp only [k_TC_receive_74, k_TC_receive_82, k_TC_receive_86, k_TC_receive_93, mt_kk, mt_l0, lget, lput, fnth, fset, gf, gi, ga, mt_is, mt_pop, g_nil, g_const, g_null, g_iload, g_aload, g_istore, g_astore, g_iinc, g_add, g_sub, g_mul, g_and, g_xor, g_div, g_rem, g_dup, g_dup2, g_pop, g_get, g_putI, g_putZ, g_putA, g_iald, g_zald, g_iast, g_zast, g_aald, g_aast, g_alen, g_new, g_newI, g_newA, g_objinit, l_fall, l_ifeq, l_ifne, l_iflt, l_ifge, l_ifgt, l_ifle, l_iceq, l_icne, l_iclt, l_icge, l_icgt, l_icle, l_nullN, l_nullS, l_nonnullN, l_nonnullS, l_acne, l_callV, l_callI, l_callS, l_ret, l_iret, l_zret, l_aret, l_after, List.length_cons, List.length_nil, Nat.reduceAdd, Nat.reduceLT, Nat.reduceLeDiff, Nat.reduceEqDiff, and_self, and_true, true_and, if_true, if_false, reduceIte, ite_true, ite_false, beq_self_eq_true, Nat.zero_add, Option.toList_some, Option.toList_none, List.cons_append, List.nil_append, im_Ms hmo hm, hk, e1, if_0, ho, bI_t, e_1]
    refine ⟨V1, rfl, ?_, fun o h => absurd trivial h⟩
    obtain ⟨a1, a2, a3, a4, a5, a6⟩ := h
    rw [hy] at a6
    exact ⟨a1, a2, a3, a4, a5, a6⟩
  | false =>
    rw [hop] at ho
    simp only [k_TC_receive_74, k_TC_receive_82, k_TC_receive_86, k_TC_receive_89, mt_kk, mt_l0, lget, lput, fnth, fset, gf, gi, ga, mt_is, mt_pop, g_nil, g_const, g_null, g_iload, g_aload, g_istore, g_astore, g_iinc, g_add, g_sub, g_mul, g_and, g_xor, g_div, g_rem, g_dup, g_dup2, g_pop, g_get, g_putI, g_putZ, g_putA, g_iald, g_zald, g_iast, g_zast, g_aald, g_aast, g_alen, g_new, g_newI, g_newA, g_objinit, l_fall, l_ifeq, l_ifne, l_iflt, l_ifge, l_ifgt, l_ifle, l_iceq, l_icne, l_iclt, l_icge, l_icgt, l_icle, l_nullN, l_nullS, l_nonnullN, l_nonnullS, l_acne, l_callV, l_callI, l_callS, l_ret, l_iret, l_zret, l_aret, l_after, List.length_cons, List.length_nil, Nat.reduceAdd, Nat.reduceLT, Nat.reduceLeDiff, Nat.reduceEqDiff, and_self, and_true, true_and, if_true, if_false, reduceIte, ite_true, ite_false, beq_self_eq_true, Nat.zero_add, Option.toList_some, Option.toList_none, List.cons_append, List.nil_append, im_Ms hmo hm, hk, e1, if_0, ho, bI_f, e_0, Bool.false_eq_true]
    refine mt_call (x_conclude h hy) ?_
    rintro r ⟨V2, rfl, h2, -⟩
    simp only [k_TC_receive_93, mt_kk, mt_l0, lget, lput, fnth, fset, gf, gi, ga, mt_is, mt_pop, g_nil, g_const, g_null, g_iload, g_aload, g_istore, g_astore, g_iinc, g_add, g_sub, g_mul, g_and, g_xor, g_div, g_rem, g_dup, g_dup2, g_pop, g_get, g_putI, g_putZ, g_putA, g_iald, g_zald, g_iast, g_zast, g_aald, g_aast, g_alen, g_new, g_newI, g_newA, g_objinit, l_fall, l_ifeq, l_ifne, l_iflt, l_ifge, l_ifgt, l_ifle, l_iceq, l_icne, l_iclt, l_icge, l_icgt, l_icle, l_nullN, l_nullS, l_nonnullN, l_nonnullS, l_acne, l_callV, l_callI, l_callS, l_ret, l_iret, l_zret, l_aret, l_after, List.length_cons, List.length_nil, Nat.reduceAdd, Nat.reduceLT, Nat.reduceLeDiff, Nat.reduceEqDiff, and_self, and_true, true_and, if_true, if_false, reduceIte, ite_true, ite_false, beq_self_eq_true, Nat.zero_add, Option.toList_some, Option.toList_none, List.cons_append, List.nil_append]
    exact ⟨V2, rfl, h2, fun o h => absurd trivial h⟩
theorem x_receive {V : v_N} {z : a_Z} {y : a_S} {m : a_M} {mo : Nat} (h : cR V z) (hy : z.2.2.2.2.2 = some y) (hjn : z.2.2.2.1 = none) (hmo : 35 < mo ∧ mo + 1 < 62) (hm : kd mo = 8) (hm1 : kd (mo + 1) = 9) (hms : mR V mo m) (hl0 : y.2.2.2.2.2.1.length < 13) (hc : (m.1 = 1 ∧ m.2.1 < 12) ∨ (m.1 = 2 ∧ y.2.2.2.2.2.1.length = 0) ∨ y_m4 y.1 y.2.2.2.1 m) : mt_P sm_TC_receive [.inr (some b), .inr (some (b + mo))] (n, w, img b V f) (c_Qv n w b f (s_rc z y m) V (fun _ => True)) := by
  obtain ⟨a1, a2, a3, a4, a5, a6⟩ := id h
  rw [hy] at a6
  obtain ⟨s1, s2, s3, s4, s5, s6, s7, s8⟩ := a6
  have hms2 : mo < 188 := by omega
  have hms0 := hms
  obtain ⟨mk, mn, mr, mb, md⟩ := hms
  refine mt_P_of ?_
  unfold s_rc
  rcases hc with ⟨h1, hn⟩ | ⟨h2, hl⟩ | h4
  · rw [if_pos h1]
    rw [h1] at mk
    obtain ⟨mr1, mr2⟩ := mr h1
    simp only [k_TC_receive_0, k_TC_receive_40, mt_kk, mt_l0, lget, lput, fnth, fset, gf, gi, ga, mt_is, mt_pop, g_nil, g_const, g_null, g_iload, g_aload, g_istore, g_astore, g_iinc, g_add, g_sub, g_mul, g_and, g_xor, g_div, g_rem, g_dup, g_dup2, g_pop, g_get, g_putI, g_putZ, g_putA, g_iald, g_zald, g_iast, g_zast, g_aald, g_aast, g_alen, g_new, g_newI, g_newA, g_objinit, l_fall, l_ifeq, l_ifne, l_iflt, l_ifge, l_ifgt, l_ifle, l_iceq, l_icne, l_iclt, l_icge, l_icgt, l_icle, l_nullN, l_nullS, l_nonnullN, l_nonnullS, l_acne, l_callV, l_callI, l_callS, l_ret, l_iret, l_zret, l_aret, l_after, List.length_cons, List.length_nil, Nat.reduceAdd, Nat.reduceLT, Nat.reduceLeDiff, Nat.reduceEqDiff, and_self, and_true, true_and, if_true, if_false, reduceIte, ite_true, ite_false, beq_self_eq_true, Nat.zero_add, Option.toList_some, Option.toList_none, List.cons_append, List.nil_append, im_Ms hms2 hm, mk, l_tsw (x := nI 1) (lw := 1) (hi := 5) (d := 74) (ts := [40, 48, 74, 55, 63]) (t := 40) (by decide) (by decide), if_0]
    refine mt_call (x_note (q0 := y.2.2.2.2.1 m.2.1) (x := y.2.2.2.1 m.2.1) hm (by omega) hn mn mr1 mr2 (s8 m.2.1 hn)) ?_
    rintro r ⟨V1, rfl, g1, g2⟩
    have e0 : V1 mo 0 = nI 1 := by rw [g2 mo (by omega)]; exact mk
    simp only [k_TC_receive_45, k_TC_receive_74, k_TC_receive_93, mt_kk, mt_l0, lget, lput, fnth, fset, gf, gi, ga, mt_is, mt_pop, g_nil, g_const, g_null, g_iload, g_aload, g_istore, g_astore, g_iinc, g_add, g_sub, g_mul, g_and, g_xor, g_div, g_rem, g_dup, g_dup2, g_pop, g_get, g_putI, g_putZ, g_putA, g_iald, g_zald, g_iast, g_zast, g_aald, g_aast, g_alen, g_new, g_newI, g_newA, g_objinit, l_fall, l_ifeq, l_ifne, l_iflt, l_ifge, l_ifgt, l_ifle, l_iceq, l_icne, l_iclt, l_icge, l_icgt, l_icle, l_nullN, l_nullS, l_nonnullN, l_nonnullS, l_acne, l_callV, l_callI, l_callS, l_ret, l_iret, l_zret, l_aret, l_after, List.length_cons, List.length_nil, Nat.reduceAdd, Nat.reduceLT, Nat.reduceLeDiff, Nat.reduceEqDiff, and_self, and_true, true_and, if_true, if_false, reduceIte, ite_true, ite_false, beq_self_eq_true, Nat.zero_add, Option.toList_some, Option.toList_none, List.cons_append, List.nil_append, im_Ms hms2 hm, e0]
    refine ⟨V1, rfl, cR_new h hy (g2 0 (by omega)) (fun q hq => g2 q (by omega)) (jR_congr (fun q q1 q2 => g2 q (by omega)) a4) (fun k hk => by rw [g2 103 (by omega)]; exact a5 k hk) (lR_congr (fun q q1 q2 => g2 q (by omega)) s6) (lR_congr (fun q q1 q2 => g2 q (by omega)) s7) (fun k hk => ?_), fun o h => absurd trivial h⟩
    unfold va_up
    by_cases hkk : k = m.2.1
    · subst hkk
      rw [if_pos rfl]; exact g1
    · rw [if_neg hkk]
      exact eR_congr (g2 _ (by omega)) (s8 k hk)
  · rw [if_neg (by omega), if_pos h2]
    rw [h2] at mk
    simp only [k_TC_receive_0, k_TC_receive_48, mt_kk, mt_l0, lget, lput, fnth, fset, gf, gi, ga, mt_is, mt_pop, g_nil, g_const, g_null, g_iload, g_aload, g_istore, g_astore, g_iinc, g_add, g_sub, g_mul, g_and, g_xor, g_div, g_rem, g_dup, g_dup2, g_pop, g_get, g_putI, g_putZ, g_putA, g_iald, g_zald, g_iast, g_zast, g_aald, g_aast, g_alen, g_new, g_newI, g_newA, g_objinit, l_fall, l_ifeq, l_ifne, l_iflt, l_ifge, l_ifgt, l_ifle, l_iceq, l_icne, l_iclt, l_icge, l_icgt, l_icle, l_nullN, l_nullS, l_nonnullN, l_nonnullS, l_acne, l_callV, l_callI, l_callS, l_ret, l_iret, l_zret, l_aret, l_after, List.length_cons, List.length_nil, Nat.reduceAdd, Nat.reduceLT, Nat.reduceLeDiff, Nat.reduceEqDiff, and_self, and_true, true_and, if_true, if_false, reduceIte, ite_true, ite_false, beq_self_eq_true, Nat.zero_add, Option.toList_some, Option.toList_none, List.cons_append, List.nil_append, im_Ms hms2 hm, mk, l_tsw (x := nI 2) (lw := 1) (hi := 5) (d := 74) (ts := [40, 48, 74, 55, 63]) (t := 48) (by decide) (by decide), if_0]
    refine mt_call (x_openE (fs := z.2.2.1) (blk := y.1) (nt := y.2.2.2.1) (s := (y.2.2.2.2.1, y.2.2.2.2.2.1, z.2.2.2.2.1)) a3 s2 s3 s4 hl s8 s6 a5) ?_
    rintro r ⟨V1, rfl, g1, g2, g3, g4⟩
    simp only [k_TC_receive_52, mt_kk, mt_l0, lget, lput, fnth, fset, gf, gi, ga, mt_is, mt_pop, g_nil, g_const, g_null, g_iload, g_aload, g_istore, g_astore, g_iinc, g_add, g_sub, g_mul, g_and, g_xor, g_div, g_rem, g_dup, g_dup2, g_pop, g_get, g_putI, g_putZ, g_putA, g_iald, g_zald, g_iast, g_zast, g_aald, g_aast, g_alen, g_new, g_newI, g_newA, g_objinit, l_fall, l_ifeq, l_ifne, l_iflt, l_ifge, l_ifgt, l_ifle, l_iceq, l_icne, l_iclt, l_icge, l_icgt, l_icle, l_nullN, l_nullS, l_nonnullN, l_nonnullS, l_acne, l_callV, l_callI, l_callS, l_ret, l_iret, l_zret, l_aret, l_after, List.length_cons, List.length_nil, Nat.reduceAdd, Nat.reduceLT, Nat.reduceLeDiff, Nat.reduceEqDiff, and_self, and_true, true_and, if_true, if_false, reduceIte, ite_true, ite_false, beq_self_eq_true, Nat.zero_add, Option.toList_some, Option.toList_none, List.cons_append, List.nil_append]
    exact x_tail (cR_new (en := true) h hy (g4 0 (by omega)) (fun q hq => g4 q (by omega)) (jR_congr (fun q q1 q2 => g4 q (by omega)) a4) g3 g2 (lR_congr (fun q q1 q2 => g4 q (by omega)) s7) g1) rfl hm hms2 (kk := 2) (by rw [g4 mo (by omega)]; exact mk) (by decide) (by decide)
  · by_cases hk4 : m.1 = 4
    · rw [if_neg (by omega), if_neg (by omega), if_pos hk4]
      rw [hk4] at mk
      simp only [k_TC_receive_0, k_TC_receive_55, mt_kk, mt_l0, lget, lput, fnth, fset, gf, gi, ga, mt_is, mt_pop, g_nil, g_const, g_null, g_iload, g_aload, g_istore, g_astore, g_iinc, g_add, g_sub, g_mul, g_and, g_xor, g_div, g_rem, g_dup, g_dup2, g_pop, g_get, g_putI, g_putZ, g_putA, g_iald, g_zald, g_iast, g_zast, g_aald, g_aast, g_alen, g_new, g_newI, g_newA, g_objinit, l_fall, l_ifeq, l_ifne, l_iflt, l_ifge, l_ifgt, l_ifle, l_iceq, l_icne, l_iclt, l_icge, l_icgt, l_icle, l_nullN, l_nullS, l_nonnullN, l_nonnullS, l_acne, l_callV, l_callI, l_callS, l_ret, l_iret, l_zret, l_aret, l_after, List.length_cons, List.length_nil, Nat.reduceAdd, Nat.reduceLT, Nat.reduceLeDiff, Nat.reduceEqDiff, and_self, and_true, true_and, if_true, if_false, reduceIte, ite_true, ite_false, beq_self_eq_true, Nat.zero_add, Option.toList_some, Option.toList_none, List.cons_append, List.nil_append, im_Ms hms2 hm, mk, l_tsw (x := nI 4) (lw := 1) (hi := 5) (d := 74) (ts := [40, 48, 74, 55, 63]) (t := 55) (by decide) (by decide), if_0]
      refine mt_call (x_rdelta h hy hjn hmo hm hm1 hms0 hk4 h4 hl0) ?_
      rintro r ⟨V1, rfl, g1, g2⟩
      simp only [k_TC_receive_60, mt_kk, mt_l0, lget, lput, fnth, fset, gf, gi, ga, mt_is, mt_pop, g_nil, g_const, g_null, g_iload, g_aload, g_istore, g_astore, g_iinc, g_add, g_sub, g_mul, g_and, g_xor, g_div, g_rem, g_dup, g_dup2, g_pop, g_get, g_putI, g_putZ, g_putA, g_iald, g_zald, g_iast, g_zast, g_aald, g_aast, g_alen, g_new, g_newI, g_newA, g_objinit, l_fall, l_ifeq, l_ifne, l_iflt, l_ifge, l_ifgt, l_ifle, l_iceq, l_icne, l_iclt, l_icge, l_icgt, l_icle, l_nullN, l_nullS, l_nonnullN, l_nonnullS, l_acne, l_callV, l_callI, l_callS, l_ret, l_iret, l_zret, l_aret, l_after, List.length_cons, List.length_nil, Nat.reduceAdd, Nat.reduceLT, Nat.reduceLeDiff, Nat.reduceEqDiff, and_self, and_true, true_and, if_true, if_false, reduceIte, ite_true, ite_false, beq_self_eq_true, Nat.zero_add, Option.toList_some, Option.toList_none, List.cons_append, List.nil_append]
      exact x_tail g1 rfl hm hms2 (kk := 4) (by rw [g2 mo (by omega)]; exact mk) (by decide) (by decide)
    · have hk5 : m.1 = 5 := h4.2.2.resolve_right (fun e => hk4 e.1)
      rw [if_neg (by omega), if_neg (by omega), if_neg hk4]
      rw [hk5] at mk
      have hnm := h4.1
      simp only [k_TC_receive_0, k_TC_receive_63, k_TC_receive_71, mt_kk, mt_l0, lget, lput, fnth, fset, gf, gi, ga, mt_is, mt_pop, g_nil, g_const, g_null, g_iload, g_aload, g_istore, g_astore, g_iinc, g_add, g_sub, g_mul, g_and, g_xor, g_div, g_rem, g_dup, g_dup2, g_pop, g_get, g_putI, g_putZ, g_putA, g_iald, g_zald, g_iast, g_zast, g_aald, g_aast, g_alen, g_new, g_newI, g_newA, g_objinit, l_fall, l_ifeq, l_ifne, l_iflt, l_ifge, l_ifgt, l_ifle, l_iceq, l_icne, l_iclt, l_icge, l_icgt, l_icle, l_nullN, l_nullS, l_nonnullN, l_nonnullS, l_acne, l_callV, l_callI, l_callS, l_ret, l_iret, l_zret, l_aret, l_after, List.length_cons, List.length_nil, Nat.reduceAdd, Nat.reduceLT, Nat.reduceLeDiff, Nat.reduceEqDiff, and_self, and_true, true_and, if_true, if_false, reduceIte, ite_true, ite_false, beq_self_eq_true, Nat.zero_add, Option.toList_some, Option.toList_none, List.cons_append, List.nil_append, im_Ms hms2 hm, mk, mn, l_tsw (x := nI 5) (lw := 1) (hi := 5) (d := 74) (ts := [40, 48, 74, 55, 63]) (t := 63) (by decide) (by decide), if_0, x_fail hnm]
      have gh : ∀ q, q ≠ 103 → q ≠ 176 + m.2.1 → vu (vu V (176 + m.2.1) 1 (nI 0)) 103 3 (V 103 3 + nI 1) q = V q := fun q e5 e6 => by rw [vu_off e5, vu_off e6]
      refine x_tail (cR_new h hy (gh 0 (by omega) (by omega)) (fun q hq => gh q (by omega) (by omega)) (jR_congr (fun q q1 q2 => gh q (by omega) (by omega)) a4) ?_ (lR_congr (fun q q1 q2 => gh q (by omega) (by omega)) s6) (lR_congr (fun q q1 q2 => gh q (by omega) (by omega)) s7) (fun k hk => ?_)) rfl hm hms2 (kk := 5) (by rw [gh mo (by omega) (by omega)]; exact mk) (by decide) (by decide)
      · have h8 := ct_bp (j := 3) (V1 := vu V (176 + m.2.1) 1 (nI 0)) (ct := z.2.2.2.2.1) (by decide) (fun k hk => by rw [up_ne (by omega)]; exact a5 k hk)
        rw [up_ne (by omega)] at h8
        exact h8
      · have hei := s8 m.2.1 hnm
        unfold va_up
        by_cases hkk : k = m.2.1
        · subst hkk
          rw [if_pos rfl]
          refine ⟨?_, ?_, fun y2 hy2 => ⟨?_, ?_⟩⟩
          · rw [up_ne (by omega), vu_slot (by decide)]; exact hei.1
          · rw [up_ne (by omega), vu_same]; rfl
          · rw [up_ne (by omega), vu_slot (by decide)]; exact (hei.2.2 y2 hy2).1
          · rw [up_ne (by omega), vu_slot (by decide)]; exact (hei.2.2 y2 hy2).2
        · rw [if_neg hkk]
          exact eR_congr (gh _ (by omega) (by omega)) (s8 k hk)
theorem lP_hd {V : v_N} {o p : Nat} {m : a_M} {t : List a_M} (h : lP V o p (m :: t)) : mR V (o + 1 + 1 + 2 * p) m := by
  have h7 := h.2.2.2 0 m rfl
  rw [show (p + 0) % 13 = p from Nat.mod_eq_of_lt h.1] at h7
  exact h7
theorem p_dv {V : v_N} {z : a_Z} {k : Int32} (h : cR V z) (ho : ∀ y, z.2.2.2.2.2 = some y → y_ok y) : mt_P sm_TC_deliver [.inr (some b), .inl k] (n, w, img b V f) (c_Q (s_dv z k).1 n w b f (s_dv z k).2) := by
  obtain ⟨a1, a2, a3, a4, a5, a6⟩ := id h
  refine mt_P_of ?_
  unfold s_dv
  cases hz : z.2.2.2.2.2 with
  | none =>
    rw [hz] at a6
    obtain ⟨s1, ⟨p0, -, -, s2, -⟩, ⟨p1, -, -, s3, -⟩, s4⟩ := a6
    have s2 : V 6 2 = nI 0 := s2
    have s3 : V 34 2 = nI 0 := s3
    by_cases h0 : k = nI 0
    · subst h0
      simp only [k_TC_deliver_0, k_TC_deliver_5, k_TC_deliver_14, k_TC_deliver_18, k_TC_deliver_23, mt_kk, mt_l0, lget, lput, fnth, fset, gf, gi, ga, mt_is, mt_pop, g_nil, g_const, g_null, g_iload, g_aload, g_istore, g_astore, g_iinc, g_add, g_sub, g_mul, g_and, g_xor, g_div, g_rem, g_dup, g_dup2, g_pop, g_get, g_putI, g_putZ, g_putA, g_iald, g_zald, g_iast, g_zast, g_aald, g_aast, g_alen, g_new, g_newI, g_newA, g_objinit, l_fall, l_ifeq, l_ifne, l_iflt, l_ifge, l_ifgt, l_ifle, l_iceq, l_icne, l_iclt, l_icge, l_icgt, l_icle, l_nullN, l_nullS, l_nonnullN, l_nonnullS, l_acne, l_callV, l_callI, l_callS, l_ret, l_iret, l_zret, l_aret, l_after, List.length_cons, List.length_nil, Nat.reduceAdd, Nat.reduceLT, Nat.reduceLeDiff, Nat.reduceEqDiff, and_self, and_true, true_and, if_true, if_false, reduceIte, ite_true, ite_false, beq_self_eq_true, Nat.zero_add, Option.toList_some, Option.toList_none, List.cons_append, List.nil_append, if_0, x_lineOf0, if_6, x_Li_take0 (Or.inl rfl) s2]
      exact ⟨V, rfl, h⟩
    · by_cases h1 : k = nI 1
      · subst h1
        simp only [k_TC_deliver_0, k_TC_deliver_5, k_TC_deliver_14, k_TC_deliver_18, k_TC_deliver_23, mt_kk, mt_l0, lget, lput, fnth, fset, gf, gi, ga, mt_is, mt_pop, g_nil, g_const, g_null, g_iload, g_aload, g_istore, g_astore, g_iinc, g_add, g_sub, g_mul, g_and, g_xor, g_div, g_rem, g_dup, g_dup2, g_pop, g_get, g_putI, g_putZ, g_putA, g_iald, g_zald, g_iast, g_zast, g_aald, g_aast, g_alen, g_new, g_newI, g_newA, g_objinit, l_fall, l_ifeq, l_ifne, l_iflt, l_ifge, l_ifgt, l_ifle, l_iceq, l_icne, l_iclt, l_icge, l_icgt, l_icle, l_nullN, l_nullS, l_nonnullN, l_nonnullS, l_acne, l_callV, l_callI, l_callS, l_ret, l_iret, l_zret, l_aret, l_after, List.length_cons, List.length_nil, Nat.reduceAdd, Nat.reduceLT, Nat.reduceLeDiff, Nat.reduceEqDiff, and_self, and_true, true_and, if_true, if_false, reduceIte, ite_true, ite_false, beq_self_eq_true, Nat.zero_add, Option.toList_some, Option.toList_none, List.cons_append, List.nil_append, if_0, x_lineOf1, if_34, x_Li_take0 (Or.inr rfl) s3]
        exact ⟨V, rfl, h⟩
      · simp only [k_TC_deliver_0, k_TC_deliver_5, k_TC_deliver_10, k_TC_deliver_18, k_TC_deliver_23, mt_kk, mt_l0, lget, lput, fnth, fset, gf, gi, ga, mt_is, mt_pop, g_nil, g_const, g_null, g_iload, g_aload, g_istore, g_astore, g_iinc, g_add, g_sub, g_mul, g_and, g_xor, g_div, g_rem, g_dup, g_dup2, g_pop, g_get, g_putI, g_putZ, g_putA, g_iald, g_zald, g_iast, g_zast, g_aald, g_aast, g_alen, g_new, g_newI, g_newA, g_objinit, l_fall, l_ifeq, l_ifne, l_iflt, l_ifge, l_ifgt, l_ifle, l_iceq, l_icne, l_iclt, l_icge, l_icgt, l_icle, l_nullN, l_nullS, l_nonnullN, l_nonnullS, l_acne, l_callV, l_callI, l_callS, l_ret, l_iret, l_zret, l_aret, l_after, List.length_cons, List.length_nil, Nat.reduceAdd, Nat.reduceLT, Nat.reduceLeDiff, Nat.reduceEqDiff, and_self, and_true, true_and, if_true, if_false, reduceIte, ite_true, ite_false, beq_self_eq_true, Nat.zero_add, Option.toList_some, Option.toList_none, List.cons_append, List.nil_append, if_0, x_lineOfN h0 h1]
        exact ⟨V, rfl, h⟩
  | some y =>
    have hok := ho y hz
    obtain ⟨o1, o2, o3, o4⟩ := hok
    rw [hz] at a6
    obtain ⟨s1, s2, s3, s4, s5, s6, s7, s8⟩ := a6
    simp only []
    by_cases h0 : k = nI 0
    · subst h0
      rw [if_pos rfl]
      obtain ⟨p, hP, hc⟩ := lP_of s6
      cases hl : y.2.2.2.2.2.1 with
      | nil =>
        rw [hl] at hc
        have hc : V 6 2 = nI 0 := hc
        simp only [k_TC_deliver_0, k_TC_deliver_5, k_TC_deliver_14, k_TC_deliver_18, k_TC_deliver_23, mt_kk, mt_l0, lget, lput, fnth, fset, gf, gi, ga, mt_is, mt_pop, g_nil, g_const, g_null, g_iload, g_aload, g_istore, g_astore, g_iinc, g_add, g_sub, g_mul, g_and, g_xor, g_div, g_rem, g_dup, g_dup2, g_pop, g_get, g_putI, g_putZ, g_putA, g_iald, g_zald, g_iast, g_zast, g_aald, g_aast, g_alen, g_new, g_newI, g_newA, g_objinit, l_fall, l_ifeq, l_ifne, l_iflt, l_ifge, l_ifgt, l_ifle, l_iceq, l_icne, l_iclt, l_icge, l_icgt, l_icle, l_nullN, l_nullS, l_nonnullN, l_nonnullS, l_acne, l_callV, l_callI, l_callS, l_ret, l_iret, l_zret, l_aret, l_after, List.length_cons, List.length_nil, Nat.reduceAdd, Nat.reduceLT, Nat.reduceLeDiff, Nat.reduceEqDiff, and_self, and_true, true_and, if_true, if_false, reduceIte, ite_true, ite_false, beq_self_eq_true, Nat.zero_add, Option.toList_some, Option.toList_none, List.cons_append, List.nil_append, if_0, x_lineOf0, if_6, x_Li_take0 (Or.inl rfl) hc]
        exact ⟨V, rfl, h⟩
      | cons m t =>
        rw [hl] at hc hP
        have hen : y.2.2.1 = true := by
          cases he : y.2.2.1 with
          | true => rfl
          | false => have := (o3 he).1; rw [hl] at this; cases this
        obtain ⟨b1, b2, b3⟩ := o4 hen
        rw [hl] at b1 b2
        obtain ⟨m31, m32, m33, m34, m35, m36⟩ := b2 m List.mem_cons_self
        obtain ⟨m1, m2, m3, m4⟩ := iL_ms (o := 6) (Or.inl rfl) hP.1
        have hhd := lP_hd hP
        have htl : t.length < 13 := by rw [List.length_cons] at b1; omega
        have htk := x_Li_take (n := n) (w := w) (b := b) (f := f) (c := t.length) (Or.inl rfl) hP.1 htl hP.2.1 hc
        have hp13 := hP.1
        generalize hmo : 6 + 1 + 1 + 2 * p = mo at m1 m2 m3 m4 hhd htk
        simp only [k_TC_deliver_0, k_TC_deliver_5, k_TC_deliver_14, k_TC_deliver_18, mt_kk, mt_l0, lget, lput, fnth, fset, gf, gi, ga, mt_is, mt_pop, g_nil, g_const, g_null, g_iload, g_aload, g_istore, g_astore, g_iinc, g_add, g_sub, g_mul, g_and, g_xor, g_div, g_rem, g_dup, g_dup2, g_pop, g_get, g_putI, g_putZ, g_putA, g_iald, g_zald, g_iast, g_zast, g_aald, g_aast, g_alen, g_new, g_newI, g_newA, g_objinit, l_fall, l_ifeq, l_ifne, l_iflt, l_ifge, l_ifgt, l_ifle, l_iceq, l_icne, l_iclt, l_icge, l_icgt, l_icle, l_nullN, l_nullS, l_nonnullN, l_nonnullS, l_acne, l_callV, l_callI, l_callS, l_ret, l_iret, l_zret, l_aret, l_after, List.length_cons, List.length_nil, Nat.reduceAdd, Nat.reduceLT, Nat.reduceLeDiff, Nat.reduceEqDiff, and_self, and_true, true_and, if_true, if_false, reduceIte, ite_true, ite_false, beq_self_eq_true, Nat.zero_add, Option.toList_some, Option.toList_none, List.cons_append, List.nil_append, if_0, x_lineOf0, if_6, htk]
        generalize hVa : vu (vu V 6 1 (nI ((p + 1) % 13))) 6 2 (nI t.length) = Va
        have ga : ∀ q, q ≠ 6 → Va q = V q := fun q e => by rw [← hVa, vu_off e, vu_off e]
        have ek : Va mo 0 = nI m.1 := by rw [ga mo (by omega)]; exact hhd.1
        simp only [k_TC_deliver_25, k_TC_deliver_51, mt_kk, mt_l0, lget, lput, fnth, fset, gf, gi, ga, mt_is, mt_pop, g_nil, g_const, g_null, g_iload, g_aload, g_istore, g_astore, g_iinc, g_add, g_sub, g_mul, g_and, g_xor, g_div, g_rem, g_dup, g_dup2, g_pop, g_get, g_putI, g_putZ, g_putA, g_iald, g_zald, g_iast, g_zast, g_aald, g_aast, g_alen, g_new, g_newI, g_newA, g_objinit, l_fall, l_ifeq, l_ifne, l_iflt, l_ifge, l_ifgt, l_ifle, l_iceq, l_icne, l_iclt, l_icge, l_icgt, l_icle, l_nullN, l_nullS, l_nonnullN, l_nonnullS, l_acne, l_callV, l_callI, l_callS, l_ret, l_iret, l_zret, l_aret, l_after, List.length_cons, List.length_nil, Nat.reduceAdd, Nat.reduceLT, Nat.reduceLeDiff, Nat.reduceEqDiff, and_self, and_true, true_and, if_true, if_false, reduceIte, ite_true, ite_false, beq_self_eq_true, Nat.zero_add, Option.toList_some, Option.toList_none, List.cons_append, List.nil_append, if_0, im_Ms m2 m1, ek, (show (some (b + 6) = some (b + 34)) = False from eq_false (fun e => by have := Option.some.inj e; omega))]
        have hcR : cR Va (z_s z z.2.2.2.1 z.2.2.2.2.1 (y.1, y.2.1, y.2.2.1, y.2.2.2.1, y.2.2.2.2.1, t, y.2.2.2.2.2.2)) := by
          refine cR_new h hz (ga 0 (by omega)) (fun q hq => ga q (by omega)) (jR_congr (fun q q1 q2 => ga q (by omega)) a4) (fun k hk => by rw [ga 103 (by omega)]; exact a5 k hk) ?_ (lR_congr (fun q q1 q2 => ga q (by omega)) s7) (fun k hk => eR_congr (ga _ (by omega)) (s8 k hk))
          refine lR_of (lP_tail hP ?_ (fun q q1 q2 => ga q (by omega))) ?_
          · rw [← hVa, vu_slot (by decide), vu_same]
          · rw [← hVa, vu_same]
        obtain ⟨c1, c2, c3, c4, c5, c6⟩ := id hcR
        obtain ⟨t1, t2, t3, t4, t5, t6, t7, t8⟩ := c6
        refine mt_call (x_answer (fs := z.2.2.1) (ct := z.2.2.2.2.1) (blk := y.1) (l1 := y.2.2.2.2.2.2) (m := m) m31 m32 (by omega) m35 ⟨by omega, by omega⟩ m1 m3 (mR_congr (ga mo (by omega)) (ga _ (by omega)) hhd) c3 t2 t3 t4 t7 (by rw [List.length_cons] at b1; omega) c5) ?_
        rintro r ⟨V1, rfl, g1, g2, g3⟩
        simp only [k_TC_deliver_56, mt_kk, mt_l0, lget, lput, fnth, fset, gf, gi, ga, mt_is, mt_pop, g_nil, g_const, g_null, g_iload, g_aload, g_istore, g_astore, g_iinc, g_add, g_sub, g_mul, g_and, g_xor, g_div, g_rem, g_dup, g_dup2, g_pop, g_get, g_putI, g_putZ, g_putA, g_iald, g_zald, g_iast, g_zast, g_aald, g_aast, g_alen, g_new, g_newI, g_newA, g_objinit, l_fall, l_ifeq, l_ifne, l_iflt, l_ifge, l_ifgt, l_ifle, l_iceq, l_icne, l_iclt, l_icge, l_icgt, l_icle, l_nullN, l_nullS, l_nonnullN, l_nonnullS, l_acne, l_callV, l_callI, l_callS, l_ret, l_iret, l_zret, l_aret, l_after, List.length_cons, List.length_nil, Nat.reduceAdd, Nat.reduceLT, Nat.reduceLeDiff, Nat.reduceEqDiff, and_self, and_true, true_and, if_true, if_false, reduceIte, ite_true, ite_false, beq_self_eq_true, Nat.zero_add, Option.toList_some, Option.toList_none, List.cons_append, List.nil_append]
        refine ⟨V1, rfl, ?_⟩
        exact cR_new (z := z_s z z.2.2.2.1 z.2.2.2.2.1 (y.1, y.2.1, y.2.2.1, y.2.2.2.1, y.2.2.2.2.1, t, y.2.2.2.2.2.2)) (y := (y.1, y.2.1, y.2.2.1, y.2.2.2.1, y.2.2.2.2.1, t, y.2.2.2.2.2.2)) hcR rfl (g3 0 (by omega)) (fun q hq => g3 q (by omega)) (jR_congr (fun q q1 q2 => g3 q (by omega)) c4) g2 (lR_congr (fun q q1 q2 => g3 q (by omega)) t6) g1 (fun k hk => eR_congr (g3 _ (by omega)) (t8 k hk))
    · rw [if_neg h0]
      by_cases h1 : k = nI 1
      · subst h1
        rw [if_pos rfl]
        obtain ⟨p, hP, hc⟩ := lP_of s7
        cases hl : y.2.2.2.2.2.2 with
        | nil =>
          rw [hl] at hc
          have hc : V 34 2 = nI 0 := hc
          simp only [k_TC_deliver_0, k_TC_deliver_5, k_TC_deliver_14, k_TC_deliver_18, k_TC_deliver_23, mt_kk, mt_l0, lget, lput, fnth, fset, gf, gi, ga, mt_is, mt_pop, g_nil, g_const, g_null, g_iload, g_aload, g_istore, g_astore, g_iinc, g_add, g_sub, g_mul, g_and, g_xor, g_div, g_rem, g_dup, g_dup2, g_pop, g_get, g_putI, g_putZ, g_putA, g_iald, g_zald, g_iast, g_zast, g_aald, g_aast, g_alen, g_new, g_newI, g_newA, g_objinit, l_fall, l_ifeq, l_ifne, l_iflt, l_ifge, l_ifgt, l_ifle, l_iceq, l_icne, l_iclt, l_icge, l_icgt, l_icle, l_nullN, l_nullS, l_nonnullN, l_nonnullS, l_acne, l_callV, l_callI, l_callS, l_ret, l_iret, l_zret, l_aret, l_after, List.length_cons, List.length_nil, Nat.reduceAdd, Nat.reduceLT, Nat.reduceLeDiff, Nat.reduceEqDiff, and_self, and_true, true_and, if_true, if_false, reduceIte, ite_true, ite_false, beq_self_eq_true, Nat.zero_add, Option.toList_some, Option.toList_none, List.cons_append, List.nil_append, if_0, x_lineOf1, if_34, x_Li_take0 (Or.inr rfl) hc]
          exact ⟨V, rfl, h⟩
        | cons m t =>
          rw [hl] at hc hP
          obtain ⟨m1, m2, m3, m4⟩ := iL_ms (o := 34) (Or.inr rfl) hP.1
          have hhd := lP_hd hP
          have htl : t.length < 13 := by have := hP.2.2.1; rw [List.length_cons] at this; omega
          have htk := x_Li_take (n := n) (w := w) (b := b) (f := f) (c := t.length) (Or.inr rfl) hP.1 htl hP.2.1 hc
          have hp13 := hP.1
          generalize hmo : 34 + 1 + 1 + 2 * p = mo at m1 m2 m3 m4 hhd htk
          simp only [k_TC_deliver_0, k_TC_deliver_5, k_TC_deliver_14, k_TC_deliver_18, mt_kk, mt_l0, lget, lput, fnth, fset, gf, gi, ga, mt_is, mt_pop, g_nil, g_const, g_null, g_iload, g_aload, g_istore, g_astore, g_iinc, g_add, g_sub, g_mul, g_and, g_xor, g_div, g_rem, g_dup, g_dup2, g_pop, g_get, g_putI, g_putZ, g_putA, g_iald, g_zald, g_iast, g_zast, g_aald, g_aast, g_alen, g_new, g_newI, g_newA, g_objinit, l_fall, l_ifeq, l_ifne, l_iflt, l_ifge, l_ifgt, l_ifle, l_iceq, l_icne, l_iclt, l_icge, l_icgt, l_icle, l_nullN, l_nullS, l_nonnullN, l_nonnullS, l_acne, l_callV, l_callI, l_callS, l_ret, l_iret, l_zret, l_aret, l_after, List.length_cons, List.length_nil, Nat.reduceAdd, Nat.reduceLT, Nat.reduceLeDiff, Nat.reduceEqDiff, and_self, and_true, true_and, if_true, if_false, reduceIte, ite_true, ite_false, beq_self_eq_true, Nat.zero_add, Option.toList_some, Option.toList_none, List.cons_append, List.nil_append, if_0, x_lineOf1, if_34, htk]
          generalize hVa : vu (vu V 34 1 (nI ((p + 1) % 13))) 34 2 (nI t.length) = Va
          have ga : ∀ q, q ≠ 34 → Va q = V q := fun q e => by rw [← hVa, vu_off e, vu_off e]
          have ek : Va mo 0 = nI m.1 := by rw [ga mo (by omega)]; exact hhd.1
          simp only [k_TC_deliver_25, k_TC_deliver_39, mt_kk, mt_l0, lget, lput, fnth, fset, gf, gi, ga, mt_is, mt_pop, g_nil, g_const, g_null, g_iload, g_aload, g_istore, g_astore, g_iinc, g_add, g_sub, g_mul, g_and, g_xor, g_div, g_rem, g_dup, g_dup2, g_pop, g_get, g_putI, g_putZ, g_putA, g_iald, g_zald, g_iast, g_zast, g_aald, g_aast, g_alen, g_new, g_newI, g_newA, g_objinit, l_fall, l_ifeq, l_ifne, l_iflt, l_ifge, l_ifgt, l_ifle, l_iceq, l_icne, l_iclt, l_icge, l_icgt, l_icle, l_nullN, l_nullS, l_nonnullN, l_nonnullS, l_acne, l_callV, l_callI, l_callS, l_ret, l_iret, l_zret, l_aret, l_after, List.length_cons, List.length_nil, Nat.reduceAdd, Nat.reduceLT, Nat.reduceLeDiff, Nat.reduceEqDiff, and_self, and_true, true_and, if_true, if_false, reduceIte, ite_true, ite_false, beq_self_eq_true, Nat.zero_add, Option.toList_some, Option.toList_none, List.cons_append, List.nil_append, if_0, im_Ms m2 m1, ek]
          have hcR : cR Va (z_s z z.2.2.2.1 z.2.2.2.2.1 (y.1, y.2.1, y.2.2.1, y.2.2.2.1, y.2.2.2.2.1, y.2.2.2.2.2.1, t)) := by
            refine cR_new h hz (ga 0 (by omega)) (fun q hq => ga q (by omega)) (jR_congr (fun q q1 q2 => ga q (by omega)) a4) (fun k hk => by rw [ga 103 (by omega)]; exact a5 k hk) (lR_congr (fun q q1 q2 => ga q (by omega)) s6) ?_ (fun k hk => eR_congr (ga _ (by omega)) (s8 k hk))
            refine lR_of (lP_tail hP ?_ (fun q q1 q2 => ga q (by omega))) ?_
            · rw [← hVa, vu_slot (by decide), vu_same]
            · rw [← hVa, vu_same]
          refine mt_call (x_doOldest hcR) ?_
          rintro r ⟨V1, rfl, g1, g2⟩
          simp only [k_TC_deliver_43, mt_kk, mt_l0, lget, lput, fnth, fset, gf, gi, ga, mt_is, mt_pop, g_nil, g_const, g_null, g_iload, g_aload, g_istore, g_astore, g_iinc, g_add, g_sub, g_mul, g_and, g_xor, g_div, g_rem, g_dup, g_dup2, g_pop, g_get, g_putI, g_putZ, g_putA, g_iald, g_zald, g_iast, g_zast, g_aald, g_aast, g_alen, g_new, g_newI, g_newA, g_objinit, l_fall, l_ifeq, l_ifne, l_iflt, l_ifge, l_ifgt, l_ifle, l_iceq, l_icne, l_iclt, l_icge, l_icgt, l_icle, l_nullN, l_nullS, l_nonnullN, l_nonnullS, l_acne, l_callV, l_callI, l_callS, l_ret, l_iret, l_zret, l_aret, l_after, List.length_cons, List.length_nil, Nat.reduceAdd, Nat.reduceLT, Nat.reduceLeDiff, Nat.reduceEqDiff, and_self, and_true, true_and, if_true, if_false, reduceIte, ite_true, ite_false, beq_self_eq_true, Nat.zero_add, Option.toList_some, Option.toList_none, List.cons_append, List.nil_append, if_0]
          have hcase : y.2.2.2.2.2.1.length < 13 ∧ ((m.1 = 1 ∧ m.2.1 < 12) ∨ (m.1 = 2 ∧ y.2.2.2.2.2.1.length = 0) ∨ y_m4 y.1 y.2.2.2.1 m) := by
            cases he : y.2.2.1 with
            | true =>
              obtain ⟨b1, b2, b3⟩ := o4 he
              rw [hl] at b3 b1
              rw [List.length_cons] at b1
              exact ⟨by omega, Or.inr (Or.inr (b3 m List.mem_cons_self))⟩
            | false =>
              obtain ⟨b1, b2, es, b3, b4, b5, b6⟩ := o3 he
              rw [b1]
              refine ⟨by decide, ?_⟩
              rw [hl] at b3
              cases es with
              | nil =>
                cases b3
                exact Or.inr (Or.inl ⟨rfl, rfl⟩)
              | cons e0 es =>
                cases b3
                have := b5 m List.mem_cons_self
                exact Or.inl ⟨this.1, this.2.1⟩
          refine mt_call (x_receive (m := m) (mo := mo) g1 rfl rfl ⟨by omega, by omega⟩ m1 m3 (mR_congr (by rw [g2 mo (by omega), ga mo (by omega)]) (by rw [g2 (mo + 1) (by omega), ga _ (by omega)]) hhd) hcase.1 hcase.2) ?_
          rintro r ⟨V2, rfl, h2, -⟩
          simp only [k_TC_deliver_48, k_TC_deliver_56, mt_kk, mt_l0, lget, lput, fnth, fset, gf, gi, ga, mt_is, mt_pop, g_nil, g_const, g_null, g_iload, g_aload, g_istore, g_astore, g_iinc, g_add, g_sub, g_mul, g_and, g_xor, g_div, g_rem, g_dup, g_dup2, g_pop, g_get, g_putI, g_putZ, g_putA, g_iald, g_zald, g_iast, g_zast, g_aald, g_aast, g_alen, g_new, g_newI, g_newA, g_objinit, l_fall, l_ifeq, l_ifne, l_iflt, l_ifge, l_ifgt, l_ifle, l_iceq, l_icne, l_iclt, l_icge, l_icgt, l_icle, l_nullN, l_nullS, l_nonnullN, l_nonnullS, l_acne, l_callV, l_callI, l_callS, l_ret, l_iret, l_zret, l_aret, l_after, List.length_cons, List.length_nil, Nat.reduceAdd, Nat.reduceLT, Nat.reduceLeDiff, Nat.reduceEqDiff, and_self, and_true, true_and, if_true, if_false, reduceIte, ite_true, ite_false, beq_self_eq_true, Nat.zero_add, Option.toList_some, Option.toList_none, List.cons_append, List.nil_append]
          exact ⟨V2, rfl, h2⟩
      · rw [if_neg h1]
        simp only [k_TC_deliver_0, k_TC_deliver_5, k_TC_deliver_10, k_TC_deliver_18, k_TC_deliver_23, mt_kk, mt_l0, lget, lput, fnth, fset, gf, gi, ga, mt_is, mt_pop, g_nil, g_const, g_null, g_iload, g_aload, g_istore, g_astore, g_iinc, g_add, g_sub, g_mul, g_and, g_xor, g_div, g_rem, g_dup, g_dup2, g_pop, g_get, g_putI, g_putZ, g_putA, g_iald, g_zald, g_iast, g_zast, g_aald, g_aast, g_alen, g_new, g_newI, g_newA, g_objinit, l_fall, l_ifeq, l_ifne, l_iflt, l_ifge, l_ifgt, l_ifle, l_iceq, l_icne, l_iclt, l_icge, l_icgt, l_icle, l_nullN, l_nullS, l_nonnullN, l_nonnullS, l_acne, l_callV, l_callI, l_callS, l_ret, l_iret, l_zret, l_aret, l_after, List.length_cons, List.length_nil, Nat.reduceAdd, Nat.reduceLT, Nat.reduceLeDiff, Nat.reduceEqDiff, and_self, and_true, true_and, if_true, if_false, reduceIte, ite_true, ite_false, beq_self_eq_true, Nat.zero_add, Option.toList_some, Option.toList_none, List.cons_append, List.nil_append, if_0, x_lineOfN h0 h1]
        exact ⟨V, rfl, h⟩
end TC
