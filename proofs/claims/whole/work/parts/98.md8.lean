/-! The reference: a signature is answered. -/
section MD
variable {n w c : Nat} {f : Nat → Option m_E}
theorem lp_match {U : v_N} {s : List Nat} {wv sv W p at0 : Nat} (hs : s.length ≤ 40) (hx : ∀ x ∈ s, x < 2 ^ 25) (hW1 : W % 256 = wv) (hW2 : W / 256 = sv) (hW : W < 2 ^ 25) (hc : ∀ j, j < s.length → U 13 (2790 + 6 + 2 * j) = nI (s.getD j 0 % 256) ∧ U 13 (2790 + 7 + 2 * j) = nI (s.getD j 0 / 256)) (Q : m_R → Prop) (hq : Q (some (.inl (a_mi (a_fd s W 0))), (n, w, imr c U f))) (d : Nat) : d ≤ s.length → mt_T cd_MD_match 40 ([some (.inr (some c)), some (.inl (nI 2790)), some (.inl (nI p)), some (.inl (nI at0)), some (.inl (nI wv)), some (.inl (nI sv)), some (.inl (a_mi (a_fd (s.drop d) W d))), some (.inl (nI d - nI 1))], [], (n, w, imr c U f)) Q := by
  induction d with
  | zero =>
    intro _
    rw [List.drop_zero]
    simp only [k_MD_match_40, k_MD_match_98, mt_kk, mt_l0, lget, lput, mt_pop, g_nil, g_const, g_null, g_iload, g_aload, g_istore, g_astore, g_iinc, g_add, g_sub, g_mul, g_and, g_xor, g_div, g_rem, g_dup, g_dup2, g_pop, g_get, g_putI, g_putZ, g_putA, g_iald, g_zald, g_iast, g_zast, g_aald, g_aast, g_alen, g_new, g_newI, g_newA, g_objinit, l_fall, l_ifeq, l_ifne, l_iflt, l_ifge, l_ifgt, l_ifle, l_iceq, l_icne, l_iclt, l_icge, l_icgt, l_icle, l_nullN, l_nullS, l_nonnullN, l_nonnullS, l_acne, l_callV, l_callI, l_callS, l_ret, l_iret, l_zret, l_aret, l_after, List.length_cons, List.length_nil, Nat.reduceAdd, Nat.reduceLT, Nat.reduceLeDiff, Nat.reduceEqDiff, and_self, and_true, true_and, if_true, if_false, reduceIte, ite_true, ite_false, beq_self_eq_true, Nat.zero_add, Option.toList_some, Option.toList_none, List.cons_append, List.nil_append, gj_0, gj_1, gj_2, gj_3, gj_4, gj_5, gj_6, gj_7, gj_8, gj_9, gj_10, gj_11, gj_12, gj_13, gj_14, gj_15, gj_16, gj_17, gj_18, gj_19, gj_20, gj_21, gj_22, gj_23, gj_24, gj_25, gj_26, gj_27, pj_4, pj_5, pj_9, pj_10, pj_11, pj_12, pj_19, pj_20, pj_26, ij_1, ij_2, ij_3, ij_4, ij_5, ij_6, ij_7, ij_8, ij_9, ij_10, ij_11, ij_12, ij_13, ij_14, ij_15, ij_16, ij_17, ij_18, ij_19, vf_1, vf_2, vf_3, vf_4, vf_5, vf_6, vf_7, vf_8, vf_9, vf_10, vf_11, vf_12, vf_13, vf_14, vf_15, vf_16, vf_17, vf_18, vf_19, sj, eq_true (show nI 0 - nI 1 < 0 by decide)]
    exact hq
  | succ d ih =>
    intro hd
    have hil : d < s.length := by omega
    have e0 : nI (d + 1) - nI 1 = nI d := by rw [pk_sub (by omega)]; rfl
    have e1 : nI d + -1 = nI d - nI 1 := by rw [Int32.sub_eq_add_neg, show (-nI 1 : Int32) = -1 by decide]
    have hdr : s.drop d = s.getD d 0 :: s.drop (d + 1) := by
      rw [List.drop_eq_getElem_cons hil]
      congr 1
      rw [List.getD_eq_getElem?_getD, List.getElem?_eq_getElem hil]
      rfl
    have hxb : s.getD d 0 < 2 ^ 25 := by
      rw [List.getD_eq_getElem?_getD, List.getElem?_eq_getElem hil]
      exact hx _ (List.getElem_mem _)
    obtain ⟨c1, c2⟩ := hc d hil
    have ih := ih (by omega)
    rw [hdr] at ih
    generalize s.getD d 0 = x at hxb c1 c2 ih
    simp only [a_fd] at ih
    have hx1 := mt_ix_nI (j := 2796 + 2 * d) (n := 2880) (by omega) (by decide)
    have hx2 := mt_ix_nI (j := 2797 + 2 * d) (n := 2880) (by omega) (by decide)
    simp only [Nat.reduceAdd] at c1 c2
    have q1 := nI_eqE (a := x % 256) (b := wv) (by omega) (by omega)
    have q2 := nI_eqE (a := x / 256) (b := sv) (by omega) (by omega)
    rw [e0, k_MD_match_40]
    by_cases hxw : x = W
    · rw [if_pos hxw] at ih
      have g1 : x % 256 = wv := by omega
      have g2 : x / 256 = sv := by omega
      simp only [k_MD_match_45, k_MD_match_64, k_MD_match_83, k_MD_match_90, mt_kk, mt_l0, lget, lput, mt_pop, g_nil, g_const, g_null, g_iload, g_aload, g_istore, g_astore, g_iinc, g_add, g_sub, g_mul, g_and, g_xor, g_div, g_rem, g_dup, g_dup2, g_pop, g_get, g_putI, g_putZ, g_putA, g_iald, g_zald, g_iast, g_zast, g_aald, g_aast, g_alen, g_new, g_newI, g_newA, g_objinit, l_fall, l_ifeq, l_ifne, l_iflt, l_ifge, l_ifgt, l_ifle, l_iceq, l_icne, l_iclt, l_icge, l_icgt, l_icle, l_nullN, l_nullS, l_nonnullN, l_nonnullS, l_acne, l_callV, l_callI, l_callS, l_ret, l_iret, l_zret, l_aret, l_after, List.length_cons, List.length_nil, Nat.reduceAdd, Nat.reduceLT, Nat.reduceLeDiff, Nat.reduceEqDiff, and_self, and_true, true_and, if_true, if_false, reduceIte, ite_true, ite_false, beq_self_eq_true, Nat.zero_add, Option.toList_some, Option.toList_none, List.cons_append, List.nil_append, gj_0, gj_1, gj_2, gj_3, gj_4, gj_5, gj_6, gj_7, gj_8, gj_9, gj_10, gj_11, gj_12, gj_13, gj_14, gj_15, gj_16, gj_17, gj_18, gj_19, gj_20, gj_21, gj_22, gj_23, gj_24, gj_25, gj_26, gj_27, pj_4, pj_5, pj_9, pj_10, pj_11, pj_12, pj_19, pj_20, pj_26, ij_1, ij_2, ij_3, ij_4, ij_5, ij_6, ij_7, ij_8, ij_9, ij_10, ij_11, ij_12, ij_13, ij_14, ij_15, ij_16, ij_17, ij_18, ij_19, vf_1, vf_2, vf_3, vf_4, vf_5, vf_6, vf_7, vf_8, vf_9, vf_10, vf_11, vf_12, vf_13, vf_14, vf_15, vf_16, vf_17, vf_18, vf_19, sj, nI_neg (j := d) (by omega), pk_mul, nI_add, hx1, hx2, c1, c2, q1, q2, g1, g2, e1]
      exact ih
    · rw [if_neg hxw] at ih
      by_cases g1 : x % 256 = wv
      · have g2 : ¬ x / 256 = sv := by omega
        simp only [k_MD_match_45, k_MD_match_64, k_MD_match_88, k_MD_match_90, mt_kk, mt_l0, lget, lput, mt_pop, g_nil, g_const, g_null, g_iload, g_aload, g_istore, g_astore, g_iinc, g_add, g_sub, g_mul, g_and, g_xor, g_div, g_rem, g_dup, g_dup2, g_pop, g_get, g_putI, g_putZ, g_putA, g_iald, g_zald, g_iast, g_zast, g_aald, g_aast, g_alen, g_new, g_newI, g_newA, g_objinit, l_fall, l_ifeq, l_ifne, l_iflt, l_ifge, l_ifgt, l_ifle, l_iceq, l_icne, l_iclt, l_icge, l_icgt, l_icle, l_nullN, l_nullS, l_nonnullN, l_nonnullS, l_acne, l_callV, l_callI, l_callS, l_ret, l_iret, l_zret, l_aret, l_after, List.length_cons, List.length_nil, Nat.reduceAdd, Nat.reduceLT, Nat.reduceLeDiff, Nat.reduceEqDiff, and_self, and_true, true_and, if_true, if_false, reduceIte, ite_true, ite_false, beq_self_eq_true, Nat.zero_add, Option.toList_some, Option.toList_none, List.cons_append, List.nil_append, gj_0, gj_1, gj_2, gj_3, gj_4, gj_5, gj_6, gj_7, gj_8, gj_9, gj_10, gj_11, gj_12, gj_13, gj_14, gj_15, gj_16, gj_17, gj_18, gj_19, gj_20, gj_21, gj_22, gj_23, gj_24, gj_25, gj_26, gj_27, pj_4, pj_5, pj_9, pj_10, pj_11, pj_12, pj_19, pj_20, pj_26, ij_1, ij_2, ij_3, ij_4, ij_5, ij_6, ij_7, ij_8, ij_9, ij_10, ij_11, ij_12, ij_13, ij_14, ij_15, ij_16, ij_17, ij_18, ij_19, vf_1, vf_2, vf_3, vf_4, vf_5, vf_6, vf_7, vf_8, vf_9, vf_10, vf_11, vf_12, vf_13, vf_14, vf_15, vf_16, vf_17, vf_18, vf_19, sj, nI_neg (j := d) (by omega), pk_mul, nI_add, hx1, hx2, c1, c2, q1, q2, g1, g2, e1]
        exact ih
      · simp only [k_MD_match_45, k_MD_match_88, k_MD_match_90, mt_kk, mt_l0, lget, lput, mt_pop, g_nil, g_const, g_null, g_iload, g_aload, g_istore, g_astore, g_iinc, g_add, g_sub, g_mul, g_and, g_xor, g_div, g_rem, g_dup, g_dup2, g_pop, g_get, g_putI, g_putZ, g_putA, g_iald, g_zald, g_iast, g_zast, g_aald, g_aast, g_alen, g_new, g_newI, g_newA, g_objinit, l_fall, l_ifeq, l_ifne, l_iflt, l_ifge, l_ifgt, l_ifle, l_iceq, l_icne, l_iclt, l_icge, l_icgt, l_icle, l_nullN, l_nullS, l_nonnullN, l_nonnullS, l_acne, l_callV, l_callI, l_callS, l_ret, l_iret, l_zret, l_aret, l_after, List.length_cons, List.length_nil, Nat.reduceAdd, Nat.reduceLT, Nat.reduceLeDiff, Nat.reduceEqDiff, and_self, and_true, true_and, if_true, if_false, reduceIte, ite_true, ite_false, beq_self_eq_true, Nat.zero_add, Option.toList_some, Option.toList_none, List.cons_append, List.nil_append, gj_0, gj_1, gj_2, gj_3, gj_4, gj_5, gj_6, gj_7, gj_8, gj_9, gj_10, gj_11, gj_12, gj_13, gj_14, gj_15, gj_16, gj_17, gj_18, gj_19, gj_20, gj_21, gj_22, gj_23, gj_24, gj_25, gj_26, gj_27, pj_4, pj_5, pj_9, pj_10, pj_11, pj_12, pj_19, pj_20, pj_26, ij_1, ij_2, ij_3, ij_4, ij_5, ij_6, ij_7, ij_8, ij_9, ij_10, ij_11, ij_12, ij_13, ij_14, ij_15, ij_16, ij_17, ij_18, ij_19, vf_1, vf_2, vf_3, vf_4, vf_5, vf_6, vf_7, vf_8, vf_9, vf_10, vf_11, vf_12, vf_13, vf_14, vf_15, vf_16, vf_17, vf_18, vf_19, sj, nI_neg (j := d) (by omega), pk_mul, nI_add, hx1, c1, q1, g1, e1]
        exact ih
theorem x_match {U : v_N} {s l : List Nat} {p i blk att : Nat} (hp : p < 24) (hb0 : U 0 10 = nI blk) (hb8 : blk ≤ 8) (hat : att ≤ 2) (hby : a_by l) (hib : i + blk ≤ l.length) (hg : ∀ j, j < l.length → U 4 (40 * p + j) = nI (l.getD j 0)) (hs : s.length ≤ 40) (hx : ∀ x ∈ s, x < 2 ^ 25) (h5 : U 13 2795 = nI (2 * s.length)) (hc : ∀ j, j < s.length → U 13 (2790 + 6 + 2 * j) = nI (s.getD j 0 % 256) ∧ U 13 (2790 + 7 + 2 * j) = nI (s.getD j 0 / 256)) : sm_MD_match [.inr (some c), .inl (nI 2790), .inl (nI (40 * p + i)), .inl (nI att)] (n, w, imr c U f) = some (some (.inl (a_mi (a_fd s (sw (fun j => l.getD (i + j) 0) blk att) 0))), (n, w, imr c U f)) := by
  have h40 := hby.1
  have hgg : ∀ j, j < blk → U 4 (40 * p + i + j) = nI (l.getD (i + j) 0) := fun j hj => by
    rw [Nat.add_assoc]; exact hg _ (by omega)
  have hbb : ∀ j, j < blk → l.getD (i + j) 0 < 256 := fun j hj => by
    rw [List.getD_eq_getElem?_getD, List.getElem?_eq_getElem (by omega)]
    exact hby.2 _ (List.getElem_mem _)
  have hwk := x_mweak (n := n) (w := w) (c := c) (f := f) (U := U) (p := 40 * p + i) hb8 (by omega) hgg hbb
  have hst := x_mstr (n := n) (w := w) (c := c) (f := f) (U := U) (p := 40 * p + i) (m := blk) hat (by omega) hgg hbb
  have hx5 := mt_ix_nI (j := 2795) (n := 2880) (by decide) (by decide)
  have hdiv : nI (2 * s.length) / nI 2 = nI s.length := by rw [pk_div (by omega) (by decide) (by decide), Nat.mul_div_cancel_left _ (by decide)]
  have hlp := lp_match (n := n) (w := w) (c := c) (f := f) (p := 40 * p + i) (at0 := att) hs hx (sw_mod (g := fun j => l.getD (i + j) 0) (m := blk) (a := att)) sw_div sw_lt hc (fun x => x = (some (.inl (a_mi (a_fd s (sw (fun j => l.getD (i + j) 0) blk att) 0))), (n, w, imr c U f))) rfl s.length (Nat.le_refl _)
  rw [List.drop_length] at hlp
  refine mt_sem_eq ?_
  simp only [k_MD_match_0, k_MD_match_9, k_MD_match_21, mt_kk, mt_l0, lget, lput, mt_pop, g_nil, g_const, g_null, g_iload, g_aload, g_istore, g_astore, g_iinc, g_add, g_sub, g_mul, g_and, g_xor, g_div, g_rem, g_dup, g_dup2, g_pop, g_get, g_putI, g_putZ, g_putA, g_iald, g_zald, g_iast, g_zast, g_aald, g_aast, g_alen, g_new, g_newI, g_newA, g_objinit, l_fall, l_ifeq, l_ifne, l_iflt, l_ifge, l_ifgt, l_ifle, l_iceq, l_icne, l_iclt, l_icge, l_icgt, l_icle, l_nullN, l_nullS, l_nonnullN, l_nonnullS, l_acne, l_callV, l_callI, l_callS, l_ret, l_iret, l_zret, l_aret, l_after, List.length_cons, List.length_nil, Nat.reduceAdd, Nat.reduceLT, Nat.reduceLeDiff, Nat.reduceEqDiff, and_self, and_true, true_and, if_true, if_false, reduceIte, ite_true, ite_false, beq_self_eq_true, Nat.zero_add, Option.toList_some, Option.toList_none, List.cons_append, List.nil_append, gj_0, gj_1, gj_2, gj_3, gj_4, gj_5, gj_6, gj_7, gj_8, gj_9, gj_10, gj_11, gj_12, gj_13, gj_14, gj_15, gj_16, gj_17, gj_18, gj_19, gj_20, gj_21, gj_22, gj_23, gj_24, gj_25, gj_26, gj_27, pj_4, pj_5, pj_9, pj_10, pj_11, pj_12, pj_19, pj_20, pj_26, ij_1, ij_2, ij_3, ij_4, ij_5, ij_6, ij_7, ij_8, ij_9, ij_10, ij_11, ij_12, ij_13, ij_14, ij_15, ij_16, ij_17, ij_18, ij_19, vf_1, vf_2, vf_3, vf_4, vf_5, vf_6, vf_7, vf_8, vf_9, vf_10, vf_11, vf_12, vf_13, vf_14, vf_15, vf_16, vf_17, vf_18, vf_19, sj, hb0, hwk, hst, nI_add, hx5, h5, hdiv, (show (nI 2 = 0) = False from eq_false (by decide))]
  exact hlp
theorem lp_mdig {U : v_N} {p nm att : Nat} {l : List Nat} (hp : p < 24) (hl : l.length ≤ 40) (hsz : U 2 p = nI l.length) (hg : ∀ j, j < l.length → U 4 (40 * p + j) = nI (l.getD j 0)) (Q : m_R → Prop) (hq : mt_T cd_MD_answer 88 ([some (.inr (some c)), some (.inl (nI 2790)), some (.inl (nI nm)), some (.inl (nI att)), some (.inl (nI p)), some (.inl (dg (fun i => l.getD i 0) l.length)), some (.inl (nI l.length)), none], [], (n, w, imr c U f)) Q) (d : Nat) : ∀ (i : Nat), i + d = l.length → mt_T cd_MD_answer 49 ([some (.inr (some c)), some (.inl (nI 2790)), some (.inl (nI nm)), some (.inl (nI att)), some (.inl (nI p)), some (.inl (dg (fun i => l.getD i 0) i)), some (.inl (nI i)), none], [], (n, w, imr c U f)) Q := by
  have hxp := mt_ix_nI (j := p) (n := 24) hp (by decide)
  induction d with
  | zero =>
    intro i hd
    have hd : i = l.length := hd
    subst hd
    rw [k_MD_answer_49]
    simp only [mt_kk, mt_l0, lget, lput, mt_pop, g_nil, g_const, g_null, g_iload, g_aload, g_istore, g_astore, g_iinc, g_add, g_sub, g_mul, g_and, g_xor, g_div, g_rem, g_dup, g_dup2, g_pop, g_get, g_putI, g_putZ, g_putA, g_iald, g_zald, g_iast, g_zast, g_aald, g_aast, g_alen, g_new, g_newI, g_newA, g_objinit, l_fall, l_ifeq, l_ifne, l_iflt, l_ifge, l_ifgt, l_ifle, l_iceq, l_icne, l_iclt, l_icge, l_icgt, l_icle, l_nullN, l_nullS, l_nonnullN, l_nonnullS, l_acne, l_callV, l_callI, l_callS, l_ret, l_iret, l_zret, l_aret, l_after, List.length_cons, List.length_nil, Nat.reduceAdd, Nat.reduceLT, Nat.reduceLeDiff, Nat.reduceEqDiff, and_self, and_true, true_and, if_true, if_false, reduceIte, ite_true, ite_false, beq_self_eq_true, Nat.zero_add, Option.toList_some, Option.toList_none, List.cons_append, List.nil_append, gj_0, gj_1, gj_2, gj_3, gj_4, gj_5, gj_6, gj_7, gj_8, gj_9, gj_10, gj_11, gj_12, gj_13, gj_14, gj_15, gj_16, gj_17, gj_18, gj_19, gj_20, gj_21, gj_22, gj_23, gj_24, gj_25, gj_26, gj_27, pj_4, pj_5, pj_9, pj_10, pj_11, pj_12, pj_19, pj_20, pj_26, ij_1, ij_2, ij_3, ij_4, ij_5, ij_6, ij_7, ij_8, ij_9, ij_10, ij_11, ij_12, ij_13, ij_14, ij_15, ij_16, ij_17, ij_18, ij_19, vf_1, vf_2, vf_3, vf_4, vf_5, vf_6, vf_7, vf_8, vf_9, vf_10, vf_11, vf_12, vf_13, vf_14, vf_15, vf_16, vf_17, vf_18, vf_19, sj, hxp, hsz, eq_true (Int32.le_refl (nI l.length))]
    exact hq
  | succ d ih =>
    intro i hd
    have hil : i < l.length := by omega
    have hx := mt_ix_nI (j := 40 * p + i) (n := 960) (by omega) (by decide)
    have h6 := ih (i + 1) (by omega)
    rw [dg_s] at h6
    rw [k_MD_answer_49]
    simp only [k_MD_answer_61, mt_kk, mt_l0, lget, lput, mt_pop, g_nil, g_const, g_null, g_iload, g_aload, g_istore, g_astore, g_iinc, g_add, g_sub, g_mul, g_and, g_xor, g_div, g_rem, g_dup, g_dup2, g_pop, g_get, g_putI, g_putZ, g_putA, g_iald, g_zald, g_iast, g_zast, g_aald, g_aast, g_alen, g_new, g_newI, g_newA, g_objinit, l_fall, l_ifeq, l_ifne, l_iflt, l_ifge, l_ifgt, l_ifle, l_iceq, l_icne, l_iclt, l_icge, l_icgt, l_icle, l_nullN, l_nullS, l_nonnullN, l_nonnullS, l_acne, l_callV, l_callI, l_callS, l_ret, l_iret, l_zret, l_aret, l_after, List.length_cons, List.length_nil, Nat.reduceAdd, Nat.reduceLT, Nat.reduceLeDiff, Nat.reduceEqDiff, and_self, and_true, true_and, if_true, if_false, reduceIte, ite_true, ite_false, beq_self_eq_true, Nat.zero_add, Option.toList_some, Option.toList_none, List.cons_append, List.nil_append, gj_0, gj_1, gj_2, gj_3, gj_4, gj_5, gj_6, gj_7, gj_8, gj_9, gj_10, gj_11, gj_12, gj_13, gj_14, gj_15, gj_16, gj_17, gj_18, gj_19, gj_20, gj_21, gj_22, gj_23, gj_24, gj_25, gj_26, gj_27, pj_4, pj_5, pj_9, pj_10, pj_11, pj_12, pj_19, pj_20, pj_26, ij_1, ij_2, ij_3, ij_4, ij_5, ij_6, ij_7, ij_8, ij_9, ij_10, ij_11, ij_12, ij_13, ij_14, ij_15, ij_16, ij_17, ij_18, ij_19, vf_1, vf_2, vf_3, vf_4, vf_5, vf_6, vf_7, vf_8, vf_9, vf_10, vf_11, vf_12, vf_13, vf_14, vf_15, vf_16, vf_17, vf_18, vf_19, sj, hxp, hsz, eq_false (nI_ge hil (show l.length < 2 ^ 31 by omega)), pk_mul, nI_add, hx, hg i hil]
    exact h6
theorem lp_mfill {U0 : v_N} {a p nm att blk : Nat} {l s full : List Nat} {ctf : Nat → Int32} {dd : Int32} (ha : 1440 ≤ a ∧ a + 90 ≤ 2790) (hp : p < 24) (hb0 : U0 0 10 = nI blk) (hu : U0 0 19 = nI a) (hb1 : 1 ≤ blk) (hb8 : blk ≤ 8) (hat : att ≤ 2) (hby : a_by l) (hsz : U0 2 p = nI l.length) (hg : ∀ j, j < l.length → U0 4 (40 * p + j) = nI (l.getD j 0)) (hs : s.length ≤ 40) (hx : ∀ x ∈ s, x < 2 ^ 25) (h5 : U0 13 2795 = nI (2 * s.length)) (hc : ∀ j, j < s.length → U0 13 (2790 + 6 + 2 * j) = nI (s.getD j 0 % 256) ∧ U0 13 (2790 + 7 + 2 * j) = nI (s.getD j 0 / 256)) (Q : m_R → Prop) (hq : ∀ U1, U1 13 (a + 5) = nI full.length → (∀ j, j < full.length → U1 13 (a + 6 + j) = nI (full.getD j 0)) → (∀ k, k < 8 → U1 19 k = ctf k) → (∀ q, q ≠ 13 → q ≠ 19 → U1 q = U0 q) → (∀ i, i < a + 5 ∨ a + 90 ≤ i → U1 13 i = U0 13 i) → Q (none, (n, w, imr c U1 f))) (d : Nat) : ∀ (i : Nat) (U : v_N) (cur : List Nat) (ct : Nat → Int32) (j7 : Option m_V), l.length ≤ i + d → i ≤ l.length + 8 → cur.length ≤ i → cur.length ≤ 40 → U 13 (a + 5) = nI cur.length → (∀ j, j < cur.length → U 13 (a + 6 + j) = nI (cur.getD j 0)) → (∀ k, k < 8 → U 19 k = ct k) → (∀ q, q ≠ 13 → q ≠ 19 → U q = U0 q) → (∀ i, i < a + 5 ∨ a + 90 ≤ i → U 13 i = U0 13 i) → cur ++ a_dl l s blk att (l.length - i) i = full → a_dc ct (a_dl l s blk att (l.length - i) i) = ctf → mt_T cd_MD_answer 102 ([some (.inr (some c)), some (.inl (nI 2790)), some (.inl (nI nm)), some (.inl (nI att)), some (.inl (nI p)), some (.inl dd), some (.inl (nI i)), j7], [], (n, w, imr c U f)) Q := by
  have h40 := hby.1
  have hxp := mt_ix_nI (j := p) (n := 24) hp (by decide)
  have hexit : ∀ (i : Nat) (U : v_N) (cur : List Nat) (ct : Nat → Int32) (j7 : Option m_V), l.length ≤ i → i ≤ l.length + 8 → U 13 (a + 5) = nI cur.length → (∀ j, j < cur.length → U 13 (a + 6 + j) = nI (cur.getD j 0)) → (∀ k, k < 8 → U 19 k = ct k) → (∀ q, q ≠ 13 → q ≠ 19 → U q = U0 q) → (∀ i, i < a + 5 ∨ a + 90 ≤ i → U 13 i = U0 13 i) → cur ++ a_dl l s blk att (l.length - i) i = full → a_dc ct (a_dl l s blk att (l.length - i) i) = ctf → mt_T cd_MD_answer 102 ([some (.inr (some c)), some (.inl (nI 2790)), some (.inl (nI nm)), some (.inl (nI att)), some (.inl (nI p)), some (.inl dd), some (.inl (nI i)), j7], [], (n, w, imr c U f)) Q := by
    intro i U cur ct j7 hil hi8 h1 h2 h3 h4 h6 h7 h8
    rw [dl_0 _ _ hil] at h7 h8
    rw [List.append_nil] at h7
    have h8 : ct = ctf := h8
    subst h7
    subst h8
    have hsz2 : U 2 p = nI l.length := by rw [h4 2 (by decide) (by decide)]; exact hsz
    simp only [k_MD_answer_102, k_MD_answer_220, mt_kk, mt_l0, lget, lput, mt_pop, g_nil, g_const, g_null, g_iload, g_aload, g_istore, g_astore, g_iinc, g_add, g_sub, g_mul, g_and, g_xor, g_div, g_rem, g_dup, g_dup2, g_pop, g_get, g_putI, g_putZ, g_putA, g_iald, g_zald, g_iast, g_zast, g_aald, g_aast, g_alen, g_new, g_newI, g_newA, g_objinit, l_fall, l_ifeq, l_ifne, l_iflt, l_ifge, l_ifgt, l_ifle, l_iceq, l_icne, l_iclt, l_icge, l_icgt, l_icle, l_nullN, l_nullS, l_nonnullN, l_nonnullS, l_acne, l_callV, l_callI, l_callS, l_ret, l_iret, l_zret, l_aret, l_after, List.length_cons, List.length_nil, Nat.reduceAdd, Nat.reduceLT, Nat.reduceLeDiff, Nat.reduceEqDiff, and_self, and_true, true_and, if_true, if_false, reduceIte, ite_true, ite_false, beq_self_eq_true, Nat.zero_add, Option.toList_some, Option.toList_none, List.cons_append, List.nil_append, gj_0, gj_1, gj_2, gj_3, gj_4, gj_5, gj_6, gj_7, gj_8, gj_9, gj_10, gj_11, gj_12, gj_13, gj_14, gj_15, gj_16, gj_17, gj_18, gj_19, gj_20, gj_21, gj_22, gj_23, gj_24, gj_25, gj_26, gj_27, pj_4, pj_5, pj_9, pj_10, pj_11, pj_12, pj_19, pj_20, pj_26, ij_1, ij_2, ij_3, ij_4, ij_5, ij_6, ij_7, ij_8, ij_9, ij_10, ij_11, ij_12, ij_13, ij_14, ij_15, ij_16, ij_17, ij_18, ij_19, vf_1, vf_2, vf_3, vf_4, vf_5, vf_6, vf_7, vf_8, vf_9, vf_10, vf_11, vf_12, vf_13, vf_14, vf_15, vf_16, vf_17, vf_18, vf_19, sj, hxp, hsz2, eq_true (nI_le hil (show i < 2 ^ 31 by omega))]
    exact hq U h1 h2 h3 h4 h6
  induction d with
  | zero =>
    intro i U cur ct j7 hd hi8 hci hc40 h1 h2 h3 h4 h6 h7 h8
    exact hexit i U cur ct j7 hd hi8 h1 h2 h3 h4 h6 h7 h8
  | succ d ih =>
    intro i U cur ct j7 hd hi8 hci hc40 h1 h2 h3 h4 h6 h7 h8
    by_cases hil : i < l.length
    case neg => exact hexit i U cur ct j7 (by omega) hi8 h1 h2 h3 h4 h6 h7 h8
    have hsz2 : U 2 p = nI l.length := by rw [h4 2 (by decide) (by decide)]; exact hsz
    have hb : U 0 10 = nI blk := by rw [h4 0 (by decide) (by decide)]; exact hb0
    have hu2 : U 0 19 = nI a := by rw [h4 0 (by decide) (by decide)]; exact hu
    have hxi := mt_ix_nI (j := 40 * p + i) (n := 960) (by omega) (by decide)
    have hgi : U 4 (40 * p + i) = nI (l.getD i 0) := by rw [h4 4 (by decide) (by decide)]; exact hg i hil
    have hxl : l.getD i 0 < 256 := by
      rw [List.getD_eq_getElem?_getD, List.getElem?_eq_getElem hil]
      exact hby.2 _ (List.getElem_mem _)
    have e1 : (nI l.length ≤ nI i) = False := eq_false (nI_ge hil (by omega))
    have e2 := nI_ltE (a := l.length) (b := i + blk) (by omega) (by omega)
    rw [show l.length - i = (l.length - i - 1) + 1 by omega] at h7 h8
    simp only [a_dl, if_pos hil] at h7 h8
    have hmid : mt_T cd_MD_answer 149 ([some (.inr (some c)), some (.inl (nI 2790)), some (.inl (nI nm)), some (.inl (nI att)), some (.inl (nI p)), some (.inl dd), some (.inl (nI i)), j7], [.inl (a_mi (a_mt l s blk att i))], (n, w, imr c U f)) Q := by
      cases hmt : a_mt l s blk att i with
      | none =>
        rw [hmt] at h7 h8
        simp only [] at h7 h8
        simp only [a_dc, if_pos hxl] at h8
        have hmore := x_more (n := n) (w := w) (c := c) (f := f) (x := nI (l.getD i 0)) (show a + 6 + cur.length < 2880 by omega) hu2 h1
        simp only [k_MD_answer_149, k_MD_answer_166, k_MD_answer_179, k_MD_answer_182, k_MD_answer_192, k_MD_answer_193, k_MD_answer_196, k_MD_answer_211, k_MD_answer_215, mt_kk, mt_l0, lget, lput, mt_pop, g_nil, g_const, g_null, g_iload, g_aload, g_istore, g_astore, g_iinc, g_add, g_sub, g_mul, g_and, g_xor, g_div, g_rem, g_dup, g_dup2, g_pop, g_get, g_putI, g_putZ, g_putA, g_iald, g_zald, g_iast, g_zast, g_aald, g_aast, g_alen, g_new, g_newI, g_newA, g_objinit, l_fall, l_ifeq, l_ifne, l_iflt, l_ifge, l_ifgt, l_ifle, l_iceq, l_icne, l_iclt, l_icge, l_icgt, l_icle, l_nullN, l_nullS, l_nonnullN, l_nonnullS, l_acne, l_callV, l_callI, l_callS, l_ret, l_iret, l_zret, l_aret, l_after, List.length_cons, List.length_nil, Nat.reduceAdd, Nat.reduceLT, Nat.reduceLeDiff, Nat.reduceEqDiff, and_self, and_true, true_and, if_true, if_false, reduceIte, ite_true, ite_false, beq_self_eq_true, Nat.zero_add, Option.toList_some, Option.toList_none, List.cons_append, List.nil_append, gj_0, gj_1, gj_2, gj_3, gj_4, gj_5, gj_6, gj_7, gj_8, gj_9, gj_10, gj_11, gj_12, gj_13, gj_14, gj_15, gj_16, gj_17, gj_18, gj_19, gj_20, gj_21, gj_22, gj_23, gj_24, gj_25, gj_26, gj_27, pj_4, pj_5, pj_9, pj_10, pj_11, pj_12, pj_19, pj_20, pj_26, ij_1, ij_2, ij_3, ij_4, ij_5, ij_6, ij_7, ij_8, ij_9, ij_10, ij_11, ij_12, ij_13, ij_14, ij_15, ij_16, ij_17, ij_18, ij_19, vf_1, vf_2, vf_3, vf_4, vf_5, vf_6, vf_7, vf_8, vf_9, vf_10, vf_11, vf_12, vf_13, vf_14, vf_15, vf_16, vf_17, vf_18, vf_19, sj, a_mi, m1_neg, pk_mul, nI_add, hxi, hgi, hmore, x_add (show 0 < 8 by decide), up_ne (show 19 ≠ 13 by decide)]
        refine ih (i + 1) _ (cur ++ [l.getD i 0]) (a_bp ct 0) _ (by omega) (by omega) (by rw [List.length_append, List.length_cons, List.length_nil]; omega) (by rw [List.length_append, List.length_cons, List.length_nil]; omega) ?_ ?_ ?_ ?_ ?_ ?_ ?_
        · rw [up_ne (by decide), vu_same, List.length_append]; rfl
        · intro j hj
          rw [List.length_append, List.length_cons, List.length_nil] at hj
          rw [up_ne (by decide), vu_slot (by omega), gd_app]
          by_cases hjc : j = cur.length
          · subst hjc; rw [vu_same, if_pos rfl]
          · rw [vu_slot (by omega), if_neg hjc]; exact h2 j (by omega)
        · have h9 := ct_bpM (U1 := vu (vu U 13 (a + 6 + cur.length) (nI (l.getD i 0))) 13 (a + 5) (nI (cur.length + 1))) (ct := ct) (j := 0) (fun k hk => by rw [up_ne (by decide), up_ne (by decide)]; exact h3 k hk) (by decide)
          rw [up_ne (show 19 ≠ 13 by decide), up_ne (show 19 ≠ 13 by decide)] at h9
          exact h9
        · intro q q1 q2
          rw [vu_off q2, vu_off q1, vu_off q1]; exact h4 q q1 q2
        · intro j hj
          rw [up_ne (by decide), vu_slot (by omega), vu_slot (by omega)]; exact h6 j hj
        · rw [List.append_assoc, show l.length - (i + 1) = l.length - i - 1 by omega]; exact h7
        · rw [show l.length - (i + 1) = l.length - i - 1 by omega]; exact h8
      | some k =>
        rw [hmt] at h7 h8
        simp only [] at h7 h8
        simp only [a_dc, if_neg (show ¬ 256 + k < 256 by omega)] at h8
        rw [dl_fuel hb1 (l.length - i - 1) (l.length - (i + blk)) (i + blk) (by omega) (by omega)] at h7 h8
        have hk40 : k < 40 ∧ i + blk ≤ l.length := by
          unfold a_mt at hmt
          split at hmt
          · rename_i hh
            have := fd_ge _ _ _ hmt
            exact ⟨by omega, hh⟩
          · cases hmt
        have hmore := x_more (n := n) (w := w) (c := c) (f := f) (x := nI (256 + k)) (show a + 6 + cur.length < 2880 by omega) hu2 h1
        simp only [k_MD_answer_149, k_MD_answer_157, k_MD_answer_179, k_MD_answer_182, k_MD_answer_188, k_MD_answer_193, k_MD_answer_196, k_MD_answer_201, k_MD_answer_215, mt_kk, mt_l0, lget, lput, mt_pop, g_nil, g_const, g_null, g_iload, g_aload, g_istore, g_astore, g_iinc, g_add, g_sub, g_mul, g_and, g_xor, g_div, g_rem, g_dup, g_dup2, g_pop, g_get, g_putI, g_putZ, g_putA, g_iald, g_zald, g_iast, g_zast, g_aald, g_aast, g_alen, g_new, g_newI, g_newA, g_objinit, l_fall, l_ifeq, l_ifne, l_iflt, l_ifge, l_ifgt, l_ifle, l_iceq, l_icne, l_iclt, l_icge, l_icgt, l_icle, l_nullN, l_nullS, l_nonnullN, l_nonnullS, l_acne, l_callV, l_callI, l_callS, l_ret, l_iret, l_zret, l_aret, l_after, List.length_cons, List.length_nil, Nat.reduceAdd, Nat.reduceLT, Nat.reduceLeDiff, Nat.reduceEqDiff, and_self, and_true, true_and, if_true, if_false, reduceIte, ite_true, ite_false, beq_self_eq_true, Nat.zero_add, Option.toList_some, Option.toList_none, List.cons_append, List.nil_append, gj_0, gj_1, gj_2, gj_3, gj_4, gj_5, gj_6, gj_7, gj_8, gj_9, gj_10, gj_11, gj_12, gj_13, gj_14, gj_15, gj_16, gj_17, gj_18, gj_19, gj_20, gj_21, gj_22, gj_23, gj_24, gj_25, gj_26, gj_27, pj_4, pj_5, pj_9, pj_10, pj_11, pj_12, pj_19, pj_20, pj_26, ij_1, ij_2, ij_3, ij_4, ij_5, ij_6, ij_7, ij_8, ij_9, ij_10, ij_11, ij_12, ij_13, ij_14, ij_15, ij_16, ij_17, ij_18, ij_19, vf_1, vf_2, vf_3, vf_4, vf_5, vf_6, vf_7, vf_8, vf_9, vf_10, vf_11, vf_12, vf_13, vf_14, vf_15, vf_16, vf_17, vf_18, vf_19, sj, a_mi, nI_neg (j := k) (by omega), nI_add, hmore, x_add (show 1 < 8 by decide), up_ne (show 19 ≠ 13 by decide), up_ne (show 0 ≠ 19 by decide), up_ne (show 0 ≠ 13 by decide), hb]
        refine ih (i + blk) _ (cur ++ [256 + k]) (a_bp ct 1) _ (by omega) (by omega) (by rw [List.length_append, List.length_cons, List.length_nil]; omega) (by rw [List.length_append, List.length_cons, List.length_nil]; omega) ?_ ?_ ?_ ?_ ?_ ?_ ?_
        · rw [up_ne (by decide), vu_same, List.length_append]; rfl
        · intro j hj
          rw [List.length_append, List.length_cons, List.length_nil] at hj
          rw [up_ne (by decide), vu_slot (by omega), gd_app]
          by_cases hjc : j = cur.length
          · subst hjc; rw [vu_same, if_pos rfl]
          · rw [vu_slot (by omega), if_neg hjc]; exact h2 j (by omega)
        · have h9 := ct_bpM (U1 := vu (vu U 13 (a + 6 + cur.length) (nI (256 + k))) 13 (a + 5) (nI (cur.length + 1))) (ct := ct) (j := 1) (fun k hk => by rw [up_ne (by decide), up_ne (by decide)]; exact h3 k hk) (by decide)
          rw [up_ne (show 19 ≠ 13 by decide), up_ne (show 19 ≠ 13 by decide)] at h9
          exact h9
        · intro q q1 q2
          rw [vu_off q2, vu_off q1, vu_off q1]; exact h4 q q1 q2
        · intro j hj
          rw [up_ne (by decide), vu_slot (by omega), vu_slot (by omega)]; exact h6 j hj
        · rw [List.append_assoc]; exact h7
        · exact h8
    rw [k_MD_answer_102]
    by_cases hib : i + blk ≤ l.length
    · have hmatch := x_match (n := n) (w := w) (c := c) (f := f) (U := U) (s := s) (i := i) hp hb hb8 hat hby hib (fun j hj => by rw [h4 4 (by decide) (by decide)]; exact hg j hj) hs hx (by rw [h6 2795 (by omega)]; exact h5) (fun j hj => by rw [h6 _ (by omega), h6 _ (by omega)]; exact hc j hj)
      have e3 : ¬ l.length < i + blk := by omega
      simp only [a_mt, if_pos hib] at hmid
      simp only [k_MD_answer_114, k_MD_answer_131, k_MD_answer_145, mt_kk, mt_l0, lget, lput, mt_pop, g_nil, g_const, g_null, g_iload, g_aload, g_istore, g_astore, g_iinc, g_add, g_sub, g_mul, g_and, g_xor, g_div, g_rem, g_dup, g_dup2, g_pop, g_get, g_putI, g_putZ, g_putA, g_iald, g_zald, g_iast, g_zast, g_aald, g_aast, g_alen, g_new, g_newI, g_newA, g_objinit, l_fall, l_ifeq, l_ifne, l_iflt, l_ifge, l_ifgt, l_ifle, l_iceq, l_icne, l_iclt, l_icge, l_icgt, l_icle, l_nullN, l_nullS, l_nonnullN, l_nonnullS, l_acne, l_callV, l_callI, l_callS, l_ret, l_iret, l_zret, l_aret, l_after, List.length_cons, List.length_nil, Nat.reduceAdd, Nat.reduceLT, Nat.reduceLeDiff, Nat.reduceEqDiff, and_self, and_true, true_and, if_true, if_false, reduceIte, ite_true, ite_false, beq_self_eq_true, Nat.zero_add, Option.toList_some, Option.toList_none, List.cons_append, List.nil_append, gj_0, gj_1, gj_2, gj_3, gj_4, gj_5, gj_6, gj_7, gj_8, gj_9, gj_10, gj_11, gj_12, gj_13, gj_14, gj_15, gj_16, gj_17, gj_18, gj_19, gj_20, gj_21, gj_22, gj_23, gj_24, gj_25, gj_26, gj_27, pj_4, pj_5, pj_9, pj_10, pj_11, pj_12, pj_19, pj_20, pj_26, ij_1, ij_2, ij_3, ij_4, ij_5, ij_6, ij_7, ij_8, ij_9, ij_10, ij_11, ij_12, ij_13, ij_14, ij_15, ij_16, ij_17, ij_18, ij_19, vf_1, vf_2, vf_3, vf_4, vf_5, vf_6, vf_7, vf_8, vf_9, vf_10, vf_11, vf_12, vf_13, vf_14, vf_15, vf_16, vf_17, vf_18, vf_19, sj, hxp, hsz2, e1, hb, nI_add, e2, e3, pk_mul, hmatch]
      exact hmid
    · have e3 : l.length < i + blk := by omega
      simp only [a_mt, if_neg hib, a_mi] at hmid
      simp only [k_MD_answer_114, k_MD_answer_148, mt_kk, mt_l0, lget, lput, mt_pop, g_nil, g_const, g_null, g_iload, g_aload, g_istore, g_astore, g_iinc, g_add, g_sub, g_mul, g_and, g_xor, g_div, g_rem, g_dup, g_dup2, g_pop, g_get, g_putI, g_putZ, g_putA, g_iald, g_zald, g_iast, g_zast, g_aald, g_aast, g_alen, g_new, g_newI, g_newA, g_objinit, l_fall, l_ifeq, l_ifne, l_iflt, l_ifge, l_ifgt, l_ifle, l_iceq, l_icne, l_iclt, l_icge, l_icgt, l_icle, l_nullN, l_nullS, l_nonnullN, l_nonnullS, l_acne, l_callV, l_callI, l_callS, l_ret, l_iret, l_zret, l_aret, l_after, List.length_cons, List.length_nil, Nat.reduceAdd, Nat.reduceLT, Nat.reduceLeDiff, Nat.reduceEqDiff, and_self, and_true, true_and, if_true, if_false, reduceIte, ite_true, ite_false, beq_self_eq_true, Nat.zero_add, Option.toList_some, Option.toList_none, List.cons_append, List.nil_append, gj_0, gj_1, gj_2, gj_3, gj_4, gj_5, gj_6, gj_7, gj_8, gj_9, gj_10, gj_11, gj_12, gj_13, gj_14, gj_15, gj_16, gj_17, gj_18, gj_19, gj_20, gj_21, gj_22, gj_23, gj_24, gj_25, gj_26, gj_27, pj_4, pj_5, pj_9, pj_10, pj_11, pj_12, pj_19, pj_20, pj_26, ij_1, ij_2, ij_3, ij_4, ij_5, ij_6, ij_7, ij_8, ij_9, ij_10, ij_11, ij_12, ij_13, ij_14, ij_15, ij_16, ij_17, ij_18, ij_19, vf_1, vf_2, vf_3, vf_4, vf_5, vf_6, vf_7, vf_8, vf_9, vf_10, vf_11, vf_12, vf_13, vf_14, vf_15, vf_16, vf_17, vf_18, vf_19, sj, hxp, hsz2, e1, hb, nI_add, e2, e3]
      exact hmid
theorem x_mans {U : v_N} {z : a_Z} {y : a_S} {m : a_M} (h : dR U z) (hy : z.2.2.2.2.2 = some y) (hm : cM U 2790 m) (hk3 : m.1 = 3) (hnm : m.2.1 < 12) (hat : m.2.2.1 ≤ 2) (hx : ∀ x ∈ m.2.2.2.2.2, x < 2 ^ 25) (hl1 : y.2.2.2.2.2.2.length < 13) : mt_P sm_MD_answer [.inr (some c), .inl (nI 2790)] (n, w, imr c U f) (d_Qv n w c f (z_s z z.2.2.2.1 (a_ac z.2.2.1 z.2.2.2.2.1 y.1 m) (y.1, y.2.1, y.2.2.1, y.2.2.2.1, y.2.2.2.2.1, y.2.2.2.2.2.1, y.2.2.2.2.2.2 ++ [a_an z.2.2.1 y.1 m]))) := by
  obtain ⟨a1, a2, a3, a4, a5, a6⟩ := id h
  rw [hy] at a6
  obtain ⟨s1, s2, s3, s4, s5, s6, s7, s8, s9⟩ := a6
  obtain ⟨m0, m1, m2, m3, m4, m5, -⟩ := hm
  obtain ⟨b1, b2, b3⟩ := m5 hk3
  simp only [Nat.reduceAdd] at m1 m2 b1
  have hx1 := mt_ix_nI (j := 2791) (n := 2880) (by decide) (by decide)
  have hx2 := mt_ix_nI (j := 2792) (n := 2880) (by decide) (by decide)
  have hfi := a3 m.2.1 (by omega)
  refine mt_P_of ?_
  cases hfx : z.2.2.1 m.2.1 with
  | none =>
    rw [hfx] at hfi
    have hfl := x_mfile0 (n := n) (w := w) (c := c) (f := f) (U := U) (t := 0) (k := m.2.1) (by decide) hnm (by rw [show 0 * 12 + m.2.1 = m.2.1 by omega]; exact hfi)
    have hmp := x_msgP (n := n) (w := w) (c := c) (f := f) (m := (5, m.2.1, m.2.2.1, nI 0, nI 0, [])) s9 hl1 (show (5 : Nat) ≠ 3 by decide) (fun e => rfl)
    simp only [k_MD_answer_0, k_MD_answer_24, k_MD_answer_31, mt_kk, mt_l0, lget, lput, mt_pop, g_nil, g_const, g_null, g_iload, g_aload, g_istore, g_astore, g_iinc, g_add, g_sub, g_mul, g_and, g_xor, g_div, g_rem, g_dup, g_dup2, g_pop, g_get, g_putI, g_putZ, g_putA, g_iald, g_zald, g_iast, g_zast, g_aald, g_aast, g_alen, g_new, g_newI, g_newA, g_objinit, l_fall, l_ifeq, l_ifne, l_iflt, l_ifge, l_ifgt, l_ifle, l_iceq, l_icne, l_iclt, l_icge, l_icgt, l_icle, l_nullN, l_nullS, l_nonnullN, l_nonnullS, l_acne, l_callV, l_callI, l_callS, l_ret, l_iret, l_zret, l_aret, l_after, List.length_cons, List.length_nil, Nat.reduceAdd, Nat.reduceLT, Nat.reduceLeDiff, Nat.reduceEqDiff, and_self, and_true, true_and, if_true, if_false, reduceIte, ite_true, ite_false, beq_self_eq_true, Nat.zero_add, Option.toList_some, Option.toList_none, List.cons_append, List.nil_append, gj_0, gj_1, gj_2, gj_3, gj_4, gj_5, gj_6, gj_7, gj_8, gj_9, gj_10, gj_11, gj_12, gj_13, gj_14, gj_15, gj_16, gj_17, gj_18, gj_19, gj_20, gj_21, gj_22, gj_23, gj_24, gj_25, gj_26, gj_27, pj_4, pj_5, pj_9, pj_10, pj_11, pj_12, pj_19, pj_20, pj_26, ij_1, ij_2, ij_3, ij_4, ij_5, ij_6, ij_7, ij_8, ij_9, ij_10, ij_11, ij_12, ij_13, ij_14, ij_15, ij_16, ij_17, ij_18, ij_19, vf_1, vf_2, vf_3, vf_4, vf_5, vf_6, vf_7, vf_8, vf_9, vf_10, vf_11, vf_12, vf_13, vf_14, vf_15, vf_16, vf_17, vf_18, vf_19, sj, nI_add, hx1, hx2, m1, m2, hfl, m1_nle]
    refine mt_call hmp ?_
    rintro r ⟨U1, rfl, g1, g2, -⟩
    simp only [k_MD_answer_41, mt_kk, mt_l0, lget, lput, mt_pop, g_nil, g_const, g_null, g_iload, g_aload, g_istore, g_astore, g_iinc, g_add, g_sub, g_mul, g_and, g_xor, g_div, g_rem, g_dup, g_dup2, g_pop, g_get, g_putI, g_putZ, g_putA, g_iald, g_zald, g_iast, g_zast, g_aald, g_aast, g_alen, g_new, g_newI, g_newA, g_objinit, l_fall, l_ifeq, l_ifne, l_iflt, l_ifge, l_ifgt, l_ifle, l_iceq, l_icne, l_iclt, l_icge, l_icgt, l_icle, l_nullN, l_nullS, l_nonnullN, l_nonnullS, l_acne, l_callV, l_callI, l_callS, l_ret, l_iret, l_zret, l_aret, l_after, List.length_cons, List.length_nil, Nat.reduceAdd, Nat.reduceLT, Nat.reduceLeDiff, Nat.reduceEqDiff, and_self, and_true, true_and, if_true, if_false, reduceIte, ite_true, ite_false, beq_self_eq_true, Nat.zero_add, Option.toList_some, Option.toList_none, List.cons_append, List.nil_append, gj_0, gj_1, gj_2, gj_3, gj_4, gj_5, gj_6, gj_7, gj_8, gj_9, gj_10, gj_11, gj_12, gj_13, gj_14, gj_15, gj_16, gj_17, gj_18, gj_19, gj_20, gj_21, gj_22, gj_23, gj_24, gj_25, gj_26, gj_27, pj_4, pj_5, pj_9, pj_10, pj_11, pj_12, pj_19, pj_20, pj_26, ij_1, ij_2, ij_3, ij_4, ij_5, ij_6, ij_7, ij_8, ij_9, ij_10, ij_11, ij_12, ij_13, ij_14, ij_15, ij_16, ij_17, ij_18, ij_19, vf_1, vf_2, vf_3, vf_4, vf_5, vf_6, vf_7, vf_8, vf_9, vf_10, vf_11, vf_12, vf_13, vf_14, vf_15, vf_16, vf_17, vf_18, vf_19, sj]
    have ean : a_an z.2.2.1 y.1 m = (5, m.2.1, m.2.2.1, nI 0, nI 0, []) := by unfold a_an; rw [hfx]; rfl
    have eac : a_ac z.2.2.1 z.2.2.2.2.1 y.1 m = z.2.2.2.2.1 := by unfold a_ac; rw [hfx]
    rw [ean, eac]
    exact ⟨U1, rfl, dR_new h hy (fun k hk => g2.2.1 k (by omega)) (fun q q1 q2 => g2.1 q (by omega) (by omega) (by omega)) (hR_congr (g2.2.1 20 (by decide)) (fun q q1 q2 => g2.1 q (by omega) (by omega) (by omega)) a4) (fun k hk => by rw [g2.1 19 (by decide) (by decide) (by decide)]; exact a5 k hk) (oR_congr (g2.2.1 12 (by decide)) (fun q q1 q2 => g2.1 q (by omega) (by omega) (by omega)) s6) (fun e => by rw [g2.1 11 (by decide) (by decide) (by decide)]; exact s7 e) (nR_other s8 g2 (by decide) (fun i hi => Or.inl (by have := s8.2.1; omega))) g1⟩
  | some u =>
    rw [hfx] at hfi
    obtain ⟨f1, f2, f3, f4, f5⟩ := hfi
    have hfl := x_mfile (n := n) (w := w) (c := c) (f := f) (U := U) (t := 0) (k := m.2.1) (by decide) hnm (by rw [show 0 * 12 + m.2.1 = m.2.1 by omega]; exact f1)
    rw [show 0 * 12 + m.2.1 = m.2.1 by omega] at hfl
    have h40 := f5.1
    simp only [k_MD_answer_0, k_MD_answer_24, k_MD_answer_42, mt_kk, mt_l0, lget, lput, mt_pop, g_nil, g_const, g_null, g_iload, g_aload, g_istore, g_astore, g_iinc, g_add, g_sub, g_mul, g_and, g_xor, g_div, g_rem, g_dup, g_dup2, g_pop, g_get, g_putI, g_putZ, g_putA, g_iald, g_zald, g_iast, g_zast, g_aald, g_aast, g_alen, g_new, g_newI, g_newA, g_objinit, l_fall, l_ifeq, l_ifne, l_iflt, l_ifge, l_ifgt, l_ifle, l_iceq, l_icne, l_iclt, l_icge, l_icgt, l_icle, l_nullN, l_nullS, l_nonnullN, l_nonnullS, l_acne, l_callV, l_callI, l_callS, l_ret, l_iret, l_zret, l_aret, l_after, List.length_cons, List.length_nil, Nat.reduceAdd, Nat.reduceLT, Nat.reduceLeDiff, Nat.reduceEqDiff, and_self, and_true, true_and, if_true, if_false, reduceIte, ite_true, ite_false, beq_self_eq_true, Nat.zero_add, Option.toList_some, Option.toList_none, List.cons_append, List.nil_append, gj_0, gj_1, gj_2, gj_3, gj_4, gj_5, gj_6, gj_7, gj_8, gj_9, gj_10, gj_11, gj_12, gj_13, gj_14, gj_15, gj_16, gj_17, gj_18, gj_19, gj_20, gj_21, gj_22, gj_23, gj_24, gj_25, gj_26, gj_27, pj_4, pj_5, pj_9, pj_10, pj_11, pj_12, pj_19, pj_20, pj_26, ij_1, ij_2, ij_3, ij_4, ij_5, ij_6, ij_7, ij_8, ij_9, ij_10, ij_11, ij_12, ij_13, ij_14, ij_15, ij_16, ij_17, ij_18, ij_19, vf_1, vf_2, vf_3, vf_4, vf_5, vf_6, vf_7, vf_8, vf_9, vf_10, vf_11, vf_12, vf_13, vf_14, vf_15, vf_16, vf_17, vf_18, vf_19, sj, nI_add, hx1, hx2, m1, m2, hfl, nI_nn (j := m.2.1) (by omega)]
    have e0 : (-2128831035 : Int32) = dg (fun i => u.1.getD i 0) 0 := by simp only [dg]
    rw [e0]
    refine lp_mdig (by omega) h40 f2 f4 _ ?_ u.1.length 0 (by omega)
    have hmp := x_msgP (n := n) (w := w) (c := c) (f := f) (m := (4, m.2.1, m.2.2.1, dg (fun i => u.1.getD i 0) u.1.length, nI 0, [])) s9 hl1 (show (4 : Nat) ≠ 3 by decide) (fun e => rfl)
    simp only [k_MD_answer_88, mt_kk, mt_l0, lget, lput, mt_pop, g_nil, g_const, g_null, g_iload, g_aload, g_istore, g_astore, g_iinc, g_add, g_sub, g_mul, g_and, g_xor, g_div, g_rem, g_dup, g_dup2, g_pop, g_get, g_putI, g_putZ, g_putA, g_iald, g_zald, g_iast, g_zast, g_aald, g_aast, g_alen, g_new, g_newI, g_newA, g_objinit, l_fall, l_ifeq, l_ifne, l_iflt, l_ifge, l_ifgt, l_ifle, l_iceq, l_icne, l_iclt, l_icge, l_icgt, l_icle, l_nullN, l_nullS, l_nonnullN, l_nonnullS, l_acne, l_callV, l_callI, l_callS, l_ret, l_iret, l_zret, l_aret, l_after, List.length_cons, List.length_nil, Nat.reduceAdd, Nat.reduceLT, Nat.reduceLeDiff, Nat.reduceEqDiff, and_self, and_true, true_and, if_true, if_false, reduceIte, ite_true, ite_false, beq_self_eq_true, Nat.zero_add, Option.toList_some, Option.toList_none, List.cons_append, List.nil_append, gj_0, gj_1, gj_2, gj_3, gj_4, gj_5, gj_6, gj_7, gj_8, gj_9, gj_10, gj_11, gj_12, gj_13, gj_14, gj_15, gj_16, gj_17, gj_18, gj_19, gj_20, gj_21, gj_22, gj_23, gj_24, gj_25, gj_26, gj_27, pj_4, pj_5, pj_9, pj_10, pj_11, pj_12, pj_19, pj_20, pj_26, ij_1, ij_2, ij_3, ij_4, ij_5, ij_6, ij_7, ij_8, ij_9, ij_10, ij_11, ij_12, ij_13, ij_14, ij_15, ij_16, ij_17, ij_18, ij_19, vf_1, vf_2, vf_3, vf_4, vf_5, vf_6, vf_7, vf_8, vf_9, vf_10, vf_11, vf_12, vf_13, vf_14, vf_15, vf_16, vf_17, vf_18, vf_19, sj]
    refine mt_call hmp ?_
    rintro r ⟨U1, rfl, g1, g2, g3, g4, g5⟩
    simp only [k_MD_answer_99, mt_kk, mt_l0, lget, lput, mt_pop, g_nil, g_const, g_null, g_iload, g_aload, g_istore, g_astore, g_iinc, g_add, g_sub, g_mul, g_and, g_xor, g_div, g_rem, g_dup, g_dup2, g_pop, g_get, g_putI, g_putZ, g_putA, g_iald, g_zald, g_iast, g_zast, g_aald, g_aast, g_alen, g_new, g_newI, g_newA, g_objinit, l_fall, l_ifeq, l_ifne, l_iflt, l_ifge, l_ifgt, l_ifle, l_iceq, l_icne, l_iclt, l_icge, l_icgt, l_icle, l_nullN, l_nullS, l_nonnullN, l_nonnullS, l_acne, l_callV, l_callI, l_callS, l_ret, l_iret, l_zret, l_aret, l_after, List.length_cons, List.length_nil, Nat.reduceAdd, Nat.reduceLT, Nat.reduceLeDiff, Nat.reduceEqDiff, and_self, and_true, true_and, if_true, if_false, reduceIte, ite_true, ite_false, beq_self_eq_true, Nat.zero_add, Option.toList_some, Option.toList_none, List.cons_append, List.nil_append, gj_0, gj_1, gj_2, gj_3, gj_4, gj_5, gj_6, gj_7, gj_8, gj_9, gj_10, gj_11, gj_12, gj_13, gj_14, gj_15, gj_16, gj_17, gj_18, gj_19, gj_20, gj_21, gj_22, gj_23, gj_24, gj_25, gj_26, gj_27, pj_4, pj_5, pj_9, pj_10, pj_11, pj_12, pj_19, pj_20, pj_26, ij_1, ij_2, ij_3, ij_4, ij_5, ij_6, ij_7, ij_8, ij_9, ij_10, ij_11, ij_12, ij_13, ij_14, ij_15, ij_16, ij_17, ij_18, ij_19, vf_1, vf_2, vf_3, vf_4, vf_5, vf_6, vf_7, vf_8, vf_9, vf_10, vf_11, vf_12, vf_13, vf_14, vf_15, vf_16, vf_17, vf_18, vf_19, sj]
    have hl13 := hl1
    refine lp_mfill (U0 := U1) (a := 1440 * 1 + 90 * y.2.2.2.2.2.2.length) (blk := y.1) (l := u.1) (s := m.2.2.2.2.2) (full := a_dl u.1 m.2.2.2.2.2 y.1 m.2.2.1 u.1.length 0) (ctf := a_dc z.2.2.2.2.1 (a_dl u.1 m.2.2.2.2.2 y.1 m.2.2.1 u.1.length 0)) ⟨by omega, by omega⟩ (by omega) (by rw [g2.2.1 10 (by decide)]; exact s2) g3 s3 s4 hat f5 (by rw [g2.1 2 (by decide) (by decide) (by decide)]; exact f2) (fun j hj => by rw [g2.1 4 (by decide) (by decide) (by decide)]; exact f4 j hj) b2 hx (by rw [g2.2.2.2 2795 (by omega)]; exact b1) (fun j hj => by rw [g2.2.2.2 _ (by omega), g2.2.2.2 _ (by omega)]; exact b3 j hj) _ (fun U2 k1 k2 k3 k4 k5 => ?_) u.1.length 0 U1 [] z.2.2.2.2.1 _ (by omega) (by omega) (Nat.le_refl _) (by decide) g4 (fun j hj => by cases hj) (fun k hk => by rw [g2.1 19 (by decide) (by decide) (by decide)]; exact a5 k hk) (fun _ _ _ => rfl) (fun _ _ => rfl) rfl rfl
    have ean : a_an z.2.2.1 y.1 m = (4, m.2.1, m.2.2.1, dg (fun i => u.1.getD i 0) u.1.length, nI 0, a_dl u.1 m.2.2.2.2.2 y.1 m.2.2.1 u.1.length 0) := by unfold a_an; rw [hfx]; rfl
    have eac : a_ac z.2.2.1 z.2.2.2.2.1 y.1 m = a_dc z.2.2.2.2.1 (a_dl u.1 m.2.2.2.2.2 y.1 m.2.2.1 u.1.length 0) := by unfold a_ac; rw [hfx]
    rw [ean, eac]
    have gg : ∀ q, q ≠ 0 → q ≠ 12 → q ≠ 13 → q ≠ 19 → U2 q = U q := fun q q1 q2 q3 q4 => by rw [k4 q q3 q4]; exact g2.1 q q1 q2 q3
    have g0 : ∀ k, k ≠ 19 → U2 0 k = U 0 k := fun k hk => by rw [k4 0 (by decide) (by decide)]; exact g2.2.1 k hk
    refine ⟨U2, rfl, dR_new h hy (fun k hk => g0 k (by omega)) (fun q q1 q2 => gg q (by omega) (by omega) (by omega) (by omega)) (hR_congr (g0 20 (by decide)) (fun q q1 q2 => gg q (by omega) (by omega) (by omega) (by omega)) a4) k3 (oR_congr (g0 12 (by decide)) (fun q q1 q2 => gg q (by omega) (by omega) (by omega) (by omega)) s6) (fun e => by rw [gg 11 (by decide) (by decide) (by decide) (by decide)]; exact s7 e) ?_ ?_⟩
    · refine nR_congr (by rw [k4 12 (by decide) (by decide)]; exact g2.2.2.1 0 (by decide)) (fun i hi => ?_) s8
      have := s8.2.1
      rw [k5 _ (by omega)]; exact g2.2.2.2 _ (by omega)
    · refine nR_new s9 hl1 (by rw [k4 12 (by decide) (by decide)]; exact g5) (fun i hi => by rw [k5 i (by omega)]; exact g2.2.2.2 i (by omega)) ?_
      have hmm := g1.2.2 y.2.2.2.2.2.2.length (4, m.2.1, m.2.2.1, dg (fun i => u.1.getD i 0) u.1.length, nI 0, []) (by rw [List.getElem?_append_right (Nat.le_refl _), Nat.sub_self]; rfl)
      obtain ⟨n0, n1, n2, n3, n4, -⟩ := hmm
      exact ⟨by rw [k5 _ (by omega)]; exact n0, by rw [k5 _ (by omega)]; exact n1, by rw [k5 _ (by omega)]; exact n2, by rw [k5 _ (by omega)]; exact n3, by rw [k5 _ (by omega)]; exact n4, fun e => (by cases e), fun _ => ⟨k1, Nat.le_trans (dl_len _ _) h40, k2⟩⟩
end MD
