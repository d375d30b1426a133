/-! The reference: a delta is received. -/
def rB (U : v_N) (l : List Nat) : Prop := U 0 26 = nI l.length ∧ ∀ j, j < l.length → U 18 j = nI (l.getD j 0)
theorem rB_add {U : v_N} {x : Nat} {l : List Nat} (h : rB U l) : rB (vu (vu U 18 l.length (nI x)) 0 26 (nI (l.length + 1))) (l ++ [x]) := by
  refine ⟨?_, fun j hj => ?_⟩
  · rw [vu_same, List.length_append]; rfl
  · rw [up_ne (by decide), gd_app]
    by_cases hc : j = l.length
    · subst hc; rw [vu_same, if_pos rfl]
    · rw [vu_slot hc, if_neg hc]
      rw [List.length_append, List.length_cons, List.length_nil] at hj
      exact h.2 j (by omega)
def fB (U0 U : v_N) : Prop := (∀ q, q ≠ 0 → q ≠ 18 → U q = U0 q) ∧ ∀ k, k ≠ 26 → U 0 k = U0 0 k
theorem fB_add {U0 U : v_N} {i : Nat} {x y : Int32} (h : fB U0 U) : fB U0 (vu (vu U 18 i x) 0 26 y) := ⟨fun q q1 q2 => by rw [vu_off q1, vu_off q2]; exact h.1 q q1 q2, fun k hk => by rw [vu_slot hk, up_ne (by decide)]; exact h.2 k hk⟩
section MD
variable {n w c : Nat} {f : Nat → Option m_E}
theorem lp_rbc {U0 : v_N} {fF : Int32} {p0 x p k blk : Nat} {old l : List Nat} (hF : (fF = -1 ∧ old = []) ∨ (fF = nI p0 ∧ p0 < 24 ∧ U0 2 p0 = nI old.length ∧ ∀ j, j < old.length → U0 4 (40 * p0 + j) = nI (old.getD j 0))) (hold : old.length ≤ 40) (hb0 : U0 0 10 = nI blk) (hx : 256 ≤ x) (hx2 : x < 1000) (hpb : p + blk < 10000) (hl : (l ++ a_rb1 old p blk).length ≤ 40) (Q : m_R → Prop) (hq : ∀ (U1 : v_N) (j7 : Option m_V), rB U1 (l ++ a_rb1 old p blk) → fB U0 U1 → mt_T cd_MD_rebuild 184 ([some (.inr (some c)), some (.inl (nI 2790)), some (.inl fF), some (.inl (nI k)), some (.inl (nI x)), some (.inl (nI p)), some (.inl (nI (p + blk))), j7], [], (n, w, imr c U1 f)) Q) (d : Nat) : ∀ (i : Nat) (U : v_N) (j7 : Option m_V), i + d = blk → rB U (l ++ a_rb1 old p i) → fB U0 U → mt_T cd_MD_rebuild 75 ([some (.inr (some c)), some (.inl (nI 2790)), some (.inl fF), some (.inl (nI k)), some (.inl (nI x)), some (.inl (nI p)), some (.inl (nI (p + i))), j7], [], (n, w, imr c U f)) Q := by
  have e256 : (nI 256 ≤ nI x) = True := eq_true (nI_le hx (by omega))
  have e256' : (nI x < nI 256) = False := eq_false (nI_nlt hx (by omega))
  induction d with
  | zero =>
    intro i U j7 hd h1 h2
    have hd : i = blk := hd
    subst hd
    have hb : U 0 10 = nI i := by rw [h2.2 10 (by decide)]; exact hb0
    rw [k_MD_rebuild_75]
    simp only [k_MD_rebuild_91, k_MD_rebuild_95, mt_kk, mt_l0, lget, lput, mt_pop, g_nil, g_const, g_null, g_iload, g_aload, g_istore, g_astore, g_iinc, g_add, g_sub, g_mul, g_and, g_xor, g_div, g_rem, g_dup, g_dup2, g_pop, g_get, g_putI, g_putZ, g_putA, g_iald, g_zald, g_iast, g_zast, g_aald, g_aast, g_alen, g_new, g_newI, g_newA, g_objinit, l_fall, l_ifeq, l_ifne, l_iflt, l_ifge, l_ifgt, l_ifle, l_iceq, l_icne, l_iclt, l_icge, l_icgt, l_icle, l_nullN, l_nullS, l_nonnullN, l_nonnullS, l_acne, l_callV, l_callI, l_callS, l_ret, l_iret, l_zret, l_aret, l_after, List.length_cons, List.length_nil, Nat.reduceAdd, Nat.reduceLT, Nat.reduceLeDiff, Nat.reduceEqDiff, and_self, and_true, true_and, if_true, if_false, reduceIte, ite_true, ite_false, beq_self_eq_true, Nat.zero_add, Option.toList_some, Option.toList_none, List.cons_append, List.nil_append, gj_0, gj_1, gj_2, gj_3, gj_4, gj_5, gj_6, gj_7, gj_8, gj_9, gj_10, gj_11, gj_12, gj_13, gj_14, gj_15, gj_16, gj_17, gj_18, gj_19, gj_20, gj_21, gj_22, gj_23, gj_24, gj_25, gj_26, gj_27, pj_4, pj_5, pj_9, pj_10, pj_11, pj_12, pj_19, pj_20, pj_26, ij_1, ij_2, ij_3, ij_4, ij_5, ij_6, ij_7, ij_8, ij_9, ij_10, ij_11, ij_12, ij_13, ij_14, ij_15, ij_16, ij_17, ij_18, ij_19, vf_1, vf_2, vf_3, vf_4, vf_5, vf_6, vf_7, vf_8, vf_9, vf_10, vf_11, vf_12, vf_13, vf_14, vf_15, vf_16, vf_17, vf_18, vf_19, sj, e256, hb, nI_add, eq_true (Int32.le_refl (nI (p + i)))]
    exact hq U j7 h1 h2
  | succ d ih =>
    intro i U j7 hd h1 h2
    have hb : U 0 10 = nI blk := by rw [h2.2 10 (by decide)]; exact hb0
    have elt : (nI (p + blk) ≤ nI (p + i)) = False := eq_false (nI_ge (by omega) (by omega))
    have hle := rb1_le (old := old) (p := p) (show i + 1 ≤ blk by omega)
    rw [List.length_append] at hl
    by_cases hh : p + i < old.length
    · rcases hF with ⟨-, ho⟩ | ⟨rfl, hp0, hsz, hby⟩
      · rw [ho] at hh; simp at hh
      · have hsz2 : U 2 p0 = nI old.length := by rw [h2.1 2 (by decide) (by decide)]; exact hsz
        have hxp := mt_ix_nI (j := p0) (n := 24) hp0 (by decide)
        have hxb := mt_ix_nI (j := 40 * p0 + (p + i)) (n := 960) (by omega) (by decide)
        have hgb : U 4 (40 * p0 + (p + i)) = nI (old.getD (p + i) 0) := by rw [h2.1 4 (by decide) (by decide)]; exact hby _ hh
        have hlt : (l ++ a_rb1 old p i).length < 40 := by
          simp only [a_rb1, if_pos hh, List.length_append, List.length_cons, List.length_nil] at hle ⊢
          omega
        have hxr := mt_ix_nI (j := (l ++ a_rb1 old p i).length) (n := 40) hlt (by decide)
        have egs : (nI old.length ≤ nI (p + i)) = False := eq_false (nI_ge hh (by omega))
        have h6 := ih (i + 1) (vu (vu U 18 (l ++ a_rb1 old p i).length (nI (old.getD (p + i) 0))) 0 26 (nI ((l ++ a_rb1 old p i).length + 1))) (some (.inl (nI 1))) (by omega) (by simp only [a_rb1, if_pos hh]; rw [← List.append_assoc]; exact rB_add h1) (fB_add h2)
        rw [show p + (i + 1) = p + i + 1 by omega] at h6
        have h26 := h1.1
        generalize (l ++ a_rb1 old p i).length = L at hxr h6 h26
        rw [k_MD_rebuild_75]
        simp only [k_MD_rebuild_91, k_MD_rebuild_95, k_MD_rebuild_99, k_MD_rebuild_107, k_MD_rebuild_111, k_MD_rebuild_122, k_MD_rebuild_127, k_MD_rebuild_134, k_MD_rebuild_155, k_MD_rebuild_167, k_MD_rebuild_178, mt_kk, mt_l0, lget, lput, mt_pop, g_nil, g_const, g_null, g_iload, g_aload, g_istore, g_astore, g_iinc, g_add, g_sub, g_mul, g_and, g_xor, g_div, g_rem, g_dup, g_dup2, g_pop, g_get, g_putI, g_putZ, g_putA, g_iald, g_zald, g_iast, g_zast, g_aald, g_aast, g_alen, g_new, g_newI, g_newA, g_objinit, l_fall, l_ifeq, l_ifne, l_iflt, l_ifge, l_ifgt, l_ifle, l_iceq, l_icne, l_iclt, l_icge, l_icgt, l_icle, l_nullN, l_nullS, l_nonnullN, l_nonnullS, l_acne, l_callV, l_callI, l_callS, l_ret, l_iret, l_zret, l_aret, l_after, List.length_cons, List.length_nil, Nat.reduceAdd, Nat.reduceLT, Nat.reduceLeDiff, Nat.reduceEqDiff, and_self, and_true, true_and, if_true, if_false, reduceIte, ite_true, ite_false, beq_self_eq_true, Nat.zero_add, Option.toList_some, Option.toList_none, List.cons_append, List.nil_append, gj_0, gj_1, gj_2, gj_3, gj_4, gj_5, gj_6, gj_7, gj_8, gj_9, gj_10, gj_11, gj_12, gj_13, gj_14, gj_15, gj_16, gj_17, gj_18, gj_19, gj_20, gj_21, gj_22, gj_23, gj_24, gj_25, gj_26, gj_27, pj_4, pj_5, pj_9, pj_10, pj_11, pj_12, pj_19, pj_20, pj_26, ij_1, ij_2, ij_3, ij_4, ij_5, ij_6, ij_7, ij_8, ij_9, ij_10, ij_11, ij_12, ij_13, ij_14, ij_15, ij_16, ij_17, ij_18, ij_19, vf_1, vf_2, vf_3, vf_4, vf_5, vf_6, vf_7, vf_8, vf_9, vf_10, vf_11, vf_12, vf_13, vf_14, vf_15, vf_16, vf_17, vf_18, vf_19, sj, e256, e256', hb, nI_add, elt, nI_neg (j := p0) (by omega), hxp, hsz2, egs, e_1, pk_mul, hxb, hgb, h26, hxr, up_ne (show 0 ≠ 18 by decide)]
        exact h6
    · have h6 := ih (i + 1) U (some (.inl (nI 0))) (by omega) (by simp only [a_rb1, if_neg hh, List.append_nil]; exact h1) h2
      rw [show p + (i + 1) = p + i + 1 by omega] at h6
      rcases hF with ⟨rfl, ho⟩ | ⟨rfl, hp0, hsz, hby⟩
      · rw [k_MD_rebuild_75]
        simp only [k_MD_rebuild_91, k_MD_rebuild_95, k_MD_rebuild_99, k_MD_rebuild_107, k_MD_rebuild_126, k_MD_rebuild_127, k_MD_rebuild_178, mt_kk, mt_l0, lget, lput, mt_pop, g_nil, g_const, g_null, g_iload, g_aload, g_istore, g_astore, g_iinc, g_add, g_sub, g_mul, g_and, g_xor, g_div, g_rem, g_dup, g_dup2, g_pop, g_get, g_putI, g_putZ, g_putA, g_iald, g_zald, g_iast, g_zast, g_aald, g_aast, g_alen, g_new, g_newI, g_newA, g_objinit, l_fall, l_ifeq, l_ifne, l_iflt, l_ifge, l_ifgt, l_ifle, l_iceq, l_icne, l_iclt, l_icge, l_icgt, l_icle, l_nullN, l_nullS, l_nonnullN, l_nonnullS, l_acne, l_callV, l_callI, l_callS, l_ret, l_iret, l_zret, l_aret, l_after, List.length_cons, List.length_nil, Nat.reduceAdd, Nat.reduceLT, Nat.reduceLeDiff, Nat.reduceEqDiff, and_self, and_true, true_and, if_true, if_false, reduceIte, ite_true, ite_false, beq_self_eq_true, Nat.zero_add, Option.toList_some, Option.toList_none, List.cons_append, List.nil_append, gj_0, gj_1, gj_2, gj_3, gj_4, gj_5, gj_6, gj_7, gj_8, gj_9, gj_10, gj_11, gj_12, gj_13, gj_14, gj_15, gj_16, gj_17, gj_18, gj_19, gj_20, gj_21, gj_22, gj_23, gj_24, gj_25, gj_26, gj_27, pj_4, pj_5, pj_9, pj_10, pj_11, pj_12, pj_19, pj_20, pj_26, ij_1, ij_2, ij_3, ij_4, ij_5, ij_6, ij_7, ij_8, ij_9, ij_10, ij_11, ij_12, ij_13, ij_14, ij_15, ij_16, ij_17, ij_18, ij_19, vf_1, vf_2, vf_3, vf_4, vf_5, vf_6, vf_7, vf_8, vf_9, vf_10, vf_11, vf_12, vf_13, vf_14, vf_15, vf_16, vf_17, vf_18, vf_19, sj, e256, e256', hb, nI_add, elt, m1_neg, e_0]
        exact h6
      · have hsz2 : U 2 p0 = nI old.length := by rw [h2.1 2 (by decide) (by decide)]; exact hsz
        have hxp := mt_ix_nI (j := p0) (n := 24) hp0 (by decide)
        have egs : (nI old.length ≤ nI (p + i)) = True := eq_true (nI_le (by omega) (by omega))
        rw [k_MD_rebuild_75]
        simp only [k_MD_rebuild_91, k_MD_rebuild_95, k_MD_rebuild_99, k_MD_rebuild_107, k_MD_rebuild_111, k_MD_rebuild_126, k_MD_rebuild_127, k_MD_rebuild_178, mt_kk, mt_l0, lget, lput, mt_pop, g_nil, g_const, g_null, g_iload, g_aload, g_istore, g_astore, g_iinc, g_add, g_sub, g_mul, g_and, g_xor, g_div, g_rem, g_dup, g_dup2, g_pop, g_get, g_putI, g_putZ, g_putA, g_iald, g_zald, g_iast, g_zast, g_aald, g_aast, g_alen, g_new, g_newI, g_newA, g_objinit, l_fall, l_ifeq, l_ifne, l_iflt, l_ifge, l_ifgt, l_ifle, l_iceq, l_icne, l_iclt, l_icge, l_icgt, l_icle, l_nullN, l_nullS, l_nonnullN, l_nonnullS, l_acne, l_callV, l_callI, l_callS, l_ret, l_iret, l_zret, l_aret, l_after, List.length_cons, List.length_nil, Nat.reduceAdd, Nat.reduceLT, Nat.reduceLeDiff, Nat.reduceEqDiff, and_self, and_true, true_and, if_true, if_false, reduceIte, ite_true, ite_false, beq_self_eq_true, Nat.zero_add, Option.toList_some, Option.toList_none, List.cons_append, List.nil_append, gj_0, gj_1, gj_2, gj_3, gj_4, gj_5, gj_6, gj_7, gj_8, gj_9, gj_10, gj_11, gj_12, gj_13, gj_14, gj_15, gj_16, gj_17, gj_18, gj_19, gj_20, gj_21, gj_22, gj_23, gj_24, gj_25, gj_26, gj_27, pj_4, pj_5, pj_9, pj_10, pj_11, pj_12, pj_19, pj_20, pj_26, ij_1, ij_2, ij_3, ij_4, ij_5, ij_6, ij_7, ij_8, ij_9, ij_10, ij_11, ij_12, ij_13, ij_14, ij_15, ij_16, ij_17, ij_18, ij_19, vf_1, vf_2, vf_3, vf_4, vf_5, vf_6, vf_7, vf_8, vf_9, vf_10, vf_11, vf_12, vf_13, vf_14, vf_15, vf_16, vf_17, vf_18, vf_19, sj, e256, e256', hb, nI_add, elt, nI_neg (j := p0) (by omega), hxp, hsz2, egs, e_0]
        exact h6
theorem lp_mrb {U0 : v_N} {fF : Int32} {p0 blk : Nat} {items old R : List Nat} (hF : (fF = -1 ∧ old = []) ∨ (fF = nI p0 ∧ p0 < 24 ∧ U0 2 p0 = nI old.length ∧ ∀ j, j < old.length → U0 4 (40 * p0 + j) = nI (old.getD j 0))) (hold : old.length ≤ 40) (hb0 : U0 0 10 = nI blk) (hb8 : blk ≤ 8) (hl40 : items.length ≤ 40) (hx : ∀ x ∈ items, x < 1000) (h5 : U0 13 2795 = nI items.length) (hc : ∀ j, j < items.length → U0 13 (2790 + 6 + j) = nI (items.getD j 0)) (Q : m_R → Prop) (hq : ∀ (U1 : v_N) (j4 j5 j6 j7 : Option m_V), rB U1 R → fB U0 U1 → mt_T cd_MD_rebuild 190 ([some (.inr (some c)), some (.inl (nI 2790)), some (.inl fF), some (.inl (nI items.length)), j4, j5, j6, j7], [], (n, w, imr c U1 f)) Q) (d : Nat) : ∀ (i : Nat) (U : v_N) (acc : List Nat) (j4 j5 j6 j7 : Option m_V), i + d = items.length → rB U acc → acc.length + a_sz blk (items.drop i) ≤ 40 → a_rb old blk acc (items.drop i) = R → fB U0 U → mt_T cd_MD_rebuild 21 ([some (.inr (some c)), some (.inl (nI 2790)), some (.inl fF), some (.inl (nI i)), j4, j5, j6, j7], [], (n, w, imr c U f)) Q := by
  have hx5 := mt_ix_nI (j := 2795) (n := 2880) (by decide) (by decide)
  induction d with
  | zero =>
    intro i U acc j4 j5 j6 j7 hd h1 h2 h3 h4
    have hd : i = items.length := hd
    subst hd
    rw [List.drop_length] at h3
    have h3 : acc = R := h3
    subst h3
    have e5 : U 13 2795 = nI items.length := by rw [h4.1 13 (by decide) (by decide)]; exact h5
    rw [k_MD_rebuild_21]
    simp only [mt_kk, mt_l0, lget, lput, mt_pop, g_nil, g_const, g_null, g_iload, g_aload, g_istore, g_astore, g_iinc, g_add, g_sub, g_mul, g_and, g_xor, g_div, g_rem, g_dup, g_dup2, g_pop, g_get, g_putI, g_putZ, g_putA, g_iald, g_zald, g_iast, g_zast, g_aald, g_aast, g_alen, g_new, g_newI, g_newA, g_objinit, l_fall, l_ifeq, l_ifne, l_iflt, l_ifge, l_ifgt, l_ifle, l_iceq, l_icne, l_iclt, l_icge, l_icgt, l_icle, l_nullN, l_nullS, l_nonnullN, l_nonnullS, l_acne, l_callV, l_callI, l_callS, l_ret, l_iret, l_zret, l_aret, l_after, List.length_cons, List.length_nil, Nat.reduceAdd, Nat.reduceLT, Nat.reduceLeDiff, Nat.reduceEqDiff, and_self, and_true, true_and, if_true, if_false, reduceIte, ite_true, ite_false, beq_self_eq_true, Nat.zero_add, Option.toList_some, Option.toList_none, List.cons_append, List.nil_append, gj_0, gj_1, gj_2, gj_3, gj_4, gj_5, gj_6, gj_7, gj_8, gj_9, gj_10, gj_11, gj_12, gj_13, gj_14, gj_15, gj_16, gj_17, gj_18, gj_19, gj_20, gj_21, gj_22, gj_23, gj_24, gj_25, gj_26, gj_27, pj_4, pj_5, pj_9, pj_10, pj_11, pj_12, pj_19, pj_20, pj_26, ij_1, ij_2, ij_3, ij_4, ij_5, ij_6, ij_7, ij_8, ij_9, ij_10, ij_11, ij_12, ij_13, ij_14, ij_15, ij_16, ij_17, ij_18, ij_19, vf_1, vf_2, vf_3, vf_4, vf_5, vf_6, vf_7, vf_8, vf_9, vf_10, vf_11, vf_12, vf_13, vf_14, vf_15, vf_16, vf_17, vf_18, vf_19, sj, nI_add, hx5, e5, eq_true (Int32.le_refl (nI items.length))]
    exact hq U j4 j5 j6 j7 h1 h4
  | succ d ih =>
    intro i U acc j4 j5 j6 j7 hd h1 h2 h3 h4
    have hil : i < items.length := by omega
    have e5 : U 13 2795 = nI items.length := by rw [h4.1 13 (by decide) (by decide)]; exact h5
    have hx6 := mt_ix_nI (j := 2796 + i) (n := 2880) (by omega) (by decide)
    have e6 : U 13 (2796 + i) = nI (items.getD i 0) := by rw [h4.1 13 (by decide) (by decide)]; exact hc i hil
    have hdr : items.drop i = items.getD i 0 :: items.drop (i + 1) := by
      rw [List.drop_eq_getElem_cons hil]
      congr 1
      rw [List.getD_eq_getElem?_getD, List.getElem?_eq_getElem hil]
      rfl
    have hxb : items.getD i 0 < 1000 := by
      rw [List.getD_eq_getElem?_getD, List.getElem?_eq_getElem hil]
      exact hx _ (List.getElem_mem _)
    have hb : U 0 10 = nI blk := by rw [h4.2 10 (by decide)]; exact hb0
    rw [hdr] at h2 h3
    generalize items.getD i 0 = x at hxb h2 h3 e6
    simp only [a_sz] at h2
    simp only [a_rb] at h3
    have e1 : (nI items.length ≤ nI i) = False := eq_false (nI_ge hil (by omega))
    rw [k_MD_rebuild_21]
    by_cases hcx : x < 256
    · rw [if_pos hcx] at h2 h3
      have e2 : (nI 256 ≤ nI x) = False := eq_false (nI_ge hcx (by decide))
      have e2' : (nI x < nI 256) = True := eq_true (nI_lt hcx (by decide))
      have hxr := mt_ix_nI (j := acc.length) (n := 40) (by omega) (by decide)
      simp only [k_MD_rebuild_33, k_MD_rebuild_54, k_MD_rebuild_69, mt_kk, mt_l0, lget, lput, mt_pop, g_nil, g_const, g_null, g_iload, g_aload, g_istore, g_astore, g_iinc, g_add, g_sub, g_mul, g_and, g_xor, g_div, g_rem, g_dup, g_dup2, g_pop, g_get, g_putI, g_putZ, g_putA, g_iald, g_zald, g_iast, g_zast, g_aald, g_aast, g_alen, g_new, g_newI, g_newA, g_objinit, l_fall, l_ifeq, l_ifne, l_iflt, l_ifge, l_ifgt, l_ifle, l_iceq, l_icne, l_iclt, l_icge, l_icgt, l_icle, l_nullN, l_nullS, l_nonnullN, l_nonnullS, l_acne, l_callV, l_callI, l_callS, l_ret, l_iret, l_zret, l_aret, l_after, List.length_cons, List.length_nil, Nat.reduceAdd, Nat.reduceLT, Nat.reduceLeDiff, Nat.reduceEqDiff, and_self, and_true, true_and, if_true, if_false, reduceIte, ite_true, ite_false, beq_self_eq_true, Nat.zero_add, Option.toList_some, Option.toList_none, List.cons_append, List.nil_append, gj_0, gj_1, gj_2, gj_3, gj_4, gj_5, gj_6, gj_7, gj_8, gj_9, gj_10, gj_11, gj_12, gj_13, gj_14, gj_15, gj_16, gj_17, gj_18, gj_19, gj_20, gj_21, gj_22, gj_23, gj_24, gj_25, gj_26, gj_27, pj_4, pj_5, pj_9, pj_10, pj_11, pj_12, pj_19, pj_20, pj_26, ij_1, ij_2, ij_3, ij_4, ij_5, ij_6, ij_7, ij_8, ij_9, ij_10, ij_11, ij_12, ij_13, ij_14, ij_15, ij_16, ij_17, ij_18, ij_19, vf_1, vf_2, vf_3, vf_4, vf_5, vf_6, vf_7, vf_8, vf_9, vf_10, vf_11, vf_12, vf_13, vf_14, vf_15, vf_16, vf_17, vf_18, vf_19, sj, nI_add, hx5, e5, e1, hx6, e6, e2, e2', eq_false (show ¬ nI 1 ≤ nI 0 by decide), e_1, h1.1, hxr, up_ne (show 0 ≠ 18 by decide), eq_true (show nI 1 ≤ nI 1 by decide)]
      rw [k_MD_rebuild_75]
      simp only [k_MD_rebuild_87, k_MD_rebuild_95, k_MD_rebuild_99, k_MD_rebuild_122, k_MD_rebuild_127, mt_kk, mt_l0, lget, lput, mt_pop, g_nil, g_const, g_null, g_iload, g_aload, g_istore, g_astore, g_iinc, g_add, g_sub, g_mul, g_and, g_xor, g_div, g_rem, g_dup, g_dup2, g_pop, g_get, g_putI, g_putZ, g_putA, g_iald, g_zald, g_iast, g_zast, g_aald, g_aast, g_alen, g_new, g_newI, g_newA, g_objinit, l_fall, l_ifeq, l_ifne, l_iflt, l_ifge, l_ifgt, l_ifle, l_iceq, l_icne, l_iclt, l_icge, l_icgt, l_icle, l_nullN, l_nullS, l_nonnullN, l_nonnullS, l_acne, l_callV, l_callI, l_callS, l_ret, l_iret, l_zret, l_aret, l_after, List.length_cons, List.length_nil, Nat.reduceAdd, Nat.reduceLT, Nat.reduceLeDiff, Nat.reduceEqDiff, and_self, and_true, true_and, if_true, if_false, reduceIte, ite_true, ite_false, beq_self_eq_true, Nat.zero_add, Option.toList_some, Option.toList_none, List.cons_append, List.nil_append, gj_0, gj_1, gj_2, gj_3, gj_4, gj_5, gj_6, gj_7, gj_8, gj_9, gj_10, gj_11, gj_12, gj_13, gj_14, gj_15, gj_16, gj_17, gj_18, gj_19, gj_20, gj_21, gj_22, gj_23, gj_24, gj_25, gj_26, gj_27, pj_4, pj_5, pj_9, pj_10, pj_11, pj_12, pj_19, pj_20, pj_26, ij_1, ij_2, ij_3, ij_4, ij_5, ij_6, ij_7, ij_8, ij_9, ij_10, ij_11, ij_12, ij_13, ij_14, ij_15, ij_16, ij_17, ij_18, ij_19, vf_1, vf_2, vf_3, vf_4, vf_5, vf_6, vf_7, vf_8, vf_9, vf_10, vf_11, vf_12, vf_13, vf_14, vf_15, vf_16, vf_17, vf_18, vf_19, sj, nI_add, hx5, e5, e1, hx6, e6, e2, e2', eq_false (show ¬ nI 1 ≤ nI 0 by decide), e_1, h1.1, hxr, up_ne (show 0 ≠ 18 by decide), eq_true (show nI 1 ≤ nI 1 by decide)]
      simp only [k_MD_rebuild_134, k_MD_rebuild_150, k_MD_rebuild_167, k_MD_rebuild_178, mt_kk, mt_l0, lget, lput, mt_pop, g_nil, g_const, g_null, g_iload, g_aload, g_istore, g_astore, g_iinc, g_add, g_sub, g_mul, g_and, g_xor, g_div, g_rem, g_dup, g_dup2, g_pop, g_get, g_putI, g_putZ, g_putA, g_iald, g_zald, g_iast, g_zast, g_aald, g_aast, g_alen, g_new, g_newI, g_newA, g_objinit, l_fall, l_ifeq, l_ifne, l_iflt, l_ifge, l_ifgt, l_ifle, l_iceq, l_icne, l_iclt, l_icge, l_icgt, l_icle, l_nullN, l_nullS, l_nonnullN, l_nonnullS, l_acne, l_callV, l_callI, l_callS, l_ret, l_iret, l_zret, l_aret, l_after, List.length_cons, List.length_nil, Nat.reduceAdd, Nat.reduceLT, Nat.reduceLeDiff, Nat.reduceEqDiff, and_self, and_true, true_and, if_true, if_false, reduceIte, ite_true, ite_false, beq_self_eq_true, Nat.zero_add, Option.toList_some, Option.toList_none, List.cons_append, List.nil_append, gj_0, gj_1, gj_2, gj_3, gj_4, gj_5, gj_6, gj_7, gj_8, gj_9, gj_10, gj_11, gj_12, gj_13, gj_14, gj_15, gj_16, gj_17, gj_18, gj_19, gj_20, gj_21, gj_22, gj_23, gj_24, gj_25, gj_26, gj_27, pj_4, pj_5, pj_9, pj_10, pj_11, pj_12, pj_19, pj_20, pj_26, ij_1, ij_2, ij_3, ij_4, ij_5, ij_6, ij_7, ij_8, ij_9, ij_10, ij_11, ij_12, ij_13, ij_14, ij_15, ij_16, ij_17, ij_18, ij_19, vf_1, vf_2, vf_3, vf_4, vf_5, vf_6, vf_7, vf_8, vf_9, vf_10, vf_11, vf_12, vf_13, vf_14, vf_15, vf_16, vf_17, vf_18, vf_19, sj, nI_add, hx5, e5, e1, hx6, e6, e2, e2', eq_false (show ¬ nI 1 ≤ nI 0 by decide), e_1, h1.1, hxr, up_ne (show 0 ≠ 18 by decide), eq_true (show nI 1 ≤ nI 1 by decide)]
      rw [k_MD_rebuild_75]
      simp only [k_MD_rebuild_87, k_MD_rebuild_95, k_MD_rebuild_184, mt_kk, mt_l0, lget, lput, mt_pop, g_nil, g_const, g_null, g_iload, g_aload, g_istore, g_astore, g_iinc, g_add, g_sub, g_mul, g_and, g_xor, g_div, g_rem, g_dup, g_dup2, g_pop, g_get, g_putI, g_putZ, g_putA, g_iald, g_zald, g_iast, g_zast, g_aald, g_aast, g_alen, g_new, g_newI, g_newA, g_objinit, l_fall, l_ifeq, l_ifne, l_iflt, l_ifge, l_ifgt, l_ifle, l_iceq, l_icne, l_iclt, l_icge, l_icgt, l_icle, l_nullN, l_nullS, l_nonnullN, l_nonnullS, l_acne, l_callV, l_callI, l_callS, l_ret, l_iret, l_zret, l_aret, l_after, List.length_cons, List.length_nil, Nat.reduceAdd, Nat.reduceLT, Nat.reduceLeDiff, Nat.reduceEqDiff, and_self, and_true, true_and, if_true, if_false, reduceIte, ite_true, ite_false, beq_self_eq_true, Nat.zero_add, Option.toList_some, Option.toList_none, List.cons_append, List.nil_append, gj_0, gj_1, gj_2, gj_3, gj_4, gj_5, gj_6, gj_7, gj_8, gj_9, gj_10, gj_11, gj_12, gj_13, gj_14, gj_15, gj_16, gj_17, gj_18, gj_19, gj_20, gj_21, gj_22, gj_23, gj_24, gj_25, gj_26, gj_27, pj_4, pj_5, pj_9, pj_10, pj_11, pj_12, pj_19, pj_20, pj_26, ij_1, ij_2, ij_3, ij_4, ij_5, ij_6, ij_7, ij_8, ij_9, ij_10, ij_11, ij_12, ij_13, ij_14, ij_15, ij_16, ij_17, ij_18, ij_19, vf_1, vf_2, vf_3, vf_4, vf_5, vf_6, vf_7, vf_8, vf_9, vf_10, vf_11, vf_12, vf_13, vf_14, vf_15, vf_16, vf_17, vf_18, vf_19, sj, nI_add, hx5, e5, e1, hx6, e6, e2, e2', eq_false (show ¬ nI 1 ≤ nI 0 by decide), e_1, h1.1, hxr, up_ne (show 0 ≠ 18 by decide), eq_true (show nI 1 ≤ nI 1 by decide)]
      refine ih (i + 1) _ (acc ++ [x]) _ _ _ _ (by omega) (rB_add h1) ?_ h3 (fB_add h4)
      rw [List.length_append, List.length_cons, List.length_nil]
      omega
    · rw [if_neg hcx] at h2 h3
      have e2 : (nI 256 ≤ nI x) = True := eq_true (nI_le (by omega) (by omega))
      have e3 : nI x - nI 256 = nI (x - 256) := pk_sub (by omega)
      have hlen := rb1_len (old := old) (p := (x - 256) * blk) blk
      have hmul : (x - 256) * blk ≤ 1000 * 8 := Nat.mul_le_mul (by omega) hb8
      simp only [k_MD_rebuild_33, k_MD_rebuild_58, k_MD_rebuild_69, mt_kk, mt_l0, lget, lput, mt_pop, g_nil, g_const, g_null, g_iload, g_aload, g_istore, g_astore, g_iinc, g_add, g_sub, g_mul, g_and, g_xor, g_div, g_rem, g_dup, g_dup2, g_pop, g_get, g_putI, g_putZ, g_putA, g_iald, g_zald, g_iast, g_zast, g_aald, g_aast, g_alen, g_new, g_newI, g_newA, g_objinit, l_fall, l_ifeq, l_ifne, l_iflt, l_ifge, l_ifgt, l_ifle, l_iceq, l_icne, l_iclt, l_icge, l_icgt, l_icle, l_nullN, l_nullS, l_nonnullN, l_nonnullS, l_acne, l_callV, l_callI, l_callS, l_ret, l_iret, l_zret, l_aret, l_after, List.length_cons, List.length_nil, Nat.reduceAdd, Nat.reduceLT, Nat.reduceLeDiff, Nat.reduceEqDiff, and_self, and_true, true_and, if_true, if_false, reduceIte, ite_true, ite_false, beq_self_eq_true, Nat.zero_add, Option.toList_some, Option.toList_none, List.cons_append, List.nil_append, gj_0, gj_1, gj_2, gj_3, gj_4, gj_5, gj_6, gj_7, gj_8, gj_9, gj_10, gj_11, gj_12, gj_13, gj_14, gj_15, gj_16, gj_17, gj_18, gj_19, gj_20, gj_21, gj_22, gj_23, gj_24, gj_25, gj_26, gj_27, pj_4, pj_5, pj_9, pj_10, pj_11, pj_12, pj_19, pj_20, pj_26, ij_1, ij_2, ij_3, ij_4, ij_5, ij_6, ij_7, ij_8, ij_9, ij_10, ij_11, ij_12, ij_13, ij_14, ij_15, ij_16, ij_17, ij_18, ij_19, vf_1, vf_2, vf_3, vf_4, vf_5, vf_6, vf_7, vf_8, vf_9, vf_10, vf_11, vf_12, vf_13, vf_14, vf_15, vf_16, vf_17, vf_18, vf_19, sj, nI_add, hx5, e5, e1, hx6, e6, e2, e3, hb, pk_mul]
      have h75 := lp_rbc (n := n) (w := w) (c := c) (f := f) (U0 := U) (k := i) (x := x) (p := (x - 256) * blk) (l := acc) (by
        rcases hF with ⟨g1, g2⟩ | ⟨g1, g2, g3, g4⟩
        · exact Or.inl ⟨g1, g2⟩
        · exact Or.inr ⟨g1, g2, by rw [h4.1 2 (by decide) (by decide)]; exact g3, by rw [h4.1 4 (by decide) (by decide)]; exact g4⟩) hold hb (by omega) hxb (by omega) (by rw [List.length_append]; omega) Q (fun U1 k7 g1 g2 => by
        simp only [k_MD_rebuild_184, mt_kk, mt_l0, lget, lput, mt_pop, g_nil, g_const, g_null, g_iload, g_aload, g_istore, g_astore, g_iinc, g_add, g_sub, g_mul, g_and, g_xor, g_div, g_rem, g_dup, g_dup2, g_pop, g_get, g_putI, g_putZ, g_putA, g_iald, g_zald, g_iast, g_zast, g_aald, g_aast, g_alen, g_new, g_newI, g_newA, g_objinit, l_fall, l_ifeq, l_ifne, l_iflt, l_ifge, l_ifgt, l_ifle, l_iceq, l_icne, l_iclt, l_icge, l_icgt, l_icle, l_nullN, l_nullS, l_nonnullN, l_nonnullS, l_acne, l_callV, l_callI, l_callS, l_ret, l_iret, l_zret, l_aret, l_after, List.length_cons, List.length_nil, Nat.reduceAdd, Nat.reduceLT, Nat.reduceLeDiff, Nat.reduceEqDiff, and_self, and_true, true_and, if_true, if_false, reduceIte, ite_true, ite_false, beq_self_eq_true, Nat.zero_add, Option.toList_some, Option.toList_none, List.cons_append, List.nil_append, gj_0, gj_1, gj_2, gj_3, gj_4, gj_5, gj_6, gj_7, gj_8, gj_9, gj_10, gj_11, gj_12, gj_13, gj_14, gj_15, gj_16, gj_17, gj_18, gj_19, gj_20, gj_21, gj_22, gj_23, gj_24, gj_25, gj_26, gj_27, pj_4, pj_5, pj_9, pj_10, pj_11, pj_12, pj_19, pj_20, pj_26, ij_1, ij_2, ij_3, ij_4, ij_5, ij_6, ij_7, ij_8, ij_9, ij_10, ij_11, ij_12, ij_13, ij_14, ij_15, ij_16, ij_17, ij_18, ij_19, vf_1, vf_2, vf_3, vf_4, vf_5, vf_6, vf_7, vf_8, vf_9, vf_10, vf_11, vf_12, vf_13, vf_14, vf_15, vf_16, vf_17, vf_18, vf_19, sj, nI_add]
        refine ih (i + 1) U1 _ _ _ _ _ (by omega) g1 (by rw [List.length_append]; omega) h3 ⟨fun q q1 q2 => by rw [g2.1 q q1 q2]; exact h4.1 q q1 q2, fun k hk => by rw [g2.2 k hk]; exact h4.2 k hk⟩) blk 0 U j7 (by omega) (by simp only [a_rb1, List.append_nil]; exact h1) ⟨fun _ _ _ => rfl, fun _ _ => rfl⟩
      rw [Nat.add_zero] at h75
      exact h75
theorem lp_rbd {U : v_N} {R : List Nat} {fF : Int32} {j5 j6 j7 : Option m_V} (h : rB U R) (hR : R.length ≤ 40) (Q : m_R → Prop) (hq : Q (some (.inl (dg (fun i => R.getD i 0) R.length)), (n, w, imr c U f))) (d : Nat) : ∀ (i : Nat), i + d = R.length → mt_T cd_MD_rebuild 196 ([some (.inr (some c)), some (.inl (nI 2790)), some (.inl fF), some (.inl (dg (fun i => R.getD i 0) i)), some (.inl (nI i)), j5, j6, j7], [], (n, w, imr c U f)) Q := by
  induction d with
  | zero =>
    intro i hd
    have hd : i = R.length := hd
    subst hd
    simp only [k_MD_rebuild_196, k_MD_rebuild_224, mt_kk, mt_l0, lget, lput, mt_pop, g_nil, g_const, g_null, g_iload, g_aload, g_istore, g_astore, g_iinc, g_add, g_sub, g_mul, g_and, g_xor, g_div, g_rem, g_dup, g_dup2, g_pop, g_get, g_putI, g_putZ, g_putA, g_iald, g_zald, g_iast, g_zast, g_aald, g_aast, g_alen, g_new, g_newI, g_newA, g_objinit, l_fall, l_ifeq, l_ifne, l_iflt, l_ifge, l_ifgt, l_ifle, l_iceq, l_icne, l_iclt, l_icge, l_icgt, l_icle, l_nullN, l_nullS, l_nonnullN, l_nonnullS, l_acne, l_callV, l_callI, l_callS, l_ret, l_iret, l_zret, l_aret, l_after, List.length_cons, List.length_nil, Nat.reduceAdd, Nat.reduceLT, Nat.reduceLeDiff, Nat.reduceEqDiff, and_self, and_true, true_and, if_true, if_false, reduceIte, ite_true, ite_false, beq_self_eq_true, Nat.zero_add, Option.toList_some, Option.toList_none, List.cons_append, List.nil_append, gj_0, gj_1, gj_2, gj_3, gj_4, gj_5, gj_6, gj_7, gj_8, gj_9, gj_10, gj_11, gj_12, gj_13, gj_14, gj_15, gj_16, gj_17, gj_18, gj_19, gj_20, gj_21, gj_22, gj_23, gj_24, gj_25, gj_26, gj_27, pj_4, pj_5, pj_9, pj_10, pj_11, pj_12, pj_19, pj_20, pj_26, ij_1, ij_2, ij_3, ij_4, ij_5, ij_6, ij_7, ij_8, ij_9, ij_10, ij_11, ij_12, ij_13, ij_14, ij_15, ij_16, ij_17, ij_18, ij_19, vf_1, vf_2, vf_3, vf_4, vf_5, vf_6, vf_7, vf_8, vf_9, vf_10, vf_11, vf_12, vf_13, vf_14, vf_15, vf_16, vf_17, vf_18, vf_19, sj, h.1, eq_true (Int32.le_refl (nI R.length))]
    exact hq
  | succ d ih =>
    intro i hd
    have hil : i < R.length := by omega
    have hx := mt_ix_nI (j := i) (n := 40) (by omega) (by decide)
    have h6 := ih (i + 1) (by omega)
    rw [dg_s] at h6
    rw [k_MD_rebuild_196]
    simp only [k_MD_rebuild_205, mt_kk, mt_l0, lget, lput, mt_pop, g_nil, g_const, g_null, g_iload, g_aload, g_istore, g_astore, g_iinc, g_add, g_sub, g_mul, g_and, g_xor, g_div, g_rem, g_dup, g_dup2, g_pop, g_get, g_putI, g_putZ, g_putA, g_iald, g_zald, g_iast, g_zast, g_aald, g_aast, g_alen, g_new, g_newI, g_newA, g_objinit, l_fall, l_ifeq, l_ifne, l_iflt, l_ifge, l_ifgt, l_ifle, l_iceq, l_icne, l_iclt, l_icge, l_icgt, l_icle, l_nullN, l_nullS, l_nonnullN, l_nonnullS, l_acne, l_callV, l_callI, l_callS, l_ret, l_iret, l_zret, l_aret, l_after, List.length_cons, List.length_nil, Nat.reduceAdd, Nat.reduceLT, Nat.reduceLeDiff, Nat.reduceEqDiff, and_self, and_true, true_and, if_true, if_false, reduceIte, ite_true, ite_false, beq_self_eq_true, Nat.zero_add, Option.toList_some, Option.toList_none, List.cons_append, List.nil_append, gj_0, gj_1, gj_2, gj_3, gj_4, gj_5, gj_6, gj_7, gj_8, gj_9, gj_10, gj_11, gj_12, gj_13, gj_14, gj_15, gj_16, gj_17, gj_18, gj_19, gj_20, gj_21, gj_22, gj_23, gj_24, gj_25, gj_26, gj_27, pj_4, pj_5, pj_9, pj_10, pj_11, pj_12, pj_19, pj_20, pj_26, ij_1, ij_2, ij_3, ij_4, ij_5, ij_6, ij_7, ij_8, ij_9, ij_10, ij_11, ij_12, ij_13, ij_14, ij_15, ij_16, ij_17, ij_18, ij_19, vf_1, vf_2, vf_3, vf_4, vf_5, vf_6, vf_7, vf_8, vf_9, vf_10, vf_11, vf_12, vf_13, vf_14, vf_15, vf_16, vf_17, vf_18, vf_19, sj, h.1, eq_false (nI_ge hil (show R.length < 2 ^ 31 by omega)), hx, h.2 i hil, nI_add]
    exact h6
theorem x_mrb {U : v_N} {blk nm : Nat} {items : List Nat} {x : a_F} (hnm : nm < 12) (hf : gR U (12 + nm) x) (hb0 : U 0 10 = nI blk) (hb8 : blk ≤ 8) (hl40 : items.length ≤ 40) (hx : ∀ x ∈ items, x < 1000) (h1 : U 13 2791 = nI nm) (h5 : U 13 2795 = nI items.length) (hc : ∀ j, j < items.length → U 13 (2790 + 6 + j) = nI (items.getD j 0)) (hsz : a_sz blk items ≤ 40) : mt_P sm_MD_rebuild [.inr (some c), .inl (nI 2790)] (n, w, imr c U f) (fun r => ∃ U1, r = (some (.inl (dg (fun i => (a_rb (a_row x) blk [] items).getD i 0) (a_rb (a_row x) blk [] items).length)), (n, w, imr c U1 f)) ∧ rB U1 (a_rb (a_row x) blk [] items) ∧ fB U U1) := by
  have hx1 := mt_ix_nI (j := 2791) (n := 2880) (by decide) (by decide)
  have hrl := rb_len (old := a_row x) (blk := blk) items []
  rw [List.length_nil] at hrl
  obtain ⟨fF, hfl, hF, hold⟩ : ∃ fF : Int32, sm_MD_file [.inr (some c), .inl (nI 1), .inl (nI nm)] (n, w, imr c U f) = some (some (.inl fF), (n, w, imr c U f)) ∧ ((fF = -1 ∧ a_row x = []) ∨ (fF = nI (12 + nm) ∧ 12 + nm < 24 ∧ U 2 (12 + nm) = nI (a_row x).length ∧ ∀ j, j < (a_row x).length → U 4 (40 * (12 + nm) + j) = nI ((a_row x).getD j 0))) ∧ (a_row x).length ≤ 40 := by
    cases x with
    | none => exact ⟨-1, x_mfile0 (t := 1) (by decide) hnm hf, Or.inl ⟨rfl, rfl⟩, by decide⟩
    | some u => exact ⟨nI (12 + nm), x_mfile (t := 1) (by decide) hnm hf.1, Or.inr ⟨rfl, by omega, hf.2.1, hf.2.2.2.1⟩, hf.2.2.2.2.1⟩
  refine mt_P_of ?_
  simp only [k_MD_rebuild_0, k_MD_rebuild_13, mt_kk, mt_l0, lget, lput, mt_pop, g_nil, g_const, g_null, g_iload, g_aload, g_istore, g_astore, g_iinc, g_add, g_sub, g_mul, g_and, g_xor, g_div, g_rem, g_dup, g_dup2, g_pop, g_get, g_putI, g_putZ, g_putA, g_iald, g_zald, g_iast, g_zast, g_aald, g_aast, g_alen, g_new, g_newI, g_newA, g_objinit, l_fall, l_ifeq, l_ifne, l_iflt, l_ifge, l_ifgt, l_ifle, l_iceq, l_icne, l_iclt, l_icge, l_icgt, l_icle, l_nullN, l_nullS, l_nonnullN, l_nonnullS, l_acne, l_callV, l_callI, l_callS, l_ret, l_iret, l_zret, l_aret, l_after, List.length_cons, List.length_nil, Nat.reduceAdd, Nat.reduceLT, Nat.reduceLeDiff, Nat.reduceEqDiff, and_self, and_true, true_and, if_true, if_false, reduceIte, ite_true, ite_false, beq_self_eq_true, Nat.zero_add, Option.toList_some, Option.toList_none, List.cons_append, List.nil_append, gj_0, gj_1, gj_2, gj_3, gj_4, gj_5, gj_6, gj_7, gj_8, gj_9, gj_10, gj_11, gj_12, gj_13, gj_14, gj_15, gj_16, gj_17, gj_18, gj_19, gj_20, gj_21, gj_22, gj_23, gj_24, gj_25, gj_26, gj_27, pj_4, pj_5, pj_9, pj_10, pj_11, pj_12, pj_19, pj_20, pj_26, ij_1, ij_2, ij_3, ij_4, ij_5, ij_6, ij_7, ij_8, ij_9, ij_10, ij_11, ij_12, ij_13, ij_14, ij_15, ij_16, ij_17, ij_18, ij_19, vf_1, vf_2, vf_3, vf_4, vf_5, vf_6, vf_7, vf_8, vf_9, vf_10, vf_11, vf_12, vf_13, vf_14, vf_15, vf_16, vf_17, vf_18, vf_19, sj, nI_add, hx1, h1, hfl]
  have hF2 : (fF = -1 ∧ a_row x = []) ∨ (fF = nI (12 + nm) ∧ 12 + nm < 24 ∧ vu U 0 26 (nI 0) 2 (12 + nm) = nI (a_row x).length ∧ ∀ j, j < (a_row x).length → vu U 0 26 (nI 0) 4 (40 * (12 + nm) + j) = nI ((a_row x).getD j 0)) := by
    rcases hF with g | ⟨g1, g2, g3, g4⟩
    · exact Or.inl g
    · exact Or.inr ⟨g1, g2, by rw [up_ne (by decide)]; exact g3, fun j hj => by rw [up_ne (by decide)]; exact g4 j hj⟩
  refine lp_mrb (U0 := vu U 0 26 (nI 0)) (R := a_rb (a_row x) blk [] items) hF2 hold (by rw [vu_slot (by decide)]; exact hb0) hb8 hl40 hx (by rw [up_ne (by decide)]; exact h5) (fun j hj => by rw [up_ne (by decide)]; exact hc j hj) _ (fun U1 j4 j5 j6 j7 g1 g2 => ?_) items.length 0 _ [] _ _ _ _ (by omega) ⟨vu_same, fun j hj => by cases hj⟩ (by rw [List.drop_zero, List.length_nil]; omega) rfl ⟨fun _ _ _ => rfl, fun _ _ => rfl⟩
  have e0 : (-2128831035 : Int32) = dg (fun i => (a_rb (a_row x) blk [] items).getD i 0) 0 := by simp only [dg]
  simp only [k_MD_rebuild_190, mt_kk, mt_l0, lget, lput, mt_pop, g_nil, g_const, g_null, g_iload, g_aload, g_istore, g_astore, g_iinc, g_add, g_sub, g_mul, g_and, g_xor, g_div, g_rem, g_dup, g_dup2, g_pop, g_get, g_putI, g_putZ, g_putA, g_iald, g_zald, g_iast, g_zast, g_aald, g_aast, g_alen, g_new, g_newI, g_newA, g_objinit, l_fall, l_ifeq, l_ifne, l_iflt, l_ifge, l_ifgt, l_ifle, l_iceq, l_icne, l_iclt, l_icge, l_icgt, l_icle, l_nullN, l_nullS, l_nonnullN, l_nonnullS, l_acne, l_callV, l_callI, l_callS, l_ret, l_iret, l_zret, l_aret, l_after, List.length_cons, List.length_nil, Nat.reduceAdd, Nat.reduceLT, Nat.reduceLeDiff, Nat.reduceEqDiff, and_self, and_true, true_and, if_true, if_false, reduceIte, ite_true, ite_false, beq_self_eq_true, Nat.zero_add, Option.toList_some, Option.toList_none, List.cons_append, List.nil_append, gj_0, gj_1, gj_2, gj_3, gj_4, gj_5, gj_6, gj_7, gj_8, gj_9, gj_10, gj_11, gj_12, gj_13, gj_14, gj_15, gj_16, gj_17, gj_18, gj_19, gj_20, gj_21, gj_22, gj_23, gj_24, gj_25, gj_26, gj_27, pj_4, pj_5, pj_9, pj_10, pj_11, pj_12, pj_19, pj_20, pj_26, ij_1, ij_2, ij_3, ij_4, ij_5, ij_6, ij_7, ij_8, ij_9, ij_10, ij_11, ij_12, ij_13, ij_14, ij_15, ij_16, ij_17, ij_18, ij_19, vf_1, vf_2, vf_3, vf_4, vf_5, vf_6, vf_7, vf_8, vf_9, vf_10, vf_11, vf_12, vf_13, vf_14, vf_15, vf_16, vf_17, vf_18, vf_19, sj]
  rw [e0]
  exact lp_rbd g1 (by omega) _ ⟨U1, rfl, g1, fun q q1 q2 => by rw [g2.1 q q1 q2, vu_off q1], fun k hk => by rw [g2.2 k hk, vu_slot hk]⟩ (a_rb (a_row x) blk [] items).length 0 (by omega)
theorem lp_mrec {U0 : v_N} {R : List Nat} {j2 j3 j4 : Option m_V} (hR : R.length ≤ 40) (h26 : U0 0 26 = nI R.length) (h20 : U0 0 20 = nI 0) (h18 : ∀ j, j < R.length → U0 18 j = nI (R.getD j 0)) (Q : m_R → Prop) (hq : ∀ U1, (∀ q, q ≠ 17 → U1 q = U0 q) → (∀ j, j < R.length → U1 17 j = nI (R.getD j 0)) → mt_T cd_MD_delta 113 ([some (.inr (some c)), some (.inl (nI 2790)), j2, j3, j4, some (.inl (nI R.length))], [], (n, w, imr c U1 f)) Q) (d : Nat) : ∀ (i : Nat) (U : v_N), i + d = R.length → (∀ q, q ≠ 17 → U q = U0 q) → (∀ j, j < i → U 17 j = nI (R.getD j 0)) → mt_T cd_MD_delta 76 ([some (.inr (some c)), some (.inl (nI 2790)), j2, j3, j4, some (.inl (nI i))], [], (n, w, imr c U f)) Q := by
  induction d with
  | zero =>
    intro i U hd h1 h2
    have hd : i = R.length := hd
    subst hd
    have e26 : U 0 26 = nI R.length := by rw [h1 0 (by decide)]; exact h26
    rw [k_MD_delta_76]
    simp only [mt_kk, mt_l0, lget, lput, mt_pop, g_nil, g_const, g_null, g_iload, g_aload, g_istore, g_astore, g_iinc, g_add, g_sub, g_mul, g_and, g_xor, g_div, g_rem, g_dup, g_dup2, g_pop, g_get, g_putI, g_putZ, g_putA, g_iald, g_zald, g_iast, g_zast, g_aald, g_aast, g_alen, g_new, g_newI, g_newA, g_objinit, l_fall, l_ifeq, l_ifne, l_iflt, l_ifge, l_ifgt, l_ifle, l_iceq, l_icne, l_iclt, l_icge, l_icgt, l_icle, l_nullN, l_nullS, l_nonnullN, l_nonnullS, l_acne, l_callV, l_callI, l_callS, l_ret, l_iret, l_zret, l_aret, l_after, List.length_cons, List.length_nil, Nat.reduceAdd, Nat.reduceLT, Nat.reduceLeDiff, Nat.reduceEqDiff, and_self, and_true, true_and, if_true, if_false, reduceIte, ite_true, ite_false, beq_self_eq_true, Nat.zero_add, Option.toList_some, Option.toList_none, List.cons_append, List.nil_append, gj_0, gj_1, gj_2, gj_3, gj_4, gj_5, gj_6, gj_7, gj_8, gj_9, gj_10, gj_11, gj_12, gj_13, gj_14, gj_15, gj_16, gj_17, gj_18, gj_19, gj_20, gj_21, gj_22, gj_23, gj_24, gj_25, gj_26, gj_27, pj_4, pj_5, pj_9, pj_10, pj_11, pj_12, pj_19, pj_20, pj_26, ij_1, ij_2, ij_3, ij_4, ij_5, ij_6, ij_7, ij_8, ij_9, ij_10, ij_11, ij_12, ij_13, ij_14, ij_15, ij_16, ij_17, ij_18, ij_19, vf_1, vf_2, vf_3, vf_4, vf_5, vf_6, vf_7, vf_8, vf_9, vf_10, vf_11, vf_12, vf_13, vf_14, vf_15, vf_16, vf_17, vf_18, vf_19, sj, e26, eq_true (Int32.le_refl (nI R.length))]
    exact hq U h1 h2
  | succ d ih =>
    intro i U hd h1 h2
    have hil : i < R.length := by omega
    have e26 : U 0 26 = nI R.length := by rw [h1 0 (by decide)]; exact h26
    have e20 : U 0 20 = nI 0 := by rw [h1 0 (by decide)]; exact h20
    have e18 : U 18 i = nI (R.getD i 0) := by rw [h1 18 (by decide)]; exact h18 i hil
    have hx := mt_ix_nI (j := i) (n := 40) (by omega) (by decide)
    have hx2 := mt_ix_nI (j := i) (n := 640) (by omega) (by decide)
    rw [k_MD_delta_76]
    simp only [k_MD_delta_85, mt_kk, mt_l0, lget, lput, mt_pop, g_nil, g_const, g_null, g_iload, g_aload, g_istore, g_astore, g_iinc, g_add, g_sub, g_mul, g_and, g_xor, g_div, g_rem, g_dup, g_dup2, g_pop, g_get, g_putI, g_putZ, g_putA, g_iald, g_zald, g_iast, g_zast, g_aald, g_aast, g_alen, g_new, g_newI, g_newA, g_objinit, l_fall, l_ifeq, l_ifne, l_iflt, l_ifge, l_ifgt, l_ifle, l_iceq, l_icne, l_iclt, l_icge, l_icgt, l_icle, l_nullN, l_nullS, l_nonnullN, l_nonnullS, l_acne, l_callV, l_callI, l_callS, l_ret, l_iret, l_zret, l_aret, l_after, List.length_cons, List.length_nil, Nat.reduceAdd, Nat.reduceLT, Nat.reduceLeDiff, Nat.reduceEqDiff, and_self, and_true, true_and, if_true, if_false, reduceIte, ite_true, ite_false, beq_self_eq_true, Nat.zero_add, Option.toList_some, Option.toList_none, List.cons_append, List.nil_append, gj_0, gj_1, gj_2, gj_3, gj_4, gj_5, gj_6, gj_7, gj_8, gj_9, gj_10, gj_11, gj_12, gj_13, gj_14, gj_15, gj_16, gj_17, gj_18, gj_19, gj_20, gj_21, gj_22, gj_23, gj_24, gj_25, gj_26, gj_27, pj_4, pj_5, pj_9, pj_10, pj_11, pj_12, pj_19, pj_20, pj_26, ij_1, ij_2, ij_3, ij_4, ij_5, ij_6, ij_7, ij_8, ij_9, ij_10, ij_11, ij_12, ij_13, ij_14, ij_15, ij_16, ij_17, ij_18, ij_19, vf_1, vf_2, vf_3, vf_4, vf_5, vf_6, vf_7, vf_8, vf_9, vf_10, vf_11, vf_12, vf_13, vf_14, vf_15, vf_16, vf_17, vf_18, vf_19, sj, e26, eq_false (nI_ge hil (show R.length < 2 ^ 31 by omega)), e20, pk_mul, nI_add, Nat.mul_zero, hx, hx2, e18]
    refine ih (i + 1) _ (by omega) (fun q hq2 => by rw [vu_off hq2]; exact h1 q hq2) (fun j hj => ?_)
    by_cases hji : j = i
    · subst hji; rw [vu_same]
    · rw [vu_slot hji]; exact h2 j (by omega)
theorem x_mdelta {U : v_N} {z : a_Z} {y : a_S} {m : a_M} (h : dR U z) (hy : z.2.2.2.2.2 = some y) (hen : y.2.2.1 = true) (hjn : z.2.2.2.1 = none) (hm : cM U 2790 m) (hk4 : m.1 = 4) (hm4 : y_m4 y.1 y.2.2.2.1 m) (hl0 : y.2.2.2.2.2.1.length < 13) (ho : ∀ k, y.2.2.2.2.1 k = true → (y.2.2.2.1 k).isSome = true) (h2 : ∀ k, (y.2.2.2.1 k).isSome = true → k < 12) : mt_P sm_MD_delta [.inr (some c), .inl (nI 2790)] (n, w, imr c U f) (d_Qv n w c f (z_co (z_s z (s_d4 z y m).1 (s_d4 z y m).2.1 (y.1, y.2.1, y.2.2.1, y.2.2.2.1, (s_d4 z y m).2.2.1, (s_d4 z y m).2.2.2, y.2.2.2.2.2.2)) (y.1, y.2.1, y.2.2.1, y.2.2.2.1, (s_d4 z y m).2.2.1, (s_d4 z y m).2.2.2, y.2.2.2.2.2.2))) := by
  obtain ⟨a1, a2, a3, a4, a5, a6⟩ := id h
  rw [hjn] at a4
  have a4 : U 0 20 = nI 0 := a4
  rw [hy] at a6
  obtain ⟨s1, s2, s3, s4, s5, s6, s7, s8, s9⟩ := a6
  obtain ⟨hnm, hns, hm4⟩ := hm4
  obtain ⟨hat, hx, hsz, hbl⟩ : (m.2.2.1 = 1 ∨ m.2.2.1 = 2) ∧ (∀ x ∈ m.2.2.2.2.2, x < 1000) ∧ a_sz y.1 m.2.2.2.2.2 ≤ 40 ∧ m.2.2.2.2.2.length ≤ 40 := by
    rcases hm4 with e | e
    · omega
    · exact e.2
  obtain ⟨m0, m1, m2, m3, m4, -, m6⟩ := hm
  obtain ⟨b1, b2, b3⟩ := m6 hk4
  simp only [Nat.reduceAdd] at m1 m2 m3 b1
  have hx1 := mt_ix_nI (j := 2791) (n := 2880) (by decide) (by decide)
  have hx2 := mt_ix_nI (j := 2792) (n := 2880) (by decide) (by decide)
  have hx3 := mt_ix_nI (j := 2793) (n := 2880) (by decide) (by decide)
  have hx0 := mt_ix_nI (j := 0) (n := 16) (by decide) (by decide)
  obtain ⟨u, hu⟩ := Option.isSome_iff_exists.mp hns
  obtain ⟨e0, he0⟩ := List.getElem?_of_mem (nl_mem.mpr ⟨hnm, hns⟩ : m.2.1 ∈ a_nl y.2.2.2.1 12)
  have he12 : e0 < 12 := Nat.lt_of_lt_of_le (List.getElem?_eq_some_iff.mp he0).1 (nl_len 12)
  have hxe := mt_ix_nI (j := e0) (n := 12) he12 (by decide)
  obtain ⟨l8, l9⟩ := s6.2 e0 _ he0
  obtain ⟨l9, l10⟩ := l9 u hu
  have hfi := a3 (12 + m.2.1) (by omega)
  have hent := x_ment (n := n) (w := w) (c := c) (f := f) s6 hnm he0
  have hrb := x_mrb (n := n) (w := w) (c := c) (f := f) (items := m.2.2.2.2.2) hnm hfi s2 s4 hbl hx m1 b1 b3 hsz
  have hby : a_by (a_row (z.2.2.1 (12 + m.2.1))) := by
    cases hz : z.2.2.1 (12 + m.2.1) with
    | none => exact ⟨by decide, fun x hx => by cases hx⟩
    | some v => rw [hz] at hfi; exact hfi.2.2.2.2
  have hrl := rb_len (old := a_row (z.2.2.1 (12 + m.2.1))) (blk := y.1) m.2.2.2.2.2 []
  have hrbb := rb_by hby.2 (blk := y.1) m.2.2.2.2.2 [] (fun x hx => by cases hx)
  rw [List.length_nil] at hrl
  have hfin : ∀ (U1 : v_N) (j2 j3 j4 j5 : Option m_V) (jr : a_J) (ct : Nat → Int32) (op : Nat → Bool) (l0 : List a_M), (∀ k, op k = true → (y.2.2.2.1 k).isSome = true) → dR U1 (z_s z jr ct (y.1, y.2.1, y.2.2.1, y.2.2.2.1, op, l0, y.2.2.2.2.2.2)) → mt_T cd_MD_delta 171 ([some (.inr (some c)), some (.inl (nI 2790)), j2, j3, j4, j5], [], (n, w, imr c U1 f)) (d_Qv n w c f (z_co (z_s z jr ct (y.1, y.2.1, y.2.2.1, y.2.2.2.1, op, l0, y.2.2.2.2.2.2)) (y.1, y.2.1, y.2.2.1, y.2.2.2.1, op, l0, y.2.2.2.2.2.2))) := by
    intro U1 j2 j3 j4 j5 jr ct op l0 hop h1
    simp only [k_MD_delta_171, mt_kk, mt_l0, lget, lput, mt_pop, g_nil, g_const, g_null, g_iload, g_aload, g_istore, g_astore, g_iinc, g_add, g_sub, g_mul, g_and, g_xor, g_div, g_rem, g_dup, g_dup2, g_pop, g_get, g_putI, g_putZ, g_putA, g_iald, g_zald, g_iast, g_zast, g_aald, g_aast, g_alen, g_new, g_newI, g_newA, g_objinit, l_fall, l_ifeq, l_ifne, l_iflt, l_ifge, l_ifgt, l_ifle, l_iceq, l_icne, l_iclt, l_icge, l_icgt, l_icle, l_nullN, l_nullS, l_nonnullN, l_nonnullS, l_acne, l_callV, l_callI, l_callS, l_ret, l_iret, l_zret, l_aret, l_after, List.length_cons, List.length_nil, Nat.reduceAdd, Nat.reduceLT, Nat.reduceLeDiff, Nat.reduceEqDiff, and_self, and_true, true_and, if_true, if_false, reduceIte, ite_true, ite_false, beq_self_eq_true, Nat.zero_add, Option.toList_some, Option.toList_none, List.cons_append, List.nil_append, gj_0, gj_1, gj_2, gj_3, gj_4, gj_5, gj_6, gj_7, gj_8, gj_9, gj_10, gj_11, gj_12, gj_13, gj_14, gj_15, gj_16, gj_17, gj_18, gj_19, gj_20, gj_21, gj_22, gj_23, gj_24, gj_25, gj_26, gj_27, pj_4, pj_5, pj_9, pj_10, pj_11, pj_12, pj_19, pj_20, pj_26, ij_1, ij_2, ij_3, ij_4, ij_5, ij_6, ij_7, ij_8, ij_9, ij_10, ij_11, ij_12, ij_13, ij_14, ij_15, ij_16, ij_17, ij_18, ij_19, vf_1, vf_2, vf_3, vf_4, vf_5, vf_6, vf_7, vf_8, vf_9, vf_10, vf_11, vf_12, vf_13, vf_14, vf_15, vf_16, vf_17, vf_18, vf_19, sj]
    refine mt_call (x_mcon (y := (y.1, y.2.1, y.2.2.1, y.2.2.2.1, op, l0, y.2.2.2.2.2.2)) h1 rfl hen hop h2) ?_
    rintro r ⟨U2, rfl, h3⟩
    simp only [k_MD_delta_175, mt_kk, mt_l0, lget, lput, mt_pop, g_nil, g_const, g_null, g_iload, g_aload, g_istore, g_astore, g_iinc, g_add, g_sub, g_mul, g_and, g_xor, g_div, g_rem, g_dup, g_dup2, g_pop, g_get, g_putI, g_putZ, g_putA, g_iald, g_zald, g_iast, g_zast, g_aald, g_aast, g_alen, g_new, g_newI, g_newA, g_objinit, l_fall, l_ifeq, l_ifne, l_iflt, l_ifge, l_ifgt, l_ifle, l_iceq, l_icne, l_iclt, l_icge, l_icgt, l_icle, l_nullN, l_nullS, l_nonnullN, l_nonnullS, l_acne, l_callV, l_callI, l_callS, l_ret, l_iret, l_zret, l_aret, l_after, List.length_cons, List.length_nil, Nat.reduceAdd, Nat.reduceLT, Nat.reduceLeDiff, Nat.reduceEqDiff, and_self, and_true, true_and, if_true, if_false, reduceIte, ite_true, ite_false, beq_self_eq_true, Nat.zero_add, Option.toList_some, Option.toList_none, List.cons_append, List.nil_append, gj_0, gj_1, gj_2, gj_3, gj_4, gj_5, gj_6, gj_7, gj_8, gj_9, gj_10, gj_11, gj_12, gj_13, gj_14, gj_15, gj_16, gj_17, gj_18, gj_19, gj_20, gj_21, gj_22, gj_23, gj_24, gj_25, gj_26, gj_27, pj_4, pj_5, pj_9, pj_10, pj_11, pj_12, pj_19, pj_20, pj_26, ij_1, ij_2, ij_3, ij_4, ij_5, ij_6, ij_7, ij_8, ij_9, ij_10, ij_11, ij_12, ij_13, ij_14, ij_15, ij_16, ij_17, ij_18, ij_19, vf_1, vf_2, vf_3, vf_4, vf_5, vf_6, vf_7, vf_8, vf_9, vf_10, vf_11, vf_12, vf_13, vf_14, vf_15, vf_16, vf_17, vf_18, vf_19, sj]
    exact ⟨U2, rfl, h3⟩
  have hopf : ∀ k, va_up y.2.2.2.2.1 m.2.1 false k = true → (y.2.2.2.1 k).isSome = true := by
    intro k hk
    unfold va_up at hk
    by_cases e : k = m.2.1
    · rw [if_pos e] at hk; cases hk
    · rw [if_neg e] at hk; exact ho k hk
  have hopen : ∀ (U1 : v_N), U1 11 = upd (U 11) e0 (nI 0) → ∀ e k, (a_nl y.2.2.2.1 12)[e]? = some k → U1 11 e = bI (va_up y.2.2.2.2.1 m.2.1 false k) := by
    intro U1 hU e k he
    rw [hU]
    unfold upd va_up
    by_cases hee : e = e0
    · subst hee
      rw [he0] at he
      cases he
      rw [if_pos rfl, if_pos rfl]; rfl
    · rw [if_neg hee, if_neg (fun e9 => hee (nl_inj he (by rw [e9]; exact he0)))]
      exact s7 hen e k he
  refine mt_P_of ?_
  simp only [k_MD_delta_0, k_MD_delta_14, mt_kk, mt_l0, lget, lput, mt_pop, g_nil, g_const, g_null, g_iload, g_aload, g_istore, g_astore, g_iinc, g_add, g_sub, g_mul, g_and, g_xor, g_div, g_rem, g_dup, g_dup2, g_pop, g_get, g_putI, g_putZ, g_putA, g_iald, g_zald, g_iast, g_zast, g_aald, g_aast, g_alen, g_new, g_newI, g_newA, g_objinit, l_fall, l_ifeq, l_ifne, l_iflt, l_ifge, l_ifgt, l_ifle, l_iceq, l_icne, l_iclt, l_icge, l_icgt, l_icle, l_nullN, l_nullS, l_nonnullN, l_nonnullS, l_acne, l_callV, l_callI, l_callS, l_ret, l_iret, l_zret, l_aret, l_after, List.length_cons, List.length_nil, Nat.reduceAdd, Nat.reduceLT, Nat.reduceLeDiff, Nat.reduceEqDiff, and_self, and_true, true_and, if_true, if_false, reduceIte, ite_true, ite_false, beq_self_eq_true, Nat.zero_add, Option.toList_some, Option.toList_none, List.cons_append, List.nil_append, gj_0, gj_1, gj_2, gj_3, gj_4, gj_5, gj_6, gj_7, gj_8, gj_9, gj_10, gj_11, gj_12, gj_13, gj_14, gj_15, gj_16, gj_17, gj_18, gj_19, gj_20, gj_21, gj_22, gj_23, gj_24, gj_25, gj_26, gj_27, pj_4, pj_5, pj_9, pj_10, pj_11, pj_12, pj_19, pj_20, pj_26, ij_1, ij_2, ij_3, ij_4, ij_5, ij_6, ij_7, ij_8, ij_9, ij_10, ij_11, ij_12, ij_13, ij_14, ij_15, ij_16, ij_17, ij_18, ij_19, vf_1, vf_2, vf_3, vf_4, vf_5, vf_6, vf_7, vf_8, vf_9, vf_10, vf_11, vf_12, vf_13, vf_14, vf_15, vf_16, vf_17, vf_18, vf_19, sj, nI_add, hx1, m1, hent]
  refine mt_call hrb ?_
  rintro r ⟨U1, rfl, g1, g2⟩
  unfold s_d4
  generalize a_rb (a_row (z.2.2.1 (12 + m.2.1))) y.1 [] m.2.2.2.2.2 = R at g1 hrl hrbb
  have hR40 : R.length ≤ 40 := by omega
  have gg : ∀ q, q ≠ 0 → q ≠ 18 → U1 q = U q := g2.1
  have c3 : U1 13 2793 = m.2.2.2.1 := by rw [gg 13 (by decide) (by decide)]; exact m3
  have c2 : U1 13 2792 = nI m.2.2.1 := by rw [gg 13 (by decide) (by decide)]; exact m2
  have c20 : U1 0 20 = nI 0 := by rw [g2.2 20 (by decide)]; exact a4
  have c10 : U1 10 e0 = u.2 := by rw [gg 10 (by decide) (by decide)]; exact l10
  by_cases hd : dg (fun i => R.getD i 0) R.length = m.2.2.2.1
  · simp only [if_pos hd, hu]
    simp only [k_MD_delta_20, k_MD_delta_35, mt_kk, mt_l0, lget, lput, mt_pop, g_nil, g_const, g_null, g_iload, g_aload, g_istore, g_astore, g_iinc, g_add, g_sub, g_mul, g_and, g_xor, g_div, g_rem, g_dup, g_dup2, g_pop, g_get, g_putI, g_putZ, g_putA, g_iald, g_zald, g_iast, g_zast, g_aald, g_aast, g_alen, g_new, g_newI, g_newA, g_objinit, l_fall, l_ifeq, l_ifne, l_iflt, l_ifge, l_ifgt, l_ifle, l_iceq, l_icne, l_iclt, l_icge, l_icgt, l_icle, l_nullN, l_nullS, l_nonnullN, l_nonnullS, l_acne, l_callV, l_callI, l_callS, l_ret, l_iret, l_zret, l_aret, l_after, List.length_cons, List.length_nil, Nat.reduceAdd, Nat.reduceLT, Nat.reduceLeDiff, Nat.reduceEqDiff, and_self, and_true, true_and, if_true, if_false, reduceIte, ite_true, ite_false, beq_self_eq_true, Nat.zero_add, Option.toList_some, Option.toList_none, List.cons_append, List.nil_append, gj_0, gj_1, gj_2, gj_3, gj_4, gj_5, gj_6, gj_7, gj_8, gj_9, gj_10, gj_11, gj_12, gj_13, gj_14, gj_15, gj_16, gj_17, gj_18, gj_19, gj_20, gj_21, gj_22, gj_23, gj_24, gj_25, gj_26, gj_27, pj_4, pj_5, pj_9, pj_10, pj_11, pj_12, pj_19, pj_20, pj_26, ij_1, ij_2, ij_3, ij_4, ij_5, ij_6, ij_7, ij_8, ij_9, ij_10, ij_11, ij_12, ij_13, ij_14, ij_15, ij_16, ij_17, ij_18, ij_19, vf_1, vf_2, vf_3, vf_4, vf_5, vf_6, vf_7, vf_8, vf_9, vf_10, vf_11, vf_12, vf_13, vf_14, vf_15, vf_16, vf_17, vf_18, vf_19, sj, nI_add, hx3, c3, hd, c20, hx0, hxe, c10, g1.1, up_ne (show 0 ≠ 14 by decide), up_ne (show 0 ≠ 15 by decide), up_ne (show 0 ≠ 16 by decide), up_ne (show 10 ≠ 14 by decide)]
    refine lp_mrec (U0 := vu (vu (vu U1 14 0 (nI m.2.1)) 15 0 u.2) 16 0 (nI R.length)) hR40 (by rw [up_ne (by decide), up_ne (by decide), up_ne (by decide)]; exact g1.1) (by rw [up_ne (by decide), up_ne (by decide), up_ne (by decide)]; exact c20) (fun j hj => by rw [up_ne (by decide), up_ne (by decide), up_ne (by decide)]; exact g1.2 j hj) _ (fun U2 k1 k2 => ?_) R.length 0 _ (by omega) (fun _ _ => rfl) (fun j hj => by omega)
    have e20 : U2 0 20 = nI 0 := by rw [k1 0 (by decide), up_ne (by decide), up_ne (by decide), up_ne (by decide)]; exact c20
    simp only [k_MD_delta_113, mt_kk, mt_l0, lget, lput, mt_pop, g_nil, g_const, g_null, g_iload, g_aload, g_istore, g_astore, g_iinc, g_add, g_sub, g_mul, g_and, g_xor, g_div, g_rem, g_dup, g_dup2, g_pop, g_get, g_putI, g_putZ, g_putA, g_iald, g_zald, g_iast, g_zast, g_aald, g_aast, g_alen, g_new, g_newI, g_newA, g_objinit, l_fall, l_ifeq, l_ifne, l_iflt, l_ifge, l_ifgt, l_ifle, l_iceq, l_icne, l_iclt, l_icge, l_icgt, l_icle, l_nullN, l_nullS, l_nonnullN, l_nonnullS, l_acne, l_callV, l_callI, l_callS, l_ret, l_iret, l_zret, l_aret, l_after, List.length_cons, List.length_nil, Nat.reduceAdd, Nat.reduceLT, Nat.reduceLeDiff, Nat.reduceEqDiff, and_self, and_true, true_and, if_true, if_false, reduceIte, ite_true, ite_false, beq_self_eq_true, Nat.zero_add, Option.toList_some, Option.toList_none, List.cons_append, List.nil_append, gj_0, gj_1, gj_2, gj_3, gj_4, gj_5, gj_6, gj_7, gj_8, gj_9, gj_10, gj_11, gj_12, gj_13, gj_14, gj_15, gj_16, gj_17, gj_18, gj_19, gj_20, gj_21, gj_22, gj_23, gj_24, gj_25, gj_26, gj_27, pj_4, pj_5, pj_9, pj_10, pj_11, pj_12, pj_19, pj_20, pj_26, ij_1, ij_2, ij_3, ij_4, ij_5, ij_6, ij_7, ij_8, ij_9, ij_10, ij_11, ij_12, ij_13, ij_14, ij_15, ij_16, ij_17, ij_18, ij_19, vf_1, vf_2, vf_3, vf_4, vf_5, vf_6, vf_7, vf_8, vf_9, vf_10, vf_11, vf_12, vf_13, vf_14, vf_15, vf_16, vf_17, vf_18, vf_19, sj, e20, nI_add, hxe, z_0]
    have gh : ∀ q, q ≠ 0 → q ≠ 11 → q < 14 ∨ 18 < q → vu (vu U2 0 20 (nI 1)) 11 e0 (nI 0) q = U q := fun q e1 e2 e3 => by rw [vu_off e2, vu_off e1, k1 q (by omega), vu_off (by omega), vu_off (by omega), vu_off (by omega), gg q e1 (by omega)]
    have g0 : ∀ k, k ≠ 20 → k ≠ 26 → vu (vu U2 0 20 (nI 1)) 11 e0 (nI 0) 0 k = U 0 k := fun k e1 e2 => by rw [up_ne (by decide), vu_slot e1, k1 0 (by decide), up_ne (by decide), up_ne (by decide), up_ne (by decide), g2.2 k e2]
    refine hfin _ _ _ _ _ _ _ _ _ hopf (dR_new h hy (fun k hk => g0 k (by omega) (by omega)) (fun q q1 q2 => gh q (by omega) (by omega) (by omega)) ⟨?_, hnm, ?_, ?_, ?_, ?_, ⟨hR40, hrbb⟩⟩ (fun k hk => by rw [gh 19 (by decide) (by decide) (by decide)]; exact a5 k hk) (oR_congr (g0 12 (by decide) (by decide)) (fun q q1 q2 => gh q (by omega) (by omega) (by omega)) s6) (fun _ => hopen _ ?_) (nR_congr (by rw [gh 12 (by decide) (by decide) (by decide)]) (fun i _ => by rw [gh 13 (by decide) (by decide) (by decide)]) s8) (nR_congr (by rw [gh 12 (by decide) (by decide) (by decide)]) (fun i _ => by rw [gh 13 (by decide) (by decide) (by decide)]) s9))
    · rw [up_ne (by decide), vu_same]
    · rw [up_ne (by decide), up_ne (by decide), k1 14 (by decide), up_ne (by decide), up_ne (by decide), vu_same]
    · rw [up_ne (by decide), up_ne (by decide), k1 15 (by decide), up_ne (by decide), vu_same]
    · rw [up_ne (by decide), up_ne (by decide), k1 16 (by decide), vu_same]
    · intro j hj
      rw [up_ne (by decide), up_ne (by decide)]; exact k2 j hj
    · rw [vu_row, vu_off (by decide), k1 11 (by decide), vu_off (by decide), vu_off (by decide), vu_off (by decide), gg 11 (by decide) (by decide)]
  · simp only [if_neg hd]
    have e9 := nI_eqE (a := m.2.2.1) (b := 1) (by omega) (by decide)
    have g0 : ∀ k, k ≠ 26 → U1 0 k = U 0 k := g2.2
    by_cases ha : m.2.2.1 = 1
    · simp only [if_pos ha]
      simp only [k_MD_delta_20, k_MD_delta_133, k_MD_delta_145, mt_kk, mt_l0, lget, lput, mt_pop, g_nil, g_const, g_null, g_iload, g_aload, g_istore, g_astore, g_iinc, g_add, g_sub, g_mul, g_and, g_xor, g_div, g_rem, g_dup, g_dup2, g_pop, g_get, g_putI, g_putZ, g_putA, g_iald, g_zald, g_iast, g_zast, g_aald, g_aast, g_alen, g_new, g_newI, g_newA, g_objinit, l_fall, l_ifeq, l_ifne, l_iflt, l_ifge, l_ifgt, l_ifle, l_iceq, l_icne, l_iclt, l_icge, l_icgt, l_icle, l_nullN, l_nullS, l_nonnullN, l_nonnullS, l_acne, l_callV, l_callI, l_callS, l_ret, l_iret, l_zret, l_aret, l_after, List.length_cons, List.length_nil, Nat.reduceAdd, Nat.reduceLT, Nat.reduceLeDiff, Nat.reduceEqDiff, and_self, and_true, true_and, if_true, if_false, reduceIte, ite_true, ite_false, beq_self_eq_true, Nat.zero_add, Option.toList_some, Option.toList_none, List.cons_append, List.nil_append, gj_0, gj_1, gj_2, gj_3, gj_4, gj_5, gj_6, gj_7, gj_8, gj_9, gj_10, gj_11, gj_12, gj_13, gj_14, gj_15, gj_16, gj_17, gj_18, gj_19, gj_20, gj_21, gj_22, gj_23, gj_24, gj_25, gj_26, gj_27, pj_4, pj_5, pj_9, pj_10, pj_11, pj_12, pj_19, pj_20, pj_26, ij_1, ij_2, ij_3, ij_4, ij_5, ij_6, ij_7, ij_8, ij_9, ij_10, ij_11, ij_12, ij_13, ij_14, ij_15, ij_16, ij_17, ij_18, ij_19, vf_1, vf_2, vf_3, vf_4, vf_5, vf_6, vf_7, vf_8, vf_9, vf_10, vf_11, vf_12, vf_13, vf_14, vf_15, vf_16, vf_17, vf_18, vf_19, sj, nI_add, hx3, c3, hd, hx2, c2, e9, ha]
      refine mt_call (x_msig (fs := z.2.2.1) (blk := y.1) (att := 2) (l0 := y.2.2.2.2.2.1) hnm (gR_same (fun q q1 q2 => gg q (by omega) (by omega)) hfi) (by rw [g0 10 (by decide)]; exact s2) s3 s4 (by decide) (nR_congr (by rw [gg 12 (by decide) (by decide)]) (fun i _ => by rw [gg 13 (by decide) (by decide)]) s8) hl0) ?_
      rintro r ⟨U2, rfl, k1, k2⟩
      simp only [k_MD_delta_151, k_MD_delta_156, mt_kk, mt_l0, lget, lput, mt_pop, g_nil, g_const, g_null, g_iload, g_aload, g_istore, g_astore, g_iinc, g_add, g_sub, g_mul, g_and, g_xor, g_div, g_rem, g_dup, g_dup2, g_pop, g_get, g_putI, g_putZ, g_putA, g_iald, g_zald, g_iast, g_zast, g_aald, g_aast, g_alen, g_new, g_newI, g_newA, g_objinit, l_fall, l_ifeq, l_ifne, l_iflt, l_ifge, l_ifgt, l_ifle, l_iceq, l_icne, l_iclt, l_icge, l_icgt, l_icle, l_nullN, l_nullS, l_nonnullN, l_nonnullS, l_acne, l_callV, l_callI, l_callS, l_ret, l_iret, l_zret, l_aret, l_after, List.length_cons, List.length_nil, Nat.reduceAdd, Nat.reduceLT, Nat.reduceLeDiff, Nat.reduceEqDiff, and_self, and_true, true_and, if_true, if_false, reduceIte, ite_true, ite_false, beq_self_eq_true, Nat.zero_add, Option.toList_some, Option.toList_none, List.cons_append, List.nil_append, gj_0, gj_1, gj_2, gj_3, gj_4, gj_5, gj_6, gj_7, gj_8, gj_9, gj_10, gj_11, gj_12, gj_13, gj_14, gj_15, gj_16, gj_17, gj_18, gj_19, gj_20, gj_21, gj_22, gj_23, gj_24, gj_25, gj_26, gj_27, pj_4, pj_5, pj_9, pj_10, pj_11, pj_12, pj_19, pj_20, pj_26, ij_1, ij_2, ij_3, ij_4, ij_5, ij_6, ij_7, ij_8, ij_9, ij_10, ij_11, ij_12, ij_13, ij_14, ij_15, ij_16, ij_17, ij_18, ij_19, vf_1, vf_2, vf_3, vf_4, vf_5, vf_6, vf_7, vf_8, vf_9, vf_10, vf_11, vf_12, vf_13, vf_14, vf_15, vf_16, vf_17, vf_18, vf_19, sj, x_add (show 2 < 8 by decide)]
      have gh : ∀ q, q ≠ 0 → q ≠ 12 → q ≠ 13 → q ≠ 18 → q ≠ 19 → vu U2 19 2 (U2 19 2 + nI 1) q = U q := fun q e1 e2 e3 e4 e5 => by rw [vu_off e5, k2.1 q e1 e2 e3, gg q e1 e4]
      have gh0 : ∀ k, k ≠ 19 → k ≠ 26 → vu U2 19 2 (U2 19 2 + nI 1) 0 k = U 0 k := fun k e1 e2 => by rw [up_ne (by decide), k2.2.1 k e1, g0 k e2]
      refine hfin _ _ _ _ _ _ _ _ _ ho (dR_new h hy (fun k hk => gh0 k (by omega) (by omega)) (fun q q1 q2 => gh q (by omega) (by omega) (by omega) (by omega) (by omega)) (by rw [hjn]; exact (gh0 20 (by decide) (by decide)).trans a4) (ct_bpM (fun k hk => by rw [k2.1 19 (by decide) (by decide) (by decide), gg 19 (by decide) (by decide)]; exact a5 k hk) (by decide)) (oR_congr (gh0 12 (by decide) (by decide)) (fun q q1 q2 => gh q (by omega) (by omega) (by omega) (by omega) (by omega)) s6) (fun e => by rw [gh 11 (by decide) (by decide) (by decide) (by decide) (by decide)]; exact s7 e) (nR_congr (by rw [up_ne (by decide)]) (fun i _ => by rw [up_ne (by decide)]) k1) ?_)
      refine nR_congr (by rw [up_ne (by decide), k2.2.2.1 1 (by decide), gg 12 (by decide) (by decide)]) (fun i hi => ?_) s9
      rw [up_ne (by decide), k2.2.2.2 _ (by omega), gg 13 (by decide) (by decide)]
    · simp only [if_neg ha]
      simp only [k_MD_delta_20, k_MD_delta_133, k_MD_delta_159, k_MD_delta_164, mt_kk, mt_l0, lget, lput, mt_pop, g_nil, g_const, g_null, g_iload, g_aload, g_istore, g_astore, g_iinc, g_add, g_sub, g_mul, g_and, g_xor, g_div, g_rem, g_dup, g_dup2, g_pop, g_get, g_putI, g_putZ, g_putA, g_iald, g_zald, g_iast, g_zast, g_aald, g_aast, g_alen, g_new, g_newI, g_newA, g_objinit, l_fall, l_ifeq, l_ifne, l_iflt, l_ifge, l_ifgt, l_ifle, l_iceq, l_icne, l_iclt, l_icge, l_icgt, l_icle, l_nullN, l_nullS, l_nonnullN, l_nonnullS, l_acne, l_callV, l_callI, l_callS, l_ret, l_iret, l_zret, l_aret, l_after, List.length_cons, List.length_nil, Nat.reduceAdd, Nat.reduceLT, Nat.reduceLeDiff, Nat.reduceEqDiff, and_self, and_true, true_and, if_true, if_false, reduceIte, ite_true, ite_false, beq_self_eq_true, Nat.zero_add, Option.toList_some, Option.toList_none, List.cons_append, List.nil_append, gj_0, gj_1, gj_2, gj_3, gj_4, gj_5, gj_6, gj_7, gj_8, gj_9, gj_10, gj_11, gj_12, gj_13, gj_14, gj_15, gj_16, gj_17, gj_18, gj_19, gj_20, gj_21, gj_22, gj_23, gj_24, gj_25, gj_26, gj_27, pj_4, pj_5, pj_9, pj_10, pj_11, pj_12, pj_19, pj_20, pj_26, ij_1, ij_2, ij_3, ij_4, ij_5, ij_6, ij_7, ij_8, ij_9, ij_10, ij_11, ij_12, ij_13, ij_14, ij_15, ij_16, ij_17, ij_18, ij_19, vf_1, vf_2, vf_3, vf_4, vf_5, vf_6, vf_7, vf_8, vf_9, vf_10, vf_11, vf_12, vf_13, vf_14, vf_15, vf_16, vf_17, vf_18, vf_19, sj, nI_add, hx3, c3, hd, hx2, c2, e9, ha, x_add (show 3 < 8 by decide), hxe, z_0]
      have gh : ∀ q, q ≠ 0 → q ≠ 11 → q ≠ 18 → q ≠ 19 → vu (vu U1 19 3 (U1 19 3 + nI 1)) 11 e0 (nI 0) q = U q := fun q e1 e2 e3 e4 => by rw [vu_off e2, vu_off e4, gg q e1 e3]
      have gh0 : ∀ k, k ≠ 26 → vu (vu U1 19 3 (U1 19 3 + nI 1)) 11 e0 (nI 0) 0 k = U 0 k := fun k e1 => by rw [up_ne (by decide), up_ne (by decide), g0 k e1]
      refine hfin _ _ _ _ _ _ _ _ _ hopf (dR_new h hy (fun k hk => gh0 k (by omega)) (fun q q1 q2 => gh q (by omega) (by omega) (by omega) (by omega)) (by rw [hjn]; exact (gh0 20 (by decide)).trans a4) ?_ (oR_congr (gh0 12 (by decide)) (fun q q1 q2 => gh q (by omega) (by omega) (by omega) (by omega)) s6) (fun _ => hopen _ ?_) (nR_congr (by rw [gh 12 (by decide) (by decide) (by decide) (by decide)]) (fun i _ => by rw [gh 13 (by decide) (by decide) (by decide) (by decide)]) s8) (nR_congr (by rw [gh 12 (by decide) (by decide) (by decide) (by decide)]) (fun i _ => by rw [gh 13 (by decide) (by decide) (by decide) (by decide)]) s9))
      · intro k hk
        rw [up_ne (by decide)]
        exact ct_bpM (fun k hk => by rw [gg 19 (by decide) (by decide)]; exact a5 k hk) (by decide) k hk
      · rw [vu_row, vu_off (by decide), gg 11 (by decide) (by decide)]
end MD
