/-! Rows of bytes: appending a part of another row, becoming another row. -/
theorem rb1_le {old : List Nat} {p : Nat} : ∀ {m i : Nat}, i ≤ m → (a_rb1 old p i).length ≤ (a_rb1 old p m).length := by
  intro m
  induction m with
  | zero => intro i h; rw [show i = 0 by omega]; exact Nat.le_refl _
  | succ m ih =>
    intro i h
    by_cases hc : i = m + 1
    · rw [hc]; exact Nat.le_refl _
    · refine Nat.le_trans (ih (show i ≤ m by omega)) ?_
      simp only [a_rb1, List.length_append]
      omega
/-- the rows at o and o2 have no cell in common -/
def ap2 (o o2 : Nat) : Prop := o ≠ o2 ∧ o ≠ o2 + 1 ∧ o + 1 ≠ o2
section RO
variable {n w b : Nat} {f : Nat → Option m_E} {o o2 : Nat} {old l : List Nat}
theorem lp_part {V0 : v_N} {p m : Nat} (hi : iR o) (hi2 : iR o2) (ha : ap2 o o2) (ho : old.length ≤ 40) (hm : p + m < 2 ^ 31) (hl : (l ++ a_rb1 old p m).length ≤ 40) (Q : m_R → Prop) (hq : ∀ V1, rR V1 o (l ++ a_rb1 old p m) → fr2 V0 V1 o → Q (none, (n, w, img b V1 f))) (d : Nat) : ∀ (i : Nat) (V : v_N), i + d = m → rR V o (l ++ a_rb1 old p i) → rR V o2 old → fr2 V0 V o → mt_T cd_Ro_appendPart 3 ([some (.inr (some (b + o))), some (.inr (some (b + o2))), some (.inl (nI p)), some (.inl (nI m)), some (.inl (nI i))], [], (n, w, img b V f)) Q := by
  induction d with
  | zero =>
    intro i V hd h1 h2 h3
    have hd : i = m := hd
    subst hd
    simp only [k_Ro_appendPart_3, k_Ro_appendPart_39, mt_kk, mt_l0, lget, lput, fnth, fset, gf, pf, gi, ga, mt_is, mt_pop, g_nil, g_const, g_null, g_iload, g_aload, g_istore, g_astore, g_iinc, g_add, g_sub, g_mul, g_and, g_xor, g_div, g_rem, g_dup, g_dup2, g_pop, g_get, g_putI, g_putZ, g_putA, g_iald, g_zald, g_iast, g_zast, g_aald, g_aast, g_alen, g_new, g_newI, g_newA, g_objinit, l_fall, l_ifeq, l_ifne, l_iflt, l_ifge, l_ifgt, l_ifle, l_iceq, l_icne, l_iclt, l_icge, l_icgt, l_icle, l_nullN, l_nullS, l_nonnullN, l_nonnullS, l_acne, l_callV, l_callI, l_callS, l_ret, l_iret, l_zret, l_aret, l_after, List.length_cons, List.length_nil, Nat.reduceAdd, Nat.reduceLT, Nat.reduceLeDiff, Nat.reduceEqDiff, and_self, and_true, true_and, if_true, if_false, reduceIte, ite_true, ite_false, beq_self_eq_true, Nat.zero_add, Option.toList_some, Option.toList_none, List.cons_append, List.nil_append, nI_leE (a := i) (b := i) (by omega) (by omega), Nat.le_refl]
    exact hq V h1 h3
  | succ d ih =>
    intro i V hd h1 h2 h3
    have e1 := nI_leE (a := m) (b := i) (by omega) (by omega)
    have hc : ¬ m ≤ i := by omega
    have hle := rb1_le (old := old) (p := p) (show i ≤ m by omega)
    have hle2 := rb1_le (old := old) (p := p) (show i + 1 ≤ m by omega)
    rw [List.length_append] at hl
    rw [k_Ro_appendPart_3]
    by_cases hh : p + i < old.length
    · have hx := mt_ix_nI (j := p + i) (n := 40) (by omega) (by decide)
      have hlt : (l ++ a_rb1 old p i).length < 40 := by
        simp only [a_rb1, if_pos hh, List.length_append, List.length_cons, List.length_nil] at hle2 ⊢
        omega
      simp only [k_Ro_appendPart_9, k_Ro_appendPart_17, k_Ro_appendPart_20, k_Ro_appendPart_33, mt_kk, mt_l0, lget, lput, fnth, fset, gf, pf, gi, ga, mt_is, mt_pop, g_nil, g_const, g_null, g_iload, g_aload, g_istore, g_astore, g_iinc, g_add, g_sub, g_mul, g_and, g_xor, g_div, g_rem, g_dup, g_dup2, g_pop, g_get, g_putI, g_putZ, g_putA, g_iald, g_zald, g_iast, g_zast, g_aald, g_aast, g_alen, g_new, g_newI, g_newA, g_objinit, l_fall, l_ifeq, l_ifne, l_iflt, l_ifge, l_ifgt, l_ifle, l_iceq, l_icne, l_iclt, l_icge, l_icgt, l_icle, l_nullN, l_nullS, l_nonnullN, l_nonnullS, l_acne, l_callV, l_callI, l_callS, l_ret, l_iret, l_zret, l_aret, l_after, List.length_cons, List.length_nil, Nat.reduceAdd, Nat.reduceLT, Nat.reduceLeDiff, Nat.reduceEqDiff, and_self, and_true, true_and, if_true, if_false, reduceIte, ite_true, ite_false, beq_self_eq_true, Nat.zero_add, Option.toList_some, Option.toList_none, List.cons_append, List.nil_append, e1, hc, nI_add, x_holds hi2 h2 ho (show p + i < 2 ^ 31 by omega), decide_eq_true hh, bI_t, e_1, im_Ro (iR0 hi2) hi2.1, im_i40 hi2.2.2 hi2.2.1, im_Ro (iR0 hi) hi.1, hx, h2.2 (p + i) hh, x_append hi h1 hlt]
      refine ih (i + 1) _ (by omega) ?_ ?_ ?_
      · have h5 := rR_app (c := old.getD (p + i) 0) h1
        simp only [a_rb1, if_pos hh]
        rw [← List.append_assoc]
        exact h5
      · refine rR_congr ?_ ?_ h2
        · rw [vu_off (fun e => ha.1 e.symm), vu_off (fun e => ha.2.2 e.symm)]
        · rw [vu_off (fun e => ha.2.1 e.symm), vu_off (fun e => ha.1 (by omega))]
      · exact fr2_2 (fr2_2 h3 fr2_u1) fr2_u0
    · simp only [k_Ro_appendPart_9, k_Ro_appendPart_17, k_Ro_appendPart_33, mt_kk, mt_l0, lget, lput, fnth, fset, gf, pf, gi, ga, mt_is, mt_pop, g_nil, g_const, g_null, g_iload, g_aload, g_istore, g_astore, g_iinc, g_add, g_sub, g_mul, g_and, g_xor, g_div, g_rem, g_dup, g_dup2, g_pop, g_get, g_putI, g_putZ, g_putA, g_iald, g_zald, g_iast, g_zast, g_aald, g_aast, g_alen, g_new, g_newI, g_newA, g_objinit, l_fall, l_ifeq, l_ifne, l_iflt, l_ifge, l_ifgt, l_ifle, l_iceq, l_icne, l_iclt, l_icge, l_icgt, l_icle, l_nullN, l_nullS, l_nonnullN, l_nonnullS, l_acne, l_callV, l_callI, l_callS, l_ret, l_iret, l_zret, l_aret, l_after, List.length_cons, List.length_nil, Nat.reduceAdd, Nat.reduceLT, Nat.reduceLeDiff, Nat.reduceEqDiff, and_self, and_true, true_and, if_true, if_false, reduceIte, ite_true, ite_false, beq_self_eq_true, Nat.zero_add, Option.toList_some, Option.toList_none, List.cons_append, List.nil_append, e1, hc, nI_add, x_holds hi2 h2 ho (show p + i < 2 ^ 31 by omega), decide_eq_false hh, bI_f, e_0, im_Ro (iR0 hi2) hi2.1]
      refine ih (i + 1) V (by omega) ?_ h2 h3
      simp only [a_rb1, if_neg hh, List.append_nil]
      exact h1
theorem x_part {V : v_N} {p m : Nat} (hi : iR o) (hi2 : iR o2) (ha : ap2 o o2) (ho : old.length ≤ 40) (hm : p + m < 2 ^ 31) (hl : (l ++ a_rb1 old p m).length ≤ 40) (h1 : rR V o l) (h2 : rR V o2 old) : mt_P sm_Ro_appendPart [.inr (some (b + o)), .inr (some (b + o2)), .inl (nI p), .inl (nI m)] (n, w, img b V f) (fun r => ∃ V1, r = (none, (n, w, img b V1 f)) ∧ rR V1 o (l ++ a_rb1 old p m) ∧ fr2 V V1 o) := by
  refine mt_P_of ?_
  simp only [k_Ro_appendPart_0, mt_kk, mt_l0, lget, lput, fnth, fset, gf, pf, gi, ga, mt_is, mt_pop, g_nil, g_const, g_null, g_iload, g_aload, g_istore, g_astore, g_iinc, g_add, g_sub, g_mul, g_and, g_xor, g_div, g_rem, g_dup, g_dup2, g_pop, g_get, g_putI, g_putZ, g_putA, g_iald, g_zald, g_iast, g_zast, g_aald, g_aast, g_alen, g_new, g_newI, g_newA, g_objinit, l_fall, l_ifeq, l_ifne, l_iflt, l_ifge, l_ifgt, l_ifle, l_iceq, l_icne, l_iclt, l_icge, l_icgt, l_icle, l_nullN, l_nullS, l_nonnullN, l_nonnullS, l_acne, l_callV, l_callI, l_callS, l_ret, l_iret, l_zret, l_aret, l_after, List.length_cons, List.length_nil, Nat.reduceAdd, Nat.reduceLT, Nat.reduceLeDiff, Nat.reduceEqDiff, and_self, and_true, true_and, if_true, if_false, reduceIte, ite_true, ite_false, beq_self_eq_true, Nat.zero_add, Option.toList_some, Option.toList_none, List.cons_append, List.nil_append]
  refine lp_part (V0 := V) (l := l) (old := old) hi hi2 ha ho hm hl _ (fun V1 h3 h4 => ⟨V1, rfl, h3, h4⟩) m 0 V (by omega) ?_ h2 fr2_0
  simp only [a_rb1, List.append_nil]
  exact h1
theorem lp_become {V0 : v_N} (hi : iR o) (hi2 : iR o2) (ha : ap2 o o2) (ho : old.length ≤ 40) (Q : m_R → Prop) (hq : ∀ V1, rR V1 o old → fr2 V0 V1 o → Q (none, (n, w, img b V1 f))) (d : Nat) : ∀ (i : Nat) (V : v_N), i + d = old.length → V o 1 = nI old.length → (∀ j, j < i → V (o + 1) j = nI (old.getD j 0)) → rR V o2 old → fr2 V0 V o → mt_T cd_Ro_become 10 ([some (.inr (some (b + o))), some (.inr (some (b + o2))), some (.inl (nI i))], [], (n, w, img b V f)) Q := by
  induction d with
  | zero =>
    intro i V hd h0 h1 h2 h3
    have hd : i = old.length := hd
    subst hd
    simp only [k_Ro_become_10, k_Ro_become_36, mt_kk, mt_l0, lget, lput, fnth, fset, gf, pf, gi, ga, mt_is, mt_pop, g_nil, g_const, g_null, g_iload, g_aload, g_istore, g_astore, g_iinc, g_add, g_sub, g_mul, g_and, g_xor, g_div, g_rem, g_dup, g_dup2, g_pop, g_get, g_putI, g_putZ, g_putA, g_iald, g_zald, g_iast, g_zast, g_aald, g_aast, g_alen, g_new, g_newI, g_newA, g_objinit, l_fall, l_ifeq, l_ifne, l_iflt, l_ifge, l_ifgt, l_ifle, l_iceq, l_icne, l_iclt, l_icge, l_icgt, l_icle, l_nullN, l_nullS, l_nonnullN, l_nonnullS, l_acne, l_callV, l_callI, l_callS, l_ret, l_iret, l_zret, l_aret, l_after, List.length_cons, List.length_nil, Nat.reduceAdd, Nat.reduceLT, Nat.reduceLeDiff, Nat.reduceEqDiff, and_self, and_true, true_and, if_true, if_false, reduceIte, ite_true, ite_false, beq_self_eq_true, Nat.zero_add, Option.toList_some, Option.toList_none, List.cons_append, List.nil_append, im_Ro (iR0 hi) hi.1, h0, nI_leE (a := old.length) (b := old.length) (by omega) (by omega), Nat.le_refl]
    exact hq V ⟨h0, h1⟩ h3
  | succ d ih =>
    intro i V hd h0 h1 h2 h3
    have e1 := nI_leE (a := old.length) (b := i) (by omega) (by omega)
    have hc : ¬ old.length ≤ i := by omega
    have hx := mt_ix_nI (j := i) (n := 40) (by omega) (by decide)
    rw [k_Ro_become_10]
    simp only [k_Ro_become_18, mt_kk, mt_l0, lget, lput, fnth, fset, gf, pf, gi, ga, mt_is, mt_pop, g_nil, g_const, g_null, g_iload, g_aload, g_istore, g_astore, g_iinc, g_add, g_sub, g_mul, g_and, g_xor, g_div, g_rem, g_dup, g_dup2, g_pop, g_get, g_putI, g_putZ, g_putA, g_iald, g_zald, g_iast, g_zast, g_aald, g_aast, g_alen, g_new, g_newI, g_newA, g_objinit, l_fall, l_ifeq, l_ifne, l_iflt, l_ifge, l_ifgt, l_ifle, l_iceq, l_icne, l_iclt, l_icge, l_icgt, l_icle, l_nullN, l_nullS, l_nonnullN, l_nonnullS, l_acne, l_callV, l_callI, l_callS, l_ret, l_iret, l_zret, l_aret, l_after, List.length_cons, List.length_nil, Nat.reduceAdd, Nat.reduceLT, Nat.reduceLeDiff, Nat.reduceEqDiff, and_self, and_true, true_and, if_true, if_false, reduceIte, ite_true, ite_false, beq_self_eq_true, Nat.zero_add, Option.toList_some, Option.toList_none, List.cons_append, List.nil_append, im_Ro (iR0 hi) hi.1, im_Ro (iR0 hi2) hi2.1, im_i40 hi.2.2 hi.2.1, im_i40 hi2.2.2 hi2.2.1, up_i40 hi.2.2 hi.2.1, h0, e1, hc, hx, h2.2 i (show i < old.length by omega), nI_add]
    refine ih (i + 1) _ (by omega) ?_ ?_ ?_ (fr2_2 h3 fr2_u1)
    · rw [up_ne (by omega)]
      exact h0
    · intro j hj
      by_cases hji : j = i
      · subst hji
        exact vu_same
      · rw [vu_slot hji]
        exact h1 j (by omega)
    · refine rR_congr ?_ ?_ h2
      · rw [vu_off (fun e => ha.2.2 e.symm)]
      · rw [vu_off (fun e => ha.1 (by omega))]
theorem x_become {V : v_N} (hi : iR o) (hi2 : iR o2) (ha : ap2 o o2) (ho : old.length ≤ 40) (h2 : rR V o2 old) : mt_P sm_Ro_become [.inr (some (b + o)), .inr (some (b + o2))] (n, w, img b V f) (fun r => ∃ V1, r = (none, (n, w, img b V1 f)) ∧ rR V1 o old ∧ fr2 V V1 o) := by
  refine mt_P_of ?_
  simp only [k_Ro_become_0, mt_kk, mt_l0, lget, lput, fnth, fset, gf, pf, gi, ga, mt_is, mt_pop, g_nil, g_const, g_null, g_iload, g_aload, g_istore, g_astore, g_iinc, g_add, g_sub, g_mul, g_and, g_xor, g_div, g_rem, g_dup, g_dup2, g_pop, g_get, g_putI, g_putZ, g_putA, g_iald, g_zald, g_iast, g_zast, g_aald, g_aast, g_alen, g_new, g_newI, g_newA, g_objinit, l_fall, l_ifeq, l_ifne, l_iflt, l_ifge, l_ifgt, l_ifle, l_iceq, l_icne, l_iclt, l_icge, l_icgt, l_icle, l_nullN, l_nullS, l_nonnullN, l_nonnullS, l_acne, l_callV, l_callI, l_callS, l_ret, l_iret, l_zret, l_aret, l_after, List.length_cons, List.length_nil, Nat.reduceAdd, Nat.reduceLT, Nat.reduceLeDiff, Nat.reduceEqDiff, and_self, and_true, true_and, if_true, if_false, reduceIte, ite_true, ite_false, beq_self_eq_true, Nat.zero_add, Option.toList_some, Option.toList_none, List.cons_append, List.nil_append, im_Ro (iR0 hi2) hi2.1, im_Ro (iR0 hi) hi.1, up_Ro_1 (iR0 hi) hi.1, h2.1]
  refine lp_become (V0 := V) hi hi2 ha ho _ (fun V1 h3 h4 => ⟨V1, rfl, h3, h4⟩) old.length 0 _ (by omega) vu_same (fun j hj => by cases hj) ?_ fr2_u0
  refine rR_congr ?_ ?_ h2
  · rw [vu_off (fun e => ha.1 e.symm)]
  · rw [vu_off (fun e => ha.2.1 e.symm)]
end RO
