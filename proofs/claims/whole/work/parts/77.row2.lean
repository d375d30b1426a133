/-! Rows of bytes: the loops. -/
section RO
variable {n w b : Nat} {V : v_N} {f : Nat → Option m_E} {o : Nat} {l : List Nat}
theorem lp_strong {p m : Nat} (hi : iR o) (h : rR V o l) (hl : l.length ≤ 40) (hb : ∀ x ∈ l, x < 256) (hm : p + m ≤ l.length) (Q : m_R → Prop) (hq : Q (some (.inl (nI (sg (fun i => l.getD (p + i) 0) m))), (n, w, img b V f))) : ∀ (d i : Nat), i + d = m → mt_T cd_Ro_strongSum 5 ([some (.inr (some (b + o))), some (.inl (nI p)), some (.inl (nI m)), some (.inl (nI (sg (fun i => l.getD (p + i) 0) i))), some (.inl (nI i))], [], (n, w, img b V f)) Q
  | 0, i, hd => by
    have hd : i = m := hd
    subst hd
    simp only [k_Ro_strongSum_5, k_Ro_strongSum_36, mt_kk, mt_l0, lget, lput, fnth, fset, gf, pf, gi, ga, mt_is, mt_pop, g_nil, g_const, g_null, g_iload, g_aload, g_istore, g_astore, g_iinc, g_add, g_sub, g_mul, g_and, g_xor, g_div, g_rem, g_dup, g_dup2, g_pop, g_get, g_putI, g_putZ, g_putA, g_iald, g_zald, g_iast, g_zast, g_aald, g_aast, g_alen, g_new, g_newI, g_newA, g_objinit, l_fall, l_ifeq, l_ifne, l_iflt, l_ifge, l_ifgt, l_ifle, l_iceq, l_icne, l_iclt, l_icge, l_icgt, l_icle, l_nullN, l_nullS, l_nonnullN, l_nonnullS, l_acne, l_callV, l_callI, l_callS, l_ret, l_iret, l_zret, l_aret, l_after, List.length_cons, List.length_nil, Nat.reduceAdd, Nat.reduceLT, Nat.reduceLeDiff, Nat.reduceEqDiff, and_self, and_true, true_and, if_true, if_false, reduceIte, ite_true, ite_false, beq_self_eq_true, Nat.zero_add, Option.toList_some, Option.toList_none, List.cons_append, List.nil_append, nI_leE (a := i) (b := i) (by omega) (by omega), Nat.le_refl]
    exact hq
  | d + 1, i, hd => by
    have h1 := nI_leE (a := m) (b := i) (by omega) (by omega)
    have hc : ¬ m ≤ i := by omega
    have hx : l.getD (p + i) 0 < 256 := by
      rw [List.getD_eq_getElem?_getD, List.getElem?_eq_getElem (by omega)]
      exact hb _ (List.getElem_mem _)
    have hs := sg_lt (g := fun i => l.getD (p + i) 0) i
    have hr := pk_rem (a := sg (fun i => l.getD (p + i) 0) i * 31 + l.getD (p + i) 0 + 1) (d := 65521) (by omega) (by decide) (by decide)
    rw [k_Ro_strongSum_5]
    simp only [k_Ro_strongSum_11, k_Ro_strongSum_23, mt_kk, mt_l0, lget, lput, fnth, fset, gf, pf, gi, ga, mt_is, mt_pop, g_nil, g_const, g_null, g_iload, g_aload, g_istore, g_astore, g_iinc, g_add, g_sub, g_mul, g_and, g_xor, g_div, g_rem, g_dup, g_dup2, g_pop, g_get, g_putI, g_putZ, g_putA, g_iald, g_zald, g_iast, g_zast, g_aald, g_aast, g_alen, g_new, g_newI, g_newA, g_objinit, l_fall, l_ifeq, l_ifne, l_iflt, l_ifge, l_ifgt, l_ifle, l_iceq, l_icne, l_iclt, l_icge, l_icgt, l_icle, l_nullN, l_nullS, l_nonnullN, l_nonnullS, l_acne, l_callV, l_callI, l_callS, l_ret, l_iret, l_zret, l_aret, l_after, List.length_cons, List.length_nil, Nat.reduceAdd, Nat.reduceLT, Nat.reduceLeDiff, Nat.reduceEqDiff, and_self, and_true, true_and, if_true, if_false, reduceIte, ite_true, ite_false, beq_self_eq_true, Nat.zero_add, Option.toList_some, Option.toList_none, List.cons_append, List.nil_append, h1, hc, nI_add, pk_mul, x_byteAt hi h hl (show p + i < l.length by omega), im_Ro (iR0 hi) hi.1, hr, (show (nI 65521 = 0) = False from eq_false (by decide))]
    exact lp_strong hi h hl hb hm Q hq d (i + 1) (by omega)
theorem x_strong {p m : Nat} (hi : iR o) (h : rR V o l) (hl : l.length ≤ 40) (hb : ∀ x ∈ l, x < 256) (hm : p + m ≤ l.length) : sm_Ro_strongSum [.inr (some (b + o)), .inl (nI p), .inl (nI m)] (n, w, img b V f) = some (some (.inl (nI (sg (fun i => l.getD (p + i) 0) m))), (n, w, img b V f)) := by
  refine mt_sem_eq ?_
  simp only [k_Ro_strongSum_0, mt_kk, mt_l0, lget, lput, fnth, fset, gf, pf, gi, ga, mt_is, mt_pop, g_nil, g_const, g_null, g_iload, g_aload, g_istore, g_astore, g_iinc, g_add, g_sub, g_mul, g_and, g_xor, g_div, g_rem, g_dup, g_dup2, g_pop, g_get, g_putI, g_putZ, g_putA, g_iald, g_zald, g_iast, g_zast, g_aald, g_aast, g_alen, g_new, g_newI, g_newA, g_objinit, l_fall, l_ifeq, l_ifne, l_iflt, l_ifge, l_ifgt, l_ifle, l_iceq, l_icne, l_iclt, l_icge, l_icgt, l_icle, l_nullN, l_nullS, l_nonnullN, l_nonnullS, l_acne, l_callV, l_callI, l_callS, l_ret, l_iret, l_zret, l_aret, l_after, List.length_cons, List.length_nil, Nat.reduceAdd, Nat.reduceLT, Nat.reduceLeDiff, Nat.reduceEqDiff, and_self, and_true, true_and, if_true, if_false, reduceIte, ite_true, ite_false, beq_self_eq_true, Nat.zero_add, Option.toList_some, Option.toList_none, List.cons_append, List.nil_append]
  exact lp_strong hi h hl hb hm (fun x => x = _) rfl m 0 (by omega)
theorem lp_weak {p m : Nat} (hi : iR o) (h : rR V o l) (hl : l.length ≤ 40) (hb : ∀ x ∈ l, x < 256) (hm : p + m ≤ l.length) (hm8 : m ≤ 8) (Q : m_R → Prop) (hq : Q (some (.inl (nI (wk (fun i => l.getD (p + i) 0) m))), (n, w, img b V f))) : ∀ (d i : Nat) (j6 : Option m_V), i + d = m → mt_T cd_Ro_weakSum 8 ([some (.inr (some (b + o))), some (.inl (nI p)), some (.inl (nI m)), some (.inl (nI (wnA (fun i => l.getD (p + i) 0) i))), some (.inl (nI (wnB (fun i => l.getD (p + i) 0) m i))), some (.inl (nI i)), j6], [], (n, w, img b V f)) Q
  | 0, i, j6, hd => by
    have hd : i = m := hd
    subst hd
    have hg : ∀ j, j < i → l.getD (p + j) 0 < 256 := fun j hj => by
      rw [List.getD_eq_getElem?_getD, List.getElem?_eq_getElem (by omega)]
      exact hb _ (List.getElem_mem _)
    have ha := wnA_le (g := fun j => l.getD (p + j) 0) (i := i) hg
    have hbb := wnB_le (g := fun j => l.getD (p + j) 0) (m := i) hm8 (i := i) hg
    have r1 := pk_rem (a := wnA (fun i => l.getD (p + i) 0) i) (d := 16) (by omega) (by decide) (by decide)
    have r2 := pk_rem (a := wnB (fun i => l.getD (p + i) 0) i i) (d := 16) (by omega) (by decide) (by decide)
    simp only [k_Ro_weakSum_8, k_Ro_weakSum_47, mt_kk, mt_l0, lget, lput, fnth, fset, gf, pf, gi, ga, mt_is, mt_pop, g_nil, g_const, g_null, g_iload, g_aload, g_istore, g_astore, g_iinc, g_add, g_sub, g_mul, g_and, g_xor, g_div, g_rem, g_dup, g_dup2, g_pop, g_get, g_putI, g_putZ, g_putA, g_iald, g_zald, g_iast, g_zast, g_aald, g_aast, g_alen, g_new, g_newI, g_newA, g_objinit, l_fall, l_ifeq, l_ifne, l_iflt, l_ifge, l_ifgt, l_ifle, l_iceq, l_icne, l_iclt, l_icge, l_icgt, l_icle, l_nullN, l_nullS, l_nonnullN, l_nonnullS, l_acne, l_callV, l_callI, l_callS, l_ret, l_iret, l_zret, l_aret, l_after, List.length_cons, List.length_nil, Nat.reduceAdd, Nat.reduceLT, Nat.reduceLeDiff, Nat.reduceEqDiff, and_self, and_true, true_and, if_true, if_false, reduceIte, ite_true, ite_false, beq_self_eq_true, Nat.zero_add, Option.toList_some, Option.toList_none, List.cons_append, List.nil_append, nI_leE (a := i) (b := i) (by omega) (by omega), Nat.le_refl, r1, r2, nI_add, pk_mul, (show (nI 16 = 0) = False from eq_false (by decide))]
    exact hq
  | d + 1, i, j6, hd => by
    have h1 := nI_leE (a := m) (b := i) (by omega) (by omega)
    have hc : ¬ m ≤ i := by omega
    have h2 := pk_sub (a := m) (b := i) (by omega)
    rw [k_Ro_weakSum_8]
    simp only [k_Ro_weakSum_14, k_Ro_weakSum_22, mt_kk, mt_l0, lget, lput, fnth, fset, gf, pf, gi, ga, mt_is, mt_pop, g_nil, g_const, g_null, g_iload, g_aload, g_istore, g_astore, g_iinc, g_add, g_sub, g_mul, g_and, g_xor, g_div, g_rem, g_dup, g_dup2, g_pop, g_get, g_putI, g_putZ, g_putA, g_iald, g_zald, g_iast, g_zast, g_aald, g_aast, g_alen, g_new, g_newI, g_newA, g_objinit, l_fall, l_ifeq, l_ifne, l_iflt, l_ifge, l_ifgt, l_ifle, l_iceq, l_icne, l_iclt, l_icge, l_icgt, l_icle, l_nullN, l_nullS, l_nonnullN, l_nonnullS, l_acne, l_callV, l_callI, l_callS, l_ret, l_iret, l_zret, l_aret, l_after, List.length_cons, List.length_nil, Nat.reduceAdd, Nat.reduceLT, Nat.reduceLeDiff, Nat.reduceEqDiff, and_self, and_true, true_and, if_true, if_false, reduceIte, ite_true, ite_false, beq_self_eq_true, Nat.zero_add, Option.toList_some, Option.toList_none, List.cons_append, List.nil_append, h1, hc, nI_add, pk_mul, x_byteAt hi h hl (show p + i < l.length by omega), im_Ro (iR0 hi) hi.1, h2]
    exact lp_weak hi h hl hb hm hm8 Q hq d (i + 1) _ (by omega)
theorem x_weak {p m : Nat} (hi : iR o) (h : rR V o l) (hl : l.length ≤ 40) (hb : ∀ x ∈ l, x < 256) (hm : p + m ≤ l.length) (hm8 : m ≤ 8) : sm_Ro_weakSum [.inr (some (b + o)), .inl (nI p), .inl (nI m)] (n, w, img b V f) = some (some (.inl (nI (wk (fun i => l.getD (p + i) 0) m))), (n, w, img b V f)) := by
  refine mt_sem_eq ?_
  simp only [k_Ro_weakSum_0, mt_kk, mt_l0, lget, lput, fnth, fset, gf, pf, gi, ga, mt_is, mt_pop, g_nil, g_const, g_null, g_iload, g_aload, g_istore, g_astore, g_iinc, g_add, g_sub, g_mul, g_and, g_xor, g_div, g_rem, g_dup, g_dup2, g_pop, g_get, g_putI, g_putZ, g_putA, g_iald, g_zald, g_iast, g_zast, g_aald, g_aast, g_alen, g_new, g_newI, g_newA, g_objinit, l_fall, l_ifeq, l_ifne, l_iflt, l_ifge, l_ifgt, l_ifle, l_iceq, l_icne, l_iclt, l_icge, l_icgt, l_icle, l_nullN, l_nullS, l_nonnullN, l_nonnullS, l_acne, l_callV, l_callI, l_callS, l_ret, l_iret, l_zret, l_aret, l_after, List.length_cons, List.length_nil, Nat.reduceAdd, Nat.reduceLT, Nat.reduceLeDiff, Nat.reduceEqDiff, and_self, and_true, true_and, if_true, if_false, reduceIte, ite_true, ite_false, beq_self_eq_true, Nat.zero_add, Option.toList_some, Option.toList_none, List.cons_append, List.nil_append]
  exact lp_weak hi h hl hb hm hm8 (fun x => x = _) rfl m 0 none (by omega)
theorem x_sums {p m att : Nat} (hi : iR o) (h : rR V o l) (hl : l.length ≤ 40) (hb : ∀ x ∈ l, x < 256) (hm : p + m ≤ l.length) (hm8 : m ≤ 8) (ha : att ≤ 2) : sm_Ro_sums [.inr (some (b + o)), .inl (nI p), .inl (nI m), .inl (nI att)] (n, w, img b V f) = some (some (.inl (nI (sw (fun i => l.getD (p + i) 0) m att))), (n, w, img b V f)) := by
  refine mt_sem_eq ?_
  have h1 := nI_eqE (a := att) (b := 1) (by omega) (by decide)
  have hs := sg_lt (g := fun i => l.getD (p + i) 0) m
  have r1 := pk_rem (a := sg (fun i => l.getD (p + i) 0) m) (d := 4) (by omega) (by decide) (by decide)
  by_cases hc : att = 1
  · simp only [k_Ro_sums_0, k_Ro_sums_6, k_Ro_sums_13, k_Ro_sums_20, k_Ro_sums_22, k_Ro_sums_30, mt_kk, mt_l0, lget, lput, fnth, fset, gf, pf, gi, ga, mt_is, mt_pop, g_nil, g_const, g_null, g_iload, g_aload, g_istore, g_astore, g_iinc, g_add, g_sub, g_mul, g_and, g_xor, g_div, g_rem, g_dup, g_dup2, g_pop, g_get, g_putI, g_putZ, g_putA, g_iald, g_zald, g_iast, g_zast, g_aald, g_aast, g_alen, g_new, g_newI, g_newA, g_objinit, l_fall, l_ifeq, l_ifne, l_iflt, l_ifge, l_ifgt, l_ifle, l_iceq, l_icne, l_iclt, l_icge, l_icgt, l_icle, l_nullN, l_nullS, l_nonnullN, l_nonnullS, l_acne, l_callV, l_callI, l_callS, l_ret, l_iret, l_zret, l_aret, l_after, List.length_cons, List.length_nil, Nat.reduceAdd, Nat.reduceLT, Nat.reduceLeDiff, Nat.reduceEqDiff, and_self, and_true, true_and, if_true, if_false, reduceIte, ite_true, ite_false, beq_self_eq_true, Nat.zero_add, Option.toList_some, Option.toList_none, List.cons_append, List.nil_append, h1, hc, nI_add, pk_mul, x_strong hi h hl hb hm, x_weak hi h hl hb hm hm8, im_Ro (iR0 hi) hi.1, r1, (show (nI 4 = 0) = False from eq_false (by decide)), sw, ss]
  · simp only [k_Ro_sums_0, k_Ro_sums_6, k_Ro_sums_13, k_Ro_sums_20, k_Ro_sums_22, k_Ro_sums_30, mt_kk, mt_l0, lget, lput, fnth, fset, gf, pf, gi, ga, mt_is, mt_pop, g_nil, g_const, g_null, g_iload, g_aload, g_istore, g_astore, g_iinc, g_add, g_sub, g_mul, g_and, g_xor, g_div, g_rem, g_dup, g_dup2, g_pop, g_get, g_putI, g_putZ, g_putA, g_iald, g_zald, g_iast, g_zast, g_aald, g_aast, g_alen, g_new, g_newI, g_newA, g_objinit, l_fall, l_ifeq, l_ifne, l_iflt, l_ifge, l_ifgt, l_ifle, l_iceq, l_icne, l_iclt, l_icge, l_icgt, l_icle, l_nullN, l_nullS, l_nonnullN, l_nonnullS, l_acne, l_callV, l_callI, l_callS, l_ret, l_iret, l_zret, l_aret, l_after, List.length_cons, List.length_nil, Nat.reduceAdd, Nat.reduceLT, Nat.reduceLeDiff, Nat.reduceEqDiff, and_self, and_true, true_and, if_true, if_false, reduceIte, ite_true, ite_false, beq_self_eq_true, Nat.zero_add, Option.toList_some, Option.toList_none, List.cons_append, List.nil_append, h1, hc, nI_add, pk_mul, x_strong hi h hl hb hm, x_weak hi h hl hb hm hm8, im_Ro (iR0 hi) hi.1, sw, ss]
theorem dg_s {g : Nat → Nat} {i : Nat} : dg g (i + 1) = (dg g i ^^^ nI (g i)) * nI 16777619 := by rw [dg]
theorem st_digest {i : Nat} {D : Int32} (hi : iR o) (h : rR V o l) (hl : l.length ≤ 40) (Q : m_R → Prop) (hc : i < l.length) (k : mt_T cd_Ro_digest 5 ([some (.inr (some (b + o))), some (.inl ((D ^^^ nI (l.getD i 0)) * nI 16777619)), some (.inl (nI (i + 1)))], [], (n, w, img b V f)) Q) : mt_T cd_Ro_digest 5 ([some (.inr (some (b + o))), some (.inl D), some (.inl (nI i))], [], (n, w, img b V f)) Q := by
  have h1 := nI_leE (a := l.length) (b := i) (by omega) (by omega)
  have hc2 : ¬ l.length ≤ i := by omega
  have hx := mt_ix_nI (j := i) (n := 40) (by omega) (by decide)
  rw [k_Ro_digest_5]
  simp only [k_Ro_digest_13, mt_kk, mt_l0, lget, lput, fnth, fset, gf, pf, gi, ga, mt_is, mt_pop, g_nil, g_const, g_null, g_iload, g_aload, g_istore, g_astore, g_iinc, g_add, g_sub, g_mul, g_and, g_xor, g_div, g_rem, g_dup, g_dup2, g_pop, g_get, g_putI, g_putZ, g_putA, g_iald, g_zald, g_iast, g_zast, g_aald, g_aast, g_alen, g_new, g_newI, g_newA, g_objinit, l_fall, l_ifeq, l_ifne, l_iflt, l_ifge, l_ifgt, l_ifle, l_iceq, l_icne, l_iclt, l_icge, l_icgt, l_icle, l_nullN, l_nullS, l_nonnullN, l_nonnullS, l_acne, l_callV, l_callI, l_callS, l_ret, l_iret, l_zret, l_aret, l_after, List.length_cons, List.length_nil, Nat.reduceAdd, Nat.reduceLT, Nat.reduceLeDiff, Nat.reduceEqDiff, and_self, and_true, true_and, if_true, if_false, reduceIte, ite_true, ite_false, beq_self_eq_true, Nat.zero_add, Option.toList_some, Option.toList_none, List.cons_append, List.nil_append, im_Ro (iR0 hi) hi.1, im_i40 hi.2.2 hi.2.1, h.1, h1, hc2, hx, nI_add, h.2 i hc]
  exact k
theorem lp_digest (hi : iR o) (h : rR V o l) (hl : l.length ≤ 40) (Q : m_R → Prop) (hq : Q (some (.inl (dg (fun i => l.getD i 0) l.length)), (n, w, img b V f))) (d : Nat) : ∀ (i : Nat), i + d = l.length → mt_T cd_Ro_digest 5 ([some (.inr (some (b + o))), some (.inl (dg (fun i => l.getD i 0) i)), some (.inl (nI i))], [], (n, w, img b V f)) Q := by
  induction d with
  | zero =>
    intro i hd
    have hd : i = l.length := hd
    subst hd
    simp only [k_Ro_digest_5, k_Ro_digest_31, mt_kk, mt_l0, lget, lput, fnth, fset, gf, pf, gi, ga, mt_is, mt_pop, g_nil, g_const, g_null, g_iload, g_aload, g_istore, g_astore, g_iinc, g_add, g_sub, g_mul, g_and, g_xor, g_div, g_rem, g_dup, g_dup2, g_pop, g_get, g_putI, g_putZ, g_putA, g_iald, g_zald, g_iast, g_zast, g_aald, g_aast, g_alen, g_new, g_newI, g_newA, g_objinit, l_fall, l_ifeq, l_ifne, l_iflt, l_ifge, l_ifgt, l_ifle, l_iceq, l_icne, l_iclt, l_icge, l_icgt, l_icle, l_nullN, l_nullS, l_nonnullN, l_nonnullS, l_acne, l_callV, l_callI, l_callS, l_ret, l_iret, l_zret, l_aret, l_after, List.length_cons, List.length_nil, Nat.reduceAdd, Nat.reduceLT, Nat.reduceLeDiff, Nat.reduceEqDiff, and_self, and_true, true_and, if_true, if_false, reduceIte, ite_true, ite_false, beq_self_eq_true, Nat.zero_add, Option.toList_some, Option.toList_none, List.cons_append, List.nil_append, im_Ro (iR0 hi) hi.1, h.1, nI_leE (a := l.length) (b := l.length) (by omega) (by omega), Nat.le_refl]
    exact hq
  | succ d ih =>
    intro i hd
    refine st_digest hi h hl Q (by omega) ?_
    have h2 := ih (i + 1) (by omega)
    rw [dg_s] at h2
    exact h2
theorem x_digest (hi : iR o) (h : rR V o l) (hl : l.length ≤ 40) : sm_Ro_digest [.inr (some (b + o))] (n, w, img b V f) = some (some (.inl (dg (fun i => l.getD i 0) l.length)), (n, w, img b V f)) := by
  refine mt_sem_eq ?_
  have e0 : (-2128831035 : Int32) = dg (fun i => l.getD i 0) 0 := by simp only [dg]
  simp only [k_Ro_digest_0, mt_kk, mt_l0, lget, lput, fnth, fset, gf, pf, gi, ga, mt_is, mt_pop, g_nil, g_const, g_null, g_iload, g_aload, g_istore, g_astore, g_iinc, g_add, g_sub, g_mul, g_and, g_xor, g_div, g_rem, g_dup, g_dup2, g_pop, g_get, g_putI, g_putZ, g_putA, g_iald, g_zald, g_iast, g_zast, g_aald, g_aast, g_alen, g_new, g_newI, g_newA, g_objinit, l_fall, l_ifeq, l_ifne, l_iflt, l_ifge, l_ifgt, l_ifle, l_iceq, l_icne, l_iclt, l_icge, l_icgt, l_icle, l_nullN, l_nullS, l_nonnullN, l_nonnullS, l_acne, l_callV, l_callI, l_callS, l_ret, l_iret, l_zret, l_aret, l_after, List.length_cons, List.length_nil, Nat.reduceAdd, Nat.reduceLT, Nat.reduceLeDiff, Nat.reduceEqDiff, and_self, and_true, true_and, if_true, if_false, reduceIte, ite_true, ite_false, beq_self_eq_true, Nat.zero_add, Option.toList_some, Option.toList_none, List.cons_append, List.nil_append]
  rw [e0]
  exact lp_digest hi h hl (fun x => x = _) rfl l.length 0 (by omega)
end RO
/-- V and V1 differ in the row at o alone -/
def fr2 (V V1 : v_N) (o : Nat) : Prop := ∀ o1, o1 ≠ o → o1 ≠ o + 1 → V1 o1 = V o1
theorem fr2_0 {V : v_N} {o : Nat} : fr2 V V o := fun _ _ _ => rfl
theorem fr2_2 {V V1 V2 : v_N} {o : Nat} (h : fr2 V V1 o) (h2 : fr2 V1 V2 o) : fr2 V V2 o := fun o1 a c => (h2 o1 a c).trans (h o1 a c)
theorem fr2_u0 {V : v_N} {o k : Nat} {x : Int32} : fr2 V (vu V o k x) o := fun o1 a _ => vu_off a
theorem fr2_u1 {V : v_N} {o k : Nat} {x : Int32} : fr2 V (vu V (o + 1) k x) o := fun o1 _ c => vu_off c
theorem rR_congr {V V1 : v_N} {o : Nat} {l : List Nat} (h0 : V1 o = V o) (h1 : V1 (o + 1) = V (o + 1)) (h : rR V o l) : rR V1 o l := ⟨by rw [h0]; exact h.1, fun j hj => by rw [h1]; exact h.2 j hj⟩
theorem rR_app {V : v_N} {o c : Nat} {l : List Nat} (h : rR V o l) : rR (vu (vu V (o + 1) l.length (nI c)) o 1 (nI (l.length + 1))) o (l ++ [c]) := by
  refine ⟨?_, fun j hj => ?_⟩
  · rw [vu_same, List.length_append]
    rfl
  · rw [up_ne (by omega), gd_app]
    by_cases hc : j = l.length
    · subst hc
      rw [vu_same, if_pos rfl]
    · rw [vu_slot hc, if_neg hc]
      rw [List.length_append] at hj
      simp only [List.length_cons, List.length_nil] at hj
      exact h.2 j (by omega)
theorem rR_set {V : v_N} {o c j : Nat} {l : List Nat} (h : rR V o l) (hj : j < l.length) : rR (vu V (o + 1) j (nI c)) o (l.set j c) := by
  refine ⟨?_, fun i hi => ?_⟩
  · rw [up_ne (by omega), List.length_set]
    exact h.1
  · rw [gd_set hj]
    by_cases hc : i = j
    · subst hc
      rw [vu_same, if_pos rfl]
    · rw [vu_slot hc, if_neg hc]
      rw [List.length_set] at hi
      exact h.2 i hi
theorem rR_nil {V : v_N} {o : Nat} : rR (vu V o 1 (nI 0)) o [] := ⟨vu_same, fun j hj => by cases hj⟩
