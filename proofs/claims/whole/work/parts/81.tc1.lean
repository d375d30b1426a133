/-! The class: small private methods, and the calls that only read. -/
abbrev a_Z : Type := Int32 × a_R × (Nat → a_F) × a_J × (Nat → Int32) × Option a_S
def cR (V : v_N) (z : a_Z) : Prop := V 0 8 = z.1 ∧ uR V z.2.1 ∧ (∀ i, i < 24 → fR V (104 + 3 * i) (z.2.2.1 i)) ∧ jR V z.2.2.2.1 ∧ (∀ k, k < 8 → V 103 k = z.2.2.2.2.1 k) ∧ sR V z.2.2.2.2.2
/-- a tree and a name, if they are right -/
def a_ix (t k : Int32) : Option Nat := if ¬ t < 0 ∧ ¬ nI 2 ≤ t ∧ ¬ k < 0 ∧ ¬ nI 12 ≤ k then some (t.toNatClampNeg * 12 + k.toNatClampNeg) else none
def a_bd (t k : Int32) : Prop := t < 0 ∨ nI 2 ≤ t ∨ k < 0 ∨ nI 12 ≤ k
theorem a_ix_y {i j : Nat} (hi : i < 2) (hj : j < 12) : a_ix (nI i) (nI j) = some (i * 12 + j) := by
  unfold a_ix
  rw [if_pos ⟨nI_pos (by omega), nI_ge hi (by decide), nI_pos (by omega), nI_ge hj (by decide)⟩, nI_clamp (by omega), nI_clamp (by omega)]
theorem a_ix_n {t k : Int32} (h : a_bd t k) : a_ix t k = none := by
  unfold a_ix
  rw [if_neg]
  rintro ⟨h1, h2, h3, h4⟩
  rcases h with h | h | h | h
  · exact h1 h
  · exact h2 h
  · exact h3 h
  · exact h4 h
theorem a_cases (t k : Int32) : a_bd t k ∨ ∃ i j : Nat, i < 2 ∧ j < 12 ∧ t = nI i ∧ k = nI j := by
  rcases pk_ix t (n := 2) (by decide) with h | h | ⟨i, hi, he⟩
  · exact Or.inl (Or.inl h)
  · exact Or.inl (Or.inr (Or.inl h))
  · rcases pk_ix k (n := 12) (by decide) with h | h | ⟨j, hj, he2⟩
    · exact Or.inl (Or.inr (Or.inr (Or.inl h)))
    · exact Or.inl (Or.inr (Or.inr (Or.inr h)))
    · exact Or.inr ⟨i, j, hi, hj, he, he2⟩
theorem nI_lt_of {x : Int32} {k : Nat} (hk : k + 1 < 2 ^ 31) (h : nI (k + 1) ≤ x) : nI k < x := by
  rw [Int32.lt_iff_toInt_lt]
  rw [Int32.le_iff_toInt_le] at h
  rw [nI_toInt (by omega)] at h ⊢
  omega
section TC
variable {n w b : Nat} {V : v_N} {f : Nat → Option m_E}
theorem x_isName {j : Nat} {M : m_M} (h : j < 12) : sm_TC_isName [.inl (nI j)] M = some (some (.inl (nI 1)), M) := by
  refine mt_sem_eq ?_
  simp only [k_TC_isName_0, k_TC_isName_4, k_TC_isName_10, k_TC_isName_15, mt_kk, mt_l0, lget, lput, fnth, fset, gf, gi, ga, mt_is, mt_pop, g_nil, g_const, g_null, g_iload, g_aload, g_istore, g_astore, g_iinc, g_add, g_sub, g_mul, g_and, g_xor, g_div, g_rem, g_dup, g_dup2, g_pop, g_get, g_putI, g_putZ, g_putA, g_iald, g_zald, g_iast, g_zast, g_aald, g_aast, g_alen, g_new, g_newI, g_newA, g_objinit, l_fall, l_ifeq, l_ifne, l_iflt, l_ifge, l_ifgt, l_ifle, l_iceq, l_icne, l_iclt, l_icge, l_icgt, l_icle, l_nullN, l_nullS, l_nonnullN, l_nonnullS, l_acne, l_callV, l_callI, l_callS, l_ret, l_iret, l_zret, l_aret, l_after, List.length_cons, List.length_nil, Nat.reduceAdd, Nat.reduceLT, Nat.reduceLeDiff, Nat.reduceEqDiff, and_self, and_true, true_and, if_true, if_false, reduceIte, ite_true, ite_false, beq_self_eq_true, Nat.zero_add, Option.toList_some, Option.toList_none, List.cons_append, List.nil_append, nI_neg (j := j) (by omega), eq_false (nI_ge h (show 12 < 2 ^ 31 by decide)), z_1]
theorem x_isNameN {x : Int32} {M : m_M} (h : x < 0 ∨ nI 12 ≤ x) : sm_TC_isName [.inl x] M = some (some (.inl (nI 0)), M) := by
  refine mt_sem_eq ?_
  by_cases h1 : x < 0
  · simp only [k_TC_isName_0, k_TC_isName_14, k_TC_isName_15, mt_kk, mt_l0, lget, lput, fnth, fset, gf, gi, ga, mt_is, mt_pop, g_nil, g_const, g_null, g_iload, g_aload, g_istore, g_astore, g_iinc, g_add, g_sub, g_mul, g_and, g_xor, g_div, g_rem, g_dup, g_dup2, g_pop, g_get, g_putI, g_putZ, g_putA, g_iald, g_zald, g_iast, g_zast, g_aald, g_aast, g_alen, g_new, g_newI, g_newA, g_objinit, l_fall, l_ifeq, l_ifne, l_iflt, l_ifge, l_ifgt, l_ifle, l_iceq, l_icne, l_iclt, l_icge, l_icgt, l_icle, l_nullN, l_nullS, l_nonnullN, l_nonnullS, l_acne, l_callV, l_callI, l_callS, l_ret, l_iret, l_zret, l_aret, l_after, List.length_cons, List.length_nil, Nat.reduceAdd, Nat.reduceLT, Nat.reduceLeDiff, Nat.reduceEqDiff, and_self, and_true, true_and, if_true, if_false, reduceIte, ite_true, ite_false, beq_self_eq_true, Nat.zero_add, Option.toList_some, Option.toList_none, List.cons_append, List.nil_append, h1, z_0]
  · have h2 : nI 12 ≤ x := h.resolve_left h1
    simp only [k_TC_isName_0, k_TC_isName_4, k_TC_isName_14, k_TC_isName_15, mt_kk, mt_l0, lget, lput, fnth, fset, gf, gi, ga, mt_is, mt_pop, g_nil, g_const, g_null, g_iload, g_aload, g_istore, g_astore, g_iinc, g_add, g_sub, g_mul, g_and, g_xor, g_div, g_rem, g_dup, g_dup2, g_pop, g_get, g_putI, g_putZ, g_putA, g_iald, g_zald, g_iast, g_zast, g_aald, g_aast, g_alen, g_new, g_newI, g_newA, g_objinit, l_fall, l_ifeq, l_ifne, l_iflt, l_ifge, l_ifgt, l_ifle, l_iceq, l_icne, l_iclt, l_icge, l_icgt, l_icle, l_nullN, l_nullS, l_nonnullN, l_nonnullS, l_acne, l_callV, l_callI, l_callS, l_ret, l_iret, l_zret, l_aret, l_after, List.length_cons, List.length_nil, Nat.reduceAdd, Nat.reduceLT, Nat.reduceLeDiff, Nat.reduceEqDiff, and_self, and_true, true_and, if_true, if_false, reduceIte, ite_true, ite_false, beq_self_eq_true, Nat.zero_add, Option.toList_some, Option.toList_none, List.cons_append, List.nil_append, h1, h2, z_0]
theorem x_isByte {j : Nat} {M : m_M} (h : j < 256) : sm_TC_isByte [.inl (nI j)] M = some (some (.inl (nI 1)), M) := by
  refine mt_sem_eq ?_
  simp only [k_TC_isByte_0, k_TC_isByte_4, k_TC_isByte_11, k_TC_isByte_16, mt_kk, mt_l0, lget, lput, fnth, fset, gf, gi, ga, mt_is, mt_pop, g_nil, g_const, g_null, g_iload, g_aload, g_istore, g_astore, g_iinc, g_add, g_sub, g_mul, g_and, g_xor, g_div, g_rem, g_dup, g_dup2, g_pop, g_get, g_putI, g_putZ, g_putA, g_iald, g_zald, g_iast, g_zast, g_aald, g_aast, g_alen, g_new, g_newI, g_newA, g_objinit, l_fall, l_ifeq, l_ifne, l_iflt, l_ifge, l_ifgt, l_ifle, l_iceq, l_icne, l_iclt, l_icge, l_icgt, l_icle, l_nullN, l_nullS, l_nonnullN, l_nonnullS, l_acne, l_callV, l_callI, l_callS, l_ret, l_iret, l_zret, l_aret, l_after, List.length_cons, List.length_nil, Nat.reduceAdd, Nat.reduceLT, Nat.reduceLeDiff, Nat.reduceEqDiff, and_self, and_true, true_and, if_true, if_false, reduceIte, ite_true, ite_false, beq_self_eq_true, Nat.zero_add, Option.toList_some, Option.toList_none, List.cons_append, List.nil_append, nI_neg (j := j) (by omega), nI_ltE (a := 255) (b := j) (by decide) (by omega), eq_false (show ¬ 255 < j by omega), z_1]
theorem x_isByteN {x : Int32} {M : m_M} (h : x < 0 ∨ nI 255 < x) : sm_TC_isByte [.inl x] M = some (some (.inl (nI 0)), M) := by
  refine mt_sem_eq ?_
  by_cases h1 : x < 0
  · simp only [k_TC_isByte_0, k_TC_isByte_15, k_TC_isByte_16, mt_kk, mt_l0, lget, lput, fnth, fset, gf, gi, ga, mt_is, mt_pop, g_nil, g_const, g_null, g_iload, g_aload, g_istore, g_astore, g_iinc, g_add, g_sub, g_mul, g_and, g_xor, g_div, g_rem, g_dup, g_dup2, g_pop, g_get, g_putI, g_putZ, g_putA, g_iald, g_zald, g_iast, g_zast, g_aald, g_aast, g_alen, g_new, g_newI, g_newA, g_objinit, l_fall, l_ifeq, l_ifne, l_iflt, l_ifge, l_ifgt, l_ifle, l_iceq, l_icne, l_iclt, l_icge, l_icgt, l_icle, l_nullN, l_nullS, l_nonnullN, l_nonnullS, l_acne, l_callV, l_callI, l_callS, l_ret, l_iret, l_zret, l_aret, l_after, List.length_cons, List.length_nil, Nat.reduceAdd, Nat.reduceLT, Nat.reduceLeDiff, Nat.reduceEqDiff, and_self, and_true, true_and, if_true, if_false, reduceIte, ite_true, ite_false, beq_self_eq_true, Nat.zero_add, Option.toList_some, Option.toList_none, List.cons_append, List.nil_append, h1, z_0]
  · have h2 : nI 255 < x := h.resolve_left h1
    simp only [k_TC_isByte_0, k_TC_isByte_4, k_TC_isByte_15, k_TC_isByte_16, mt_kk, mt_l0, lget, lput, fnth, fset, gf, gi, ga, mt_is, mt_pop, g_nil, g_const, g_null, g_iload, g_aload, g_istore, g_astore, g_iinc, g_add, g_sub, g_mul, g_and, g_xor, g_div, g_rem, g_dup, g_dup2, g_pop, g_get, g_putI, g_putZ, g_putA, g_iald, g_zald, g_iast, g_zast, g_aald, g_aast, g_alen, g_new, g_newI, g_newA, g_objinit, l_fall, l_ifeq, l_ifne, l_iflt, l_ifge, l_ifgt, l_ifle, l_iceq, l_icne, l_iclt, l_icge, l_icgt, l_icle, l_nullN, l_nullS, l_nonnullN, l_nonnullS, l_acne, l_callV, l_callI, l_callS, l_ret, l_iret, l_zret, l_aret, l_after, List.length_cons, List.length_nil, Nat.reduceAdd, Nat.reduceLT, Nat.reduceLeDiff, Nat.reduceEqDiff, and_self, and_true, true_and, if_true, if_false, reduceIte, ite_true, ite_false, beq_self_eq_true, Nat.zero_add, Option.toList_some, Option.toList_none, List.cons_append, List.nil_append, h1, h2, z_0]
theorem x_isMask {j : Nat} {M : m_M} (h : j < 16) : sm_TC_isMask [.inl (nI j)] M = some (some (.inl (nI 1)), M) := by
  refine mt_sem_eq ?_
  simp only [k_TC_isMask_0, k_TC_isMask_4, k_TC_isMask_10, k_TC_isMask_15, mt_kk, mt_l0, lget, lput, fnth, fset, gf, gi, ga, mt_is, mt_pop, g_nil, g_const, g_null, g_iload, g_aload, g_istore, g_astore, g_iinc, g_add, g_sub, g_mul, g_and, g_xor, g_div, g_rem, g_dup, g_dup2, g_pop, g_get, g_putI, g_putZ, g_putA, g_iald, g_zald, g_iast, g_zast, g_aald, g_aast, g_alen, g_new, g_newI, g_newA, g_objinit, l_fall, l_ifeq, l_ifne, l_iflt, l_ifge, l_ifgt, l_ifle, l_iceq, l_icne, l_iclt, l_icge, l_icgt, l_icle, l_nullN, l_nullS, l_nonnullN, l_nonnullS, l_acne, l_callV, l_callI, l_callS, l_ret, l_iret, l_zret, l_aret, l_after, List.length_cons, List.length_nil, Nat.reduceAdd, Nat.reduceLT, Nat.reduceLeDiff, Nat.reduceEqDiff, and_self, and_true, true_and, if_true, if_false, reduceIte, ite_true, ite_false, beq_self_eq_true, Nat.zero_add, Option.toList_some, Option.toList_none, List.cons_append, List.nil_append, nI_neg (j := j) (by omega), nI_ltE (a := 15) (b := j) (by decide) (by omega), eq_false (show ¬ 15 < j by omega), z_1]
theorem x_isMaskN {x : Int32} {M : m_M} (h : x < 0 ∨ nI 15 < x) : sm_TC_isMask [.inl x] M = some (some (.inl (nI 0)), M) := by
  refine mt_sem_eq ?_
  by_cases h1 : x < 0
  · simp only [k_TC_isMask_0, k_TC_isMask_14, k_TC_isMask_15, mt_kk, mt_l0, lget, lput, fnth, fset, gf, gi, ga, mt_is, mt_pop, g_nil, g_const, g_null, g_iload, g_aload, g_istore, g_astore, g_iinc, g_add, g_sub, g_mul, g_and, g_xor, g_div, g_rem, g_dup, g_dup2, g_pop, g_get, g_putI, g_putZ, g_putA, g_iald, g_zald, g_iast, g_zast, g_aald, g_aast, g_alen, g_new, g_newI, g_newA, g_objinit, l_fall, l_ifeq, l_ifne, l_iflt, l_ifge, l_ifgt, l_ifle, l_iceq, l_icne, l_iclt, l_icge, l_icgt, l_icle, l_nullN, l_nullS, l_nonnullN, l_nonnullS, l_acne, l_callV, l_callI, l_callS, l_ret, l_iret, l_zret, l_aret, l_after, List.length_cons, List.length_nil, Nat.reduceAdd, Nat.reduceLT, Nat.reduceLeDiff, Nat.reduceEqDiff, and_self, and_true, true_and, if_true, if_false, reduceIte, ite_true, ite_false, beq_self_eq_true, Nat.zero_add, Option.toList_some, Option.toList_none, List.cons_append, List.nil_append, h1, z_0]
  · have h2 : nI 15 < x := h.resolve_left h1
    simp only [k_TC_isMask_0, k_TC_isMask_4, k_TC_isMask_14, k_TC_isMask_15, mt_kk, mt_l0, lget, lput, fnth, fset, gf, gi, ga, mt_is, mt_pop, g_nil, g_const, g_null, g_iload, g_aload, g_istore, g_astore, g_iinc, g_add, g_sub, g_mul, g_and, g_xor, g_div, g_rem, g_dup, g_dup2, g_pop, g_get, g_putI, g_putZ, g_putA, g_iald, g_zald, g_iast, g_zast, g_aald, g_aast, g_alen, g_new, g_newI, g_newA, g_objinit, l_fall, l_ifeq, l_ifne, l_iflt, l_ifge, l_ifgt, l_ifle, l_iceq, l_icne, l_iclt, l_icge, l_icgt, l_icle, l_nullN, l_nullS, l_nonnullN, l_nonnullS, l_acne, l_callV, l_callI, l_callS, l_ret, l_iret, l_zret, l_aret, l_after, List.length_cons, List.length_nil, Nat.reduceAdd, Nat.reduceLT, Nat.reduceLeDiff, Nat.reduceEqDiff, and_self, and_true, true_and, if_true, if_false, reduceIte, ite_true, ite_false, beq_self_eq_true, Nat.zero_add, Option.toList_some, Option.toList_none, List.cons_append, List.nil_append, h1, h2, z_0]
theorem x_slotOf {t k : Nat} (ht : t < 2) (hk : k < 12) : sm_TC_slotOf [.inr (some b), .inl (nI t), .inl (nI k)] (n, w, img b V f) = some (some (.inr (some (b + (104 + 3 * (t * 12 + k))))), (n, w, img b V f)) := by
  have hx := mt_ix_nI (j := t * 12 + k) (n := 24) (by omega) (by decide)
  have hlt : t * 12 + k < 24 := by omega
  refine mt_sem_eq ?_
  simp only [k_TC_slotOf_0, k_TC_slotOf_4, k_TC_slotOf_9, k_TC_slotOf_13, k_TC_slotOf_18, mt_kk, mt_l0, lget, lput, fnth, fset, gf, gi, ga, mt_is, mt_pop, g_nil, g_const, g_null, g_iload, g_aload, g_istore, g_astore, g_iinc, g_add, g_sub, g_mul, g_and, g_xor, g_div, g_rem, g_dup, g_dup2, g_pop, g_get, g_putI, g_putZ, g_putA, g_iald, g_zald, g_iast, g_zast, g_aald, g_aast, g_alen, g_new, g_newI, g_newA, g_objinit, l_fall, l_ifeq, l_ifne, l_iflt, l_ifge, l_ifgt, l_ifle, l_iceq, l_icne, l_iclt, l_icge, l_icgt, l_icle, l_nullN, l_nullS, l_nonnullN, l_nonnullS, l_acne, l_callV, l_callI, l_callS, l_ret, l_iret, l_zret, l_aret, l_after, List.length_cons, List.length_nil, Nat.reduceAdd, Nat.reduceLT, Nat.reduceLeDiff, Nat.reduceEqDiff, and_self, and_true, true_and, if_true, if_false, reduceIte, ite_true, ite_false, beq_self_eq_true, Nat.zero_add, Option.toList_some, Option.toList_none, List.cons_append, List.nil_append, nI_neg (j := t) (by omega), eq_false (nI_ge ht (show 2 < 2 ^ 31 by decide)), x_isName hk, e_1, if_0, if_1, pk_mul, nI_add, hx, hlt]
theorem x_slotOfN {t k : Int32} (h : a_bd t k) : sm_TC_slotOf [.inr (some b), .inl t, .inl k] (n, w, img b V f) = some (some (.inr none), (n, w, img b V f)) := by
  refine mt_sem_eq ?_
  by_cases h1 : t < 0
  · simp only [k_TC_slotOf_0, k_TC_slotOf_16, mt_kk, mt_l0, lget, lput, fnth, fset, gf, gi, ga, mt_is, mt_pop, g_nil, g_const, g_null, g_iload, g_aload, g_istore, g_astore, g_iinc, g_add, g_sub, g_mul, g_and, g_xor, g_div, g_rem, g_dup, g_dup2, g_pop, g_get, g_putI, g_putZ, g_putA, g_iald, g_zald, g_iast, g_zast, g_aald, g_aast, g_alen, g_new, g_newI, g_newA, g_objinit, l_fall, l_ifeq, l_ifne, l_iflt, l_ifge, l_ifgt, l_ifle, l_iceq, l_icne, l_iclt, l_icge, l_icgt, l_icle, l_nullN, l_nullS, l_nonnullN, l_nonnullS, l_acne, l_callV, l_callI, l_callS, l_ret, l_iret, l_zret, l_aret, l_after, List.length_cons, List.length_nil, Nat.reduceAdd, Nat.reduceLT, Nat.reduceLeDiff, Nat.reduceEqDiff, and_self, and_true, true_and, if_true, if_false, reduceIte, ite_true, ite_false, beq_self_eq_true, Nat.zero_add, Option.toList_some, Option.toList_none, List.cons_append, List.nil_append, h1]
  · by_cases h2 : nI 2 ≤ t
    · simp only [k_TC_slotOf_0, k_TC_slotOf_4, k_TC_slotOf_16, mt_kk, mt_l0, lget, lput, fnth, fset, gf, gi, ga, mt_is, mt_pop, g_nil, g_const, g_null, g_iload, g_aload, g_istore, g_astore, g_iinc, g_add, g_sub, g_mul, g_and, g_xor, g_div, g_rem, g_dup, g_dup2, g_pop, g_get, g_putI, g_putZ, g_putA, g_iald, g_zald, g_iast, g_zast, g_aald, g_aast, g_alen, g_new, g_newI, g_newA, g_objinit, l_fall, l_ifeq, l_ifne, l_iflt, l_ifge, l_ifgt, l_ifle, l_iceq, l_icne, l_iclt, l_icge, l_icgt, l_icle, l_nullN, l_nullS, l_nonnullN, l_nonnullS, l_acne, l_callV, l_callI, l_callS, l_ret, l_iret, l_zret, l_aret, l_after, List.length_cons, List.length_nil, Nat.reduceAdd, Nat.reduceLT, Nat.reduceLeDiff, Nat.reduceEqDiff, and_self, and_true, true_and, if_true, if_false, reduceIte, ite_true, ite_false, beq_self_eq_true, Nat.zero_add, Option.toList_some, Option.toList_none, List.cons_append, List.nil_append, h1, h2]
    · have h3 : k < 0 ∨ nI 12 ≤ k := (h.resolve_left h1).resolve_left h2
      simp only [k_TC_slotOf_0, k_TC_slotOf_4, k_TC_slotOf_9, k_TC_slotOf_13, k_TC_slotOf_16, mt_kk, mt_l0, lget, lput, fnth, fset, gf, gi, ga, mt_is, mt_pop, g_nil, g_const, g_null, g_iload, g_aload, g_istore, g_astore, g_iinc, g_add, g_sub, g_mul, g_and, g_xor, g_div, g_rem, g_dup, g_dup2, g_pop, g_get, g_putI, g_putZ, g_putA, g_iald, g_zald, g_iast, g_zast, g_aald, g_aast, g_alen, g_new, g_newI, g_newA, g_objinit, l_fall, l_ifeq, l_ifne, l_iflt, l_ifge, l_ifgt, l_ifle, l_iceq, l_icne, l_iclt, l_icge, l_icgt, l_icle, l_nullN, l_nullS, l_nonnullN, l_nonnullS, l_acne, l_callV, l_callI, l_callS, l_ret, l_iret, l_zret, l_aret, l_after, List.length_cons, List.length_nil, Nat.reduceAdd, Nat.reduceLT, Nat.reduceLeDiff, Nat.reduceEqDiff, and_self, and_true, true_and, if_true, if_false, reduceIte, ite_true, ite_false, beq_self_eq_true, Nat.zero_add, Option.toList_some, Option.toList_none, List.cons_append, List.nil_append, h1, h2, x_isNameN h3, e_0]
theorem x_fileOf {t k : Nat} (ht : t < 2) (hk : k < 12) (h : V (104 + 3 * (t * 12 + k)) 1 = nI 1) : sm_TC_fileOf [.inr (some b), .inl (nI t), .inl (nI k)] (n, w, img b V f) = some (some (.inr (some (b + (104 + 3 * (t * 12 + k))))), (n, w, img b V f)) := by
  obtain ⟨k1, k2, -⟩ := kd_file (t * 12 + k) (by omega)
  refine mt_sem_eq ?_
  simp only [k_TC_fileOf_0, k_TC_fileOf_6, k_TC_fileOf_11, k_TC_fileOf_18, k_TC_fileOf_23, mt_kk, mt_l0, lget, lput, fnth, fset, gf, gi, ga, mt_is, mt_pop, g_nil, g_const, g_null, g_iload, g_aload, g_istore, g_astore, g_iinc, g_add, g_sub, g_mul, g_and, g_xor, g_div, g_rem, g_dup, g_dup2, g_pop, g_get, g_putI, g_putZ, g_putA, g_iald, g_zald, g_iast, g_zast, g_aald, g_aast, g_alen, g_new, g_newI, g_newA, g_objinit, l_fall, l_ifeq, l_ifne, l_iflt, l_ifge, l_ifgt, l_ifle, l_iceq, l_icne, l_iclt, l_icge, l_icgt, l_icle, l_nullN, l_nullS, l_nonnullN, l_nonnullS, l_acne, l_callV, l_callI, l_callS, l_ret, l_iret, l_zret, l_aret, l_after, List.length_cons, List.length_nil, Nat.reduceAdd, Nat.reduceLT, Nat.reduceLeDiff, Nat.reduceEqDiff, and_self, and_true, true_and, if_true, if_false, reduceIte, ite_true, ite_false, beq_self_eq_true, Nat.zero_add, Option.toList_some, Option.toList_none, List.cons_append, List.nil_append, if_0, x_slotOf ht hk, im_Sf k2 k1, h, e_1]
theorem x_fileOf0 {t k : Nat} (ht : t < 2) (hk : k < 12) (h : V (104 + 3 * (t * 12 + k)) 1 = nI 0) : sm_TC_fileOf [.inr (some b), .inl (nI t), .inl (nI k)] (n, w, img b V f) = some (some (.inr none), (n, w, img b V f)) := by
  obtain ⟨k1, k2, -⟩ := kd_file (t * 12 + k) (by omega)
  refine mt_sem_eq ?_
  simp only [k_TC_fileOf_0, k_TC_fileOf_6, k_TC_fileOf_11, k_TC_fileOf_22, k_TC_fileOf_23, mt_kk, mt_l0, lget, lput, fnth, fset, gf, gi, ga, mt_is, mt_pop, g_nil, g_const, g_null, g_iload, g_aload, g_istore, g_astore, g_iinc, g_add, g_sub, g_mul, g_and, g_xor, g_div, g_rem, g_dup, g_dup2, g_pop, g_get, g_putI, g_putZ, g_putA, g_iald, g_zald, g_iast, g_zast, g_aald, g_aast, g_alen, g_new, g_newI, g_newA, g_objinit, l_fall, l_ifeq, l_ifne, l_iflt, l_ifge, l_ifgt, l_ifle, l_iceq, l_icne, l_iclt, l_icge, l_icgt, l_icle, l_nullN, l_nullS, l_nonnullN, l_nonnullS, l_acne, l_callV, l_callI, l_callS, l_ret, l_iret, l_zret, l_aret, l_after, List.length_cons, List.length_nil, Nat.reduceAdd, Nat.reduceLT, Nat.reduceLeDiff, Nat.reduceEqDiff, and_self, and_true, true_and, if_true, if_false, reduceIte, ite_true, ite_false, beq_self_eq_true, Nat.zero_add, Option.toList_some, Option.toList_none, List.cons_append, List.nil_append, if_0, x_slotOf ht hk, im_Sf k2 k1, h, e_0]
theorem x_fileOfN {t k : Int32} (h : a_bd t k) : sm_TC_fileOf [.inr (some b), .inl t, .inl k] (n, w, img b V f) = some (some (.inr none), (n, w, img b V f)) := by
  refine mt_sem_eq ?_
  simp only [k_TC_fileOf_0, k_TC_fileOf_6, k_TC_fileOf_22, k_TC_fileOf_23, mt_kk, mt_l0, lget, lput, fnth, fset, gf, gi, ga, mt_is, mt_pop, g_nil, g_const, g_null, g_iload, g_aload, g_istore, g_astore, g_iinc, g_add, g_sub, g_mul, g_and, g_xor, g_div, g_rem, g_dup, g_dup2, g_pop, g_get, g_putI, g_putZ, g_putA, g_iald, g_zald, g_iast, g_zast, g_aald, g_aast, g_alen, g_new, g_newI, g_newA, g_objinit, l_fall, l_ifeq, l_ifne, l_iflt, l_ifge, l_ifgt, l_ifle, l_iceq, l_icne, l_iclt, l_icge, l_icgt, l_icle, l_nullN, l_nullS, l_nonnullN, l_nonnullS, l_acne, l_callV, l_callI, l_callS, l_ret, l_iret, l_zret, l_aret, l_after, List.length_cons, List.length_nil, Nat.reduceAdd, Nat.reduceLT, Nat.reduceLeDiff, Nat.reduceEqDiff, and_self, and_true, true_and, if_true, if_false, reduceIte, ite_true, ite_false, beq_self_eq_true, Nat.zero_add, Option.toList_some, Option.toList_none, List.cons_append, List.nil_append, if_0, x_slotOfN h]
theorem x_lineOf0 : sm_TC_lineOf [.inr (some b), .inl (nI 0)] (n, w, img b V f) = some (some (.inr (some (b + 6))), (n, w, img b V f)) := by
  refine mt_sem_eq ?_
  simp only [k_TC_lineOf_0, k_TC_lineOf_4, mt_kk, mt_l0, lget, lput, fnth, fset, gf, gi, ga, mt_is, mt_pop, g_nil, g_const, g_null, g_iload, g_aload, g_istore, g_astore, g_iinc, g_add, g_sub, g_mul, g_and, g_xor, g_div, g_rem, g_dup, g_dup2, g_pop, g_get, g_putI, g_putZ, g_putA, g_iald, g_zald, g_iast, g_zast, g_aald, g_aast, g_alen, g_new, g_newI, g_newA, g_objinit, l_fall, l_ifeq, l_ifne, l_iflt, l_ifge, l_ifgt, l_ifle, l_iceq, l_icne, l_iclt, l_icge, l_icgt, l_icle, l_nullN, l_nullS, l_nonnullN, l_nonnullS, l_acne, l_callV, l_callI, l_callS, l_ret, l_iret, l_zret, l_aret, l_after, List.length_cons, List.length_nil, Nat.reduceAdd, Nat.reduceLT, Nat.reduceLeDiff, Nat.reduceEqDiff, and_self, and_true, true_and, if_true, if_false, reduceIte, ite_true, ite_false, beq_self_eq_true, Nat.zero_add, Option.toList_some, Option.toList_none, List.cons_append, List.nil_append, if_0, e_0]
theorem x_lineOf1 : sm_TC_lineOf [.inr (some b), .inl (nI 1)] (n, w, img b V f) = some (some (.inr (some (b + 34))), (n, w, img b V f)) := by
  refine mt_sem_eq ?_
  simp only [k_TC_lineOf_0, k_TC_lineOf_9, k_TC_lineOf_14, k_TC_lineOf_22, mt_kk, mt_l0, lget, lput, fnth, fset, gf, gi, ga, mt_is, mt_pop, g_nil, g_const, g_null, g_iload, g_aload, g_istore, g_astore, g_iinc, g_add, g_sub, g_mul, g_and, g_xor, g_div, g_rem, g_dup, g_dup2, g_pop, g_get, g_putI, g_putZ, g_putA, g_iald, g_zald, g_iast, g_zast, g_aald, g_aast, g_alen, g_new, g_newI, g_newA, g_objinit, l_fall, l_ifeq, l_ifne, l_iflt, l_ifge, l_ifgt, l_ifle, l_iceq, l_icne, l_iclt, l_icge, l_icgt, l_icle, l_nullN, l_nullS, l_nonnullN, l_nonnullS, l_acne, l_callV, l_callI, l_callS, l_ret, l_iret, l_zret, l_aret, l_after, List.length_cons, List.length_nil, Nat.reduceAdd, Nat.reduceLT, Nat.reduceLeDiff, Nat.reduceEqDiff, and_self, and_true, true_and, if_true, if_false, reduceIte, ite_true, ite_false, beq_self_eq_true, Nat.zero_add, Option.toList_some, Option.toList_none, List.cons_append, List.nil_append, if_0, e_1]
theorem x_lineOfN {x : Int32} (h0 : ¬ x = nI 0) (h1 : ¬ x = nI 1) : sm_TC_lineOf [.inr (some b), .inl x] (n, w, img b V f) = some (some (.inr none), (n, w, img b V f)) := by
  have h2 : (x = 0) = False := eq_false h0
  refine mt_sem_eq ?_
  simp only [k_TC_lineOf_0, k_TC_lineOf_9, k_TC_lineOf_21, k_TC_lineOf_22, mt_kk, mt_l0, lget, lput, fnth, fset, gf, gi, ga, mt_is, mt_pop, g_nil, g_const, g_null, g_iload, g_aload, g_istore, g_astore, g_iinc, g_add, g_sub, g_mul, g_and, g_xor, g_div, g_rem, g_dup, g_dup2, g_pop, g_get, g_putI, g_putZ, g_putA, g_iald, g_zald, g_iast, g_zast, g_aald, g_aast, g_alen, g_new, g_newI, g_newA, g_objinit, l_fall, l_ifeq, l_ifne, l_iflt, l_ifge, l_ifgt, l_ifle, l_iceq, l_icne, l_iclt, l_icge, l_icgt, l_icle, l_nullN, l_nullS, l_nonnullN, l_nonnullS, l_acne, l_callV, l_callI, l_callS, l_ret, l_iret, l_zret, l_aret, l_after, List.length_cons, List.length_nil, Nat.reduceAdd, Nat.reduceLT, Nat.reduceLeDiff, Nat.reduceEqDiff, and_self, and_true, true_and, if_true, if_false, reduceIte, ite_true, ite_false, beq_self_eq_true, Nat.zero_add, Option.toList_some, Option.toList_none, List.cons_append, List.nil_append, if_0, h2, h1]
theorem x_entryOf {k : Nat} (hk : k < 12) : sm_TC_entryOf [.inr (some b), .inl (nI k)] (n, w, img b V f) = some (some (.inr (some (b + (176 + k)))), (n, w, img b V f)) := by
  have hx := mt_ix_nI (j := k) (n := 12) hk (by decide)
  refine mt_sem_eq ?_
  simp only [k_TC_entryOf_0, k_TC_entryOf_4, k_TC_entryOf_7, k_TC_entryOf_17, mt_kk, mt_l0, lget, lput, fnth, fset, gf, gi, ga, mt_is, mt_pop, g_nil, g_const, g_null, g_iload, g_aload, g_istore, g_astore, g_iinc, g_add, g_sub, g_mul, g_and, g_xor, g_div, g_rem, g_dup, g_dup2, g_pop, g_get, g_putI, g_putZ, g_putA, g_iald, g_zald, g_iast, g_zast, g_aald, g_aast, g_alen, g_new, g_newI, g_newA, g_objinit, l_fall, l_ifeq, l_ifne, l_iflt, l_ifge, l_ifgt, l_ifle, l_iceq, l_icne, l_iclt, l_icge, l_icgt, l_icle, l_nullN, l_nullS, l_nonnullN, l_nonnullS, l_acne, l_callV, l_callI, l_callS, l_ret, l_iret, l_zret, l_aret, l_after, List.length_cons, List.length_nil, Nat.reduceAdd, Nat.reduceLT, Nat.reduceLeDiff, Nat.reduceEqDiff, and_self, and_true, true_and, if_true, if_false, reduceIte, ite_true, ite_false, beq_self_eq_true, Nat.zero_add, Option.toList_some, Option.toList_none, List.cons_append, List.nil_append, if_0, if_62, x_isName hk, e_1, hx, hk]
theorem x_tick : sm_TC_tick [.inr (some b)] (n, w, img b V f) = some (some (.inl (V 0 8 + nI 1)), (n, w, img b (vu V 0 8 (V 0 8 + nI 1)) f)) := by
  refine mt_sem_eq ?_
  simp only [k_TC_tick_0, mt_kk, mt_l0, lget, lput, fnth, fset, gf, gi, ga, mt_is, mt_pop, g_nil, g_const, g_null, g_iload, g_aload, g_istore, g_astore, g_iinc, g_add, g_sub, g_mul, g_and, g_xor, g_div, g_rem, g_dup, g_dup2, g_pop, g_get, g_putI, g_putZ, g_putA, g_iald, g_zald, g_iast, g_zast, g_aald, g_aast, g_alen, g_new, g_newI, g_newA, g_objinit, l_fall, l_ifeq, l_ifne, l_iflt, l_ifge, l_ifgt, l_ifle, l_iceq, l_icne, l_iclt, l_icge, l_icgt, l_icle, l_nullN, l_nullS, l_nonnullN, l_nonnullS, l_acne, l_callV, l_callI, l_callS, l_ret, l_iret, l_zret, l_aret, l_after, List.length_cons, List.length_nil, Nat.reduceAdd, Nat.reduceLT, Nat.reduceLeDiff, Nat.reduceEqDiff, and_self, and_true, true_and, if_true, if_false, reduceIte, ite_true, ite_false, beq_self_eq_true, Nat.zero_add, Option.toList_some, Option.toList_none, List.cons_append, List.nil_append, if_0, pf_0_8, vu_same]
-- the calls that only read
theorem fR_row {o : Nat} {x : a_F} (h : fR V o x) : rR V (o + 1) (a_row x) ∧ (a_row x).length ≤ 40 := by
  cases x with
  | none => exact ⟨h.2, by decide⟩
  | some y => exact ⟨h.2.2.1, h.2.2.2.1⟩
theorem fR_by {o : Nat} {x : a_F} (h : fR V o x) : ∀ c ∈ a_row x, c < 256 := by
  cases x with
  | none => intro c hc; cases hc
  | some y => exact h.2.2.2.2
variable {z : a_Z}
def q_size (z : a_Z) (t k : Int32) : Int32 := match a_ix t k with
  | some i => (match z.2.2.1 i with
    | some y => nI y.1.length
    | none => -1)
  | none => -1
theorem p_size {t k : Int32} (h : cR V z) : sm_TC_size [.inr (some b), .inl t, .inl k] (n, w, img b V f) = some (some (.inl (q_size z t k)), (n, w, img b V f)) := by
  rcases a_cases t k with hb | ⟨i, j, hi, hj, rfl, rfl⟩
  · refine mt_sem_eq ?_
    simp only [k_TC_size_0, k_TC_size_6, k_TC_size_11, k_TC_size_22, mt_kk, mt_l0, lget, lput, fnth, fset, gf, gi, ga, mt_is, mt_pop, g_nil, g_const, g_null, g_iload, g_aload, g_istore, g_astore, g_iinc, g_add, g_sub, g_mul, g_and, g_xor, g_div, g_rem, g_dup, g_dup2, g_pop, g_get, g_putI, g_putZ, g_putA, g_iald, g_zald, g_iast, g_zast, g_aald, g_aast, g_alen, g_new, g_newI, g_newA, g_objinit, l_fall, l_ifeq, l_ifne, l_iflt, l_ifge, l_ifgt, l_ifle, l_iceq, l_icne, l_iclt, l_icge, l_icgt, l_icle, l_nullN, l_nullS, l_nonnullN, l_nonnullS, l_acne, l_callV, l_callI, l_callS, l_ret, l_iret, l_zret, l_aret, l_after, List.length_cons, List.length_nil, Nat.reduceAdd, Nat.reduceLT, Nat.reduceLeDiff, Nat.reduceEqDiff, and_self, and_true, true_and, if_true, if_false, reduceIte, ite_true, ite_false, beq_self_eq_true, Nat.zero_add, Option.toList_some, Option.toList_none, List.cons_append, List.nil_append, if_0, x_fileOfN hb, q_size, a_ix_n hb]
  · have hf := h.2.2.1 (i * 12 + j) (by omega)
    obtain ⟨k1, k2, k3, k4, -⟩ := kd_file (i * 12 + j) (by omega)
    refine mt_sem_eq ?_
    cases hx : z.2.2.1 (i * 12 + j) with
    | none =>
      rw [hx] at hf
      simp only [k_TC_size_0, k_TC_size_6, k_TC_size_11, k_TC_size_22, mt_kk, mt_l0, lget, lput, fnth, fset, gf, gi, ga, mt_is, mt_pop, g_nil, g_const, g_null, g_iload, g_aload, g_istore, g_astore, g_iinc, g_add, g_sub, g_mul, g_and, g_xor, g_div, g_rem, g_dup, g_dup2, g_pop, g_get, g_putI, g_putZ, g_putA, g_iald, g_zald, g_iast, g_zast, g_aald, g_aast, g_alen, g_new, g_newI, g_newA, g_objinit, l_fall, l_ifeq, l_ifne, l_iflt, l_ifge, l_ifgt, l_ifle, l_iceq, l_icne, l_iclt, l_icge, l_icgt, l_icle, l_nullN, l_nullS, l_nonnullN, l_nonnullS, l_acne, l_callV, l_callI, l_callS, l_ret, l_iret, l_zret, l_aret, l_after, List.length_cons, List.length_nil, Nat.reduceAdd, Nat.reduceLT, Nat.reduceLeDiff, Nat.reduceEqDiff, and_self, and_true, true_and, if_true, if_false, reduceIte, ite_true, ite_false, beq_self_eq_true, Nat.zero_add, Option.toList_some, Option.toList_none, List.cons_append, List.nil_append, if_0, x_fileOf0 hi hj hf.1, q_size, a_ix_y hi hj, hx]
    | some y =>
      rw [hx] at hf
      simp only [k_TC_size_0, k_TC_size_6, k_TC_size_15, k_TC_size_22, mt_kk, mt_l0, lget, lput, fnth, fset, gf, gi, ga, mt_is, mt_pop, g_nil, g_const, g_null, g_iload, g_aload, g_istore, g_astore, g_iinc, g_add, g_sub, g_mul, g_and, g_xor, g_div, g_rem, g_dup, g_dup2, g_pop, g_get, g_putI, g_putZ, g_putA, g_iald, g_zald, g_iast, g_zast, g_aald, g_aast, g_alen, g_new, g_newI, g_newA, g_objinit, l_fall, l_ifeq, l_ifne, l_iflt, l_ifge, l_ifgt, l_ifle, l_iceq, l_icne, l_iclt, l_icge, l_icgt, l_icle, l_nullN, l_nullS, l_nonnullN, l_nonnullS, l_acne, l_callV, l_callI, l_callS, l_ret, l_iret, l_zret, l_aret, l_after, List.length_cons, List.length_nil, Nat.reduceAdd, Nat.reduceLT, Nat.reduceLeDiff, Nat.reduceEqDiff, and_self, and_true, true_and, if_true, if_false, reduceIte, ite_true, ite_false, beq_self_eq_true, Nat.zero_add, Option.toList_some, Option.toList_none, List.cons_append, List.nil_append, if_0, x_fileOf hi hj hf.1, im_Sf k2 k1, im_Ro k4 k3, hf.2.2.1.1, q_size, a_ix_y hi hj, hx]
def q_time (z : a_Z) (t k : Int32) : Int32 := match a_ix t k with
  | some i => (match z.2.2.1 i with
    | some y => y.2
    | none => -1)
  | none => -1
theorem p_time {t k : Int32} (h : cR V z) : sm_TC_time [.inr (some b), .inl t, .inl k] (n, w, img b V f) = some (some (.inl (q_time z t k)), (n, w, img b V f)) := by
  rcases a_cases t k with hb | ⟨i, j, hi, hj, rfl, rfl⟩
  · refine mt_sem_eq ?_
    simp only [k_TC_time_0, k_TC_time_6, k_TC_time_11, k_TC_time_19, mt_kk, mt_l0, lget, lput, fnth, fset, gf, gi, ga, mt_is, mt_pop, g_nil, g_const, g_null, g_iload, g_aload, g_istore, g_astore, g_iinc, g_add, g_sub, g_mul, g_and, g_xor, g_div, g_rem, g_dup, g_dup2, g_pop, g_get, g_putI, g_putZ, g_putA, g_iald, g_zald, g_iast, g_zast, g_aald, g_aast, g_alen, g_new, g_newI, g_newA, g_objinit, l_fall, l_ifeq, l_ifne, l_iflt, l_ifge, l_ifgt, l_ifle, l_iceq, l_icne, l_iclt, l_icge, l_icgt, l_icle, l_nullN, l_nullS, l_nonnullN, l_nonnullS, l_acne, l_callV, l_callI, l_callS, l_ret, l_iret, l_zret, l_aret, l_after, List.length_cons, List.length_nil, Nat.reduceAdd, Nat.reduceLT, Nat.reduceLeDiff, Nat.reduceEqDiff, and_self, and_true, true_and, if_true, if_false, reduceIte, ite_true, ite_false, beq_self_eq_true, Nat.zero_add, Option.toList_some, Option.toList_none, List.cons_append, List.nil_append, if_0, x_fileOfN hb, q_time, a_ix_n hb]
  · have hf := h.2.2.1 (i * 12 + j) (by omega)
    obtain ⟨k1, k2, k3, k4, -⟩ := kd_file (i * 12 + j) (by omega)
    refine mt_sem_eq ?_
    cases hx : z.2.2.1 (i * 12 + j) with
    | none =>
      rw [hx] at hf
      simp only [k_TC_time_0, k_TC_time_6, k_TC_time_11, k_TC_time_19, mt_kk, mt_l0, lget, lput, fnth, fset, gf, gi, ga, mt_is, mt_pop, g_nil, g_const, g_null, g_iload, g_aload, g_istore, g_astore, g_iinc, g_add, g_sub, g_mul, g_and, g_xor, g_div, g_rem, g_dup, g_dup2, g_pop, g_get, g_putI, g_putZ, g_putA, g_iald, g_zald, g_iast, g_zast, g_aald, g_aast, g_alen, g_new, g_newI, g_newA, g_objinit, l_fall, l_ifeq, l_ifne, l_iflt, l_ifge, l_ifgt, l_ifle, l_iceq, l_icne, l_iclt, l_icge, l_icgt, l_icle, l_nullN, l_nullS, l_nonnullN, l_nonnullS, l_acne, l_callV, l_callI, l_callS, l_ret, l_iret, l_zret, l_aret, l_after, List.length_cons, List.length_nil, Nat.reduceAdd, Nat.reduceLT, Nat.reduceLeDiff, Nat.reduceEqDiff, and_self, and_true, true_and, if_true, if_false, reduceIte, ite_true, ite_false, beq_self_eq_true, Nat.zero_add, Option.toList_some, Option.toList_none, List.cons_append, List.nil_append, if_0, x_fileOf0 hi hj hf.1, q_time, a_ix_y hi hj, hx]
    | some y =>
      rw [hx] at hf
      simp only [k_TC_time_0, k_TC_time_6, k_TC_time_15, k_TC_time_19, mt_kk, mt_l0, lget, lput, fnth, fset, gf, gi, ga, mt_is, mt_pop, g_nil, g_const, g_null, g_iload, g_aload, g_istore, g_astore, g_iinc, g_add, g_sub, g_mul, g_and, g_xor, g_div, g_rem, g_dup, g_dup2, g_pop, g_get, g_putI, g_putZ, g_putA, g_iald, g_zald, g_iast, g_zast, g_aald, g_aast, g_alen, g_new, g_newI, g_newA, g_objinit, l_fall, l_ifeq, l_ifne, l_iflt, l_ifge, l_ifgt, l_ifle, l_iceq, l_icne, l_iclt, l_icge, l_icgt, l_icle, l_nullN, l_nullS, l_nonnullN, l_nonnullS, l_acne, l_callV, l_callI, l_callS, l_ret, l_iret, l_zret, l_aret, l_after, List.length_cons, List.length_nil, Nat.reduceAdd, Nat.reduceLT, Nat.reduceLeDiff, Nat.reduceEqDiff, and_self, and_true, true_and, if_true, if_false, reduceIte, ite_true, ite_false, beq_self_eq_true, Nat.zero_add, Option.toList_some, Option.toList_none, List.cons_append, List.nil_append, if_0, x_fileOf hi hj hf.1, im_Sf k2 k1, hf.2.1, q_time, a_ix_y hi hj, hx]
def q_at (z : a_Z) (t k p : Int32) : Int32 := match a_ix t k with
  | some i => (match z.2.2.1 i with
    | some y => if p < 0 ∨ nI y.1.length ≤ p then -1 else nI (y.1.getD p.toNatClampNeg 0)
    | none => -1)
  | none => -1
theorem x_byteAtN {o : Nat} {l : List Nat} {x : Int32} (hi : iR o) (h : rR V o l) (hx : x < 0 ∨ nI l.length ≤ x) : sm_Ro_byteAt [.inr (some (b + o)), .inl x] (n, w, img b V f) = some (some (.inl (-1)), (n, w, img b V f)) := by
  refine mt_sem_eq ?_
  by_cases h1 : x < 0
  · simp only [k_Ro_byteAt_0, k_Ro_byteAt_21, k_Ro_byteAt_22, mt_kk, mt_l0, lget, lput, fnth, fset, gf, gi, ga, mt_is, mt_pop, g_nil, g_const, g_null, g_iload, g_aload, g_istore, g_astore, g_iinc, g_add, g_sub, g_mul, g_and, g_xor, g_div, g_rem, g_dup, g_dup2, g_pop, g_get, g_putI, g_putZ, g_putA, g_iald, g_zald, g_iast, g_zast, g_aald, g_aast, g_alen, g_new, g_newI, g_newA, g_objinit, l_fall, l_ifeq, l_ifne, l_iflt, l_ifge, l_ifgt, l_ifle, l_iceq, l_icne, l_iclt, l_icge, l_icgt, l_icle, l_nullN, l_nullS, l_nonnullN, l_nonnullS, l_acne, l_callV, l_callI, l_callS, l_ret, l_iret, l_zret, l_aret, l_after, List.length_cons, List.length_nil, Nat.reduceAdd, Nat.reduceLT, Nat.reduceLeDiff, Nat.reduceEqDiff, and_self, and_true, true_and, if_true, if_false, reduceIte, ite_true, ite_false, beq_self_eq_true, Nat.zero_add, Option.toList_some, Option.toList_none, List.cons_append, List.nil_append, h1]
  · have h2 := hx.resolve_left h1
    simp only [k_Ro_byteAt_0, k_Ro_byteAt_4, k_Ro_byteAt_21, k_Ro_byteAt_22, mt_kk, mt_l0, lget, lput, fnth, fset, gf, gi, ga, mt_is, mt_pop, g_nil, g_const, g_null, g_iload, g_aload, g_istore, g_astore, g_iinc, g_add, g_sub, g_mul, g_and, g_xor, g_div, g_rem, g_dup, g_dup2, g_pop, g_get, g_putI, g_putZ, g_putA, g_iald, g_zald, g_iast, g_zast, g_aald, g_aast, g_alen, g_new, g_newI, g_newA, g_objinit, l_fall, l_ifeq, l_ifne, l_iflt, l_ifge, l_ifgt, l_ifle, l_iceq, l_icne, l_iclt, l_icge, l_icgt, l_icle, l_nullN, l_nullS, l_nonnullN, l_nonnullS, l_acne, l_callV, l_callI, l_callS, l_ret, l_iret, l_zret, l_aret, l_after, List.length_cons, List.length_nil, Nat.reduceAdd, Nat.reduceLT, Nat.reduceLeDiff, Nat.reduceEqDiff, and_self, and_true, true_and, if_true, if_false, reduceIte, ite_true, ite_false, beq_self_eq_true, Nat.zero_add, Option.toList_some, Option.toList_none, List.cons_append, List.nil_append, im_Ro (iR0 hi) hi.1, h.1, h1, h2]
theorem p_at {t k p : Int32} (h : cR V z) : sm_TC_at [.inr (some b), .inl t, .inl k, .inl p] (n, w, img b V f) = some (some (.inl (q_at z t k p)), (n, w, img b V f)) := by
  rcases a_cases t k with hb | ⟨i, j, hi, hj, rfl, rfl⟩
  · refine mt_sem_eq ?_
    simp only [k_TC_at_0, k_TC_at_6, k_TC_at_13, k_TC_at_26, mt_kk, mt_l0, lget, lput, fnth, fset, gf, gi, ga, mt_is, mt_pop, g_nil, g_const, g_null, g_iload, g_aload, g_istore, g_astore, g_iinc, g_add, g_sub, g_mul, g_and, g_xor, g_div, g_rem, g_dup, g_dup2, g_pop, g_get, g_putI, g_putZ, g_putA, g_iald, g_zald, g_iast, g_zast, g_aald, g_aast, g_alen, g_new, g_newI, g_newA, g_objinit, l_fall, l_ifeq, l_ifne, l_iflt, l_ifge, l_ifgt, l_ifle, l_iceq, l_icne, l_iclt, l_icge, l_icgt, l_icle, l_nullN, l_nullS, l_nonnullN, l_nonnullS, l_acne, l_callV, l_callI, l_callS, l_ret, l_iret, l_zret, l_aret, l_after, List.length_cons, List.length_nil, Nat.reduceAdd, Nat.reduceLT, Nat.reduceLeDiff, Nat.reduceEqDiff, and_self, and_true, true_and, if_true, if_false, reduceIte, ite_true, ite_false, beq_self_eq_true, Nat.zero_add, Option.toList_some, Option.toList_none, List.cons_append, List.nil_append, if_0, x_fileOfN hb, q_at, a_ix_n hb]
  · have hf := h.2.2.1 (i * 12 + j) (by omega)
    obtain ⟨k1, k2, k3, k4, -⟩ := kd_file (i * 12 + j) (by omega)
    have hir := iR_file (p := i * 12 + j) (by omega)
    refine mt_sem_eq ?_
    cases hx : z.2.2.1 (i * 12 + j) with
    | none =>
      rw [hx] at hf
      simp only [k_TC_at_0, k_TC_at_6, k_TC_at_13, k_TC_at_26, mt_kk, mt_l0, lget, lput, fnth, fset, gf, gi, ga, mt_is, mt_pop, g_nil, g_const, g_null, g_iload, g_aload, g_istore, g_astore, g_iinc, g_add, g_sub, g_mul, g_and, g_xor, g_div, g_rem, g_dup, g_dup2, g_pop, g_get, g_putI, g_putZ, g_putA, g_iald, g_zald, g_iast, g_zast, g_aald, g_aast, g_alen, g_new, g_newI, g_newA, g_objinit, l_fall, l_ifeq, l_ifne, l_iflt, l_ifge, l_ifgt, l_ifle, l_iceq, l_icne, l_iclt, l_icge, l_icgt, l_icle, l_nullN, l_nullS, l_nonnullN, l_nonnullS, l_acne, l_callV, l_callI, l_callS, l_ret, l_iret, l_zret, l_aret, l_after, List.length_cons, List.length_nil, Nat.reduceAdd, Nat.reduceLT, Nat.reduceLeDiff, Nat.reduceEqDiff, and_self, and_true, true_and, if_true, if_false, reduceIte, ite_true, ite_false, beq_self_eq_true, Nat.zero_add, Option.toList_some, Option.toList_none, List.cons_append, List.nil_append, if_0, x_fileOf0 hi hj hf.1, q_at, a_ix_y hi hj, hx]
    | some y =>
      rw [hx] at hf
      by_cases hp : p < 0 ∨ nI y.1.length ≤ p
      · simp only [k_TC_at_0, k_TC_at_6, k_TC_at_17, k_TC_at_26, mt_kk, mt_l0, lget, lput, fnth, fset, gf, gi, ga, mt_is, mt_pop, g_nil, g_const, g_null, g_iload, g_aload, g_istore, g_astore, g_iinc, g_add, g_sub, g_mul, g_and, g_xor, g_div, g_rem, g_dup, g_dup2, g_pop, g_get, g_putI, g_putZ, g_putA, g_iald, g_zald, g_iast, g_zast, g_aald, g_aast, g_alen, g_new, g_newI, g_newA, g_objinit, l_fall, l_ifeq, l_ifne, l_iflt, l_ifge, l_ifgt, l_ifle, l_iceq, l_icne, l_iclt, l_icge, l_icgt, l_icle, l_nullN, l_nullS, l_nonnullN, l_nonnullS, l_acne, l_callV, l_callI, l_callS, l_ret, l_iret, l_zret, l_aret, l_after, List.length_cons, List.length_nil, Nat.reduceAdd, Nat.reduceLT, Nat.reduceLeDiff, Nat.reduceEqDiff, and_self, and_true, true_and, if_true, if_false, reduceIte, ite_true, ite_false, beq_self_eq_true, Nat.zero_add, Option.toList_some, Option.toList_none, List.cons_append, List.nil_append, if_0, x_fileOf hi hj hf.1, im_Sf k2 k1, im_Ro k4 k3, x_byteAtN hir hf.2.2.1 hp, q_at, a_ix_y hi hj, hx, hp]
      · obtain ⟨hp1, hp2⟩ := not_or.mp hp
        rcases pk_ix p (n := y.1.length) (by have := hf.2.2.2.1; omega) with h9 | h9 | ⟨q, hq, rfl⟩
        · exact absurd h9 hp1
        · exact absurd h9 hp2
        · have hcl : (nI q).toNatClampNeg = q := nI_clamp (by have := hf.2.2.2.1; omega)
          simp only [k_TC_at_0, k_TC_at_6, k_TC_at_17, k_TC_at_26, mt_kk, mt_l0, lget, lput, fnth, fset, gf, gi, ga, mt_is, mt_pop, g_nil, g_const, g_null, g_iload, g_aload, g_istore, g_astore, g_iinc, g_add, g_sub, g_mul, g_and, g_xor, g_div, g_rem, g_dup, g_dup2, g_pop, g_get, g_putI, g_putZ, g_putA, g_iald, g_zald, g_iast, g_zast, g_aald, g_aast, g_alen, g_new, g_newI, g_newA, g_objinit, l_fall, l_ifeq, l_ifne, l_iflt, l_ifge, l_ifgt, l_ifle, l_iceq, l_icne, l_iclt, l_icge, l_icgt, l_icle, l_nullN, l_nullS, l_nonnullN, l_nonnullS, l_acne, l_callV, l_callI, l_callS, l_ret, l_iret, l_zret, l_aret, l_after, List.length_cons, List.length_nil, Nat.reduceAdd, Nat.reduceLT, Nat.reduceLeDiff, Nat.reduceEqDiff, and_self, and_true, true_and, if_true, if_false, reduceIte, ite_true, ite_false, beq_self_eq_true, Nat.zero_add, Option.toList_some, Option.toList_none, List.cons_append, List.nil_append, if_0, x_fileOf hi hj hf.1, im_Sf k2 k1, im_Ro k4 k3, x_byteAt hir hf.2.2.1 hf.2.2.2.1 hq, q_at, a_ix_y hi hj, hx, hp, hcl]
def q_sel (z : a_Z) (k : Int32) : Int32 := if k < 0 ∨ nI 12 ≤ k then nI 0 else bI (a_sl z.2.1 k.toNatClampNeg)
theorem p_sel {k : Int32} (h : cR V z) : sm_TC_selected [.inr (some b), .inl k] (n, w, img b V f) = some (some (.inl (q_sel z k)), (n, w, img b V f)) := by
  refine mt_sem_eq ?_
  by_cases hb : k < 0 ∨ nI 12 ≤ k
  · simp only [k_TC_selected_0, k_TC_selected_4, k_TC_selected_22, k_TC_selected_23, mt_kk, mt_l0, lget, lput, fnth, fset, gf, gi, ga, mt_is, mt_pop, g_nil, g_const, g_null, g_iload, g_aload, g_istore, g_astore, g_iinc, g_add, g_sub, g_mul, g_and, g_xor, g_div, g_rem, g_dup, g_dup2, g_pop, g_get, g_putI, g_putZ, g_putA, g_iald, g_zald, g_iast, g_zast, g_aald, g_aast, g_alen, g_new, g_newI, g_newA, g_objinit, l_fall, l_ifeq, l_ifne, l_iflt, l_ifge, l_ifgt, l_ifle, l_iceq, l_icne, l_iclt, l_icge, l_icgt, l_icle, l_nullN, l_nullS, l_nonnullN, l_nonnullS, l_acne, l_callV, l_callI, l_callS, l_ret, l_iret, l_zret, l_aret, l_after, List.length_cons, List.length_nil, Nat.reduceAdd, Nat.reduceLT, Nat.reduceLeDiff, Nat.reduceEqDiff, and_self, and_true, true_and, if_true, if_false, reduceIte, ite_true, ite_false, beq_self_eq_true, Nat.zero_add, Option.toList_some, Option.toList_none, List.cons_append, List.nil_append, x_isNameN hb, e_0, q_sel, hb, z_0]
  · obtain ⟨h1, h2⟩ := not_or.mp hb
    rcases pk_ix k (n := 12) (by decide) with h9 | h9 | ⟨q, hq, rfl⟩
    · exact absurd h9 h1
    · exact absurd h9 h2
    · have hcl : (nI q).toNatClampNeg = q := nI_clamp (by omega)
      cases hs : a_sl z.2.1 q
      · simp only [k_TC_selected_0, k_TC_selected_4, k_TC_selected_7, k_TC_selected_15, k_TC_selected_22, k_TC_selected_23, mt_kk, mt_l0, lget, lput, fnth, fset, gf, gi, ga, mt_is, mt_pop, g_nil, g_const, g_null, g_iload, g_aload, g_istore, g_astore, g_iinc, g_add, g_sub, g_mul, g_and, g_xor, g_div, g_rem, g_dup, g_dup2, g_pop, g_get, g_putI, g_putZ, g_putA, g_iald, g_zald, g_iast, g_zast, g_aald, g_aast, g_alen, g_new, g_newI, g_newA, g_objinit, l_fall, l_ifeq, l_ifne, l_iflt, l_ifge, l_ifgt, l_ifle, l_iceq, l_icne, l_iclt, l_icge, l_icgt, l_icle, l_nullN, l_nullS, l_nonnullN, l_nonnullS, l_acne, l_callV, l_callI, l_callS, l_ret, l_iret, l_zret, l_aret, l_after, List.length_cons, List.length_nil, Nat.reduceAdd, Nat.reduceLT, Nat.reduceLeDiff, Nat.reduceEqDiff, and_self, and_true, true_and, if_true, if_false, reduceIte, ite_true, ite_false, beq_self_eq_true, Nat.zero_add, Option.toList_some, Option.toList_none, List.cons_append, List.nil_append, if_0, if_2, x_isName hq, x_select h.2.1, hs, bI_f, e_0, e_1, q_sel, hb, hcl, z_0]
      · simp only [k_TC_selected_0, k_TC_selected_4, k_TC_selected_7, k_TC_selected_15, k_TC_selected_18, k_TC_selected_23, mt_kk, mt_l0, lget, lput, fnth, fset, gf, gi, ga, mt_is, mt_pop, g_nil, g_const, g_null, g_iload, g_aload, g_istore, g_astore, g_iinc, g_add, g_sub, g_mul, g_and, g_xor, g_div, g_rem, g_dup, g_dup2, g_pop, g_get, g_putI, g_putZ, g_putA, g_iald, g_zald, g_iast, g_zast, g_aald, g_aast, g_alen, g_new, g_newI, g_newA, g_objinit, l_fall, l_ifeq, l_ifne, l_iflt, l_ifge, l_ifgt, l_ifle, l_iceq, l_icne, l_iclt, l_icge, l_icgt, l_icle, l_nullN, l_nullS, l_nonnullN, l_nonnullS, l_acne, l_callV, l_callI, l_callS, l_ret, l_iret, l_zret, l_aret, l_after, List.length_cons, List.length_nil, Nat.reduceAdd, Nat.reduceLT, Nat.reduceLeDiff, Nat.reduceEqDiff, and_self, and_true, true_and, if_true, if_false, reduceIte, ite_true, ite_false, beq_self_eq_true, Nat.zero_add, Option.toList_some, Option.toList_none, List.cons_append, List.nil_append, if_0, if_2, x_isName hq, x_select h.2.1, hs, bI_t, e_0, e_1, q_sel, hb, hcl, z_1]
def q_on (z : a_Z) : Int32 := match z.2.2.2.2.2 with
  | none => nI 0
  | some _ => nI 1
theorem sR_on (h : cR V z) : V 0 9 = q_on z := by
  have h1 := h.2.2.2.2.2
  unfold sR at h1
  unfold q_on
  cases hz : z.2.2.2.2.2 with
  | none => rw [hz] at h1; exact h1.1
  | some y => rw [hz] at h1; exact h1.1
theorem q_on_z : mt_z (q_on z) = true := by
  unfold q_on
  cases z.2.2.2.2.2
  · exact z_0
  · exact z_1
theorem p_on (h : cR V z) : sm_TC_on [.inr (some b)] (n, w, img b V f) = some (some (.inl (q_on z)), (n, w, img b V f)) := by
  refine mt_sem_eq ?_
  simp only [k_TC_on_0, mt_kk, mt_l0, lget, lput, fnth, fset, gf, gi, ga, mt_is, mt_pop, g_nil, g_const, g_null, g_iload, g_aload, g_istore, g_astore, g_iinc, g_add, g_sub, g_mul, g_and, g_xor, g_div, g_rem, g_dup, g_dup2, g_pop, g_get, g_putI, g_putZ, g_putA, g_iald, g_zald, g_iast, g_zast, g_aald, g_aast, g_alen, g_new, g_newI, g_newA, g_objinit, l_fall, l_ifeq, l_ifne, l_iflt, l_ifge, l_ifgt, l_ifle, l_iceq, l_icne, l_iclt, l_icge, l_icgt, l_icle, l_nullN, l_nullS, l_nonnullN, l_nonnullS, l_acne, l_callV, l_callI, l_callS, l_ret, l_iret, l_zret, l_aret, l_after, List.length_cons, List.length_nil, Nat.reduceAdd, Nat.reduceLT, Nat.reduceLeDiff, Nat.reduceEqDiff, and_self, and_true, true_and, if_true, if_false, reduceIte, ite_true, ite_false, beq_self_eq_true, Nat.zero_add, Option.toList_some, Option.toList_none, List.cons_append, List.nil_append, if_0, sR_on h, q_on_z]
def q_jr (z : a_Z) : Int32 := match z.2.2.2.1 with
  | none => nI 0
  | some _ => nI 1
theorem p_jr (h : cR V z) : sm_TC_journal [.inr (some b)] (n, w, img b V f) = some (some (.inl (q_jr z)), (n, w, img b V f)) := by
  obtain ⟨p, hp, h1, h2⟩ := h.2.2.2.1
  have h3 : V 63 2 = q_jr z := by
    unfold q_jr
    cases hz : z.2.2.2.1 with
    | none => rw [hz] at h2; exact h2
    | some y => rw [hz] at h2; exact h2.1
  refine mt_sem_eq ?_
  simp only [k_TC_journal_0, mt_kk, mt_l0, lget, lput, fnth, fset, gf, gi, ga, mt_is, mt_pop, g_nil, g_const, g_null, g_iload, g_aload, g_istore, g_astore, g_iinc, g_add, g_sub, g_mul, g_and, g_xor, g_div, g_rem, g_dup, g_dup2, g_pop, g_get, g_putI, g_putZ, g_putA, g_iald, g_zald, g_iast, g_zast, g_aald, g_aast, g_alen, g_new, g_newI, g_newA, g_objinit, l_fall, l_ifeq, l_ifne, l_iflt, l_ifge, l_ifgt, l_ifle, l_iceq, l_icne, l_iclt, l_icge, l_icgt, l_icle, l_nullN, l_nullS, l_nonnullN, l_nonnullS, l_acne, l_callV, l_callI, l_callS, l_ret, l_iret, l_zret, l_aret, l_after, List.length_cons, List.length_nil, Nat.reduceAdd, Nat.reduceLT, Nat.reduceLeDiff, Nat.reduceEqDiff, and_self, and_true, true_and, if_true, if_false, reduceIte, ite_true, ite_false, beq_self_eq_true, Nat.zero_add, Option.toList_some, Option.toList_none, List.cons_append, List.nil_append, if_0, if_63, h3]
def q_count (z : a_Z) (k : Int32) : Int32 := if k < 0 ∨ nI 8 ≤ k then -1 else z.2.2.2.2.1 k.toNatClampNeg
theorem p_count {k : Int32} (h : cR V z) : sm_TC_count [.inr (some b), .inl k] (n, w, img b V f) = some (some (.inl (q_count z k)), (n, w, img b V f)) := by
  refine mt_sem_eq ?_
  rcases pk_ix k (n := 8) (by decide) with h9 | h9 | ⟨q, hq, rfl⟩
  · simp only [k_TC_count_0, k_TC_count_10, k_TC_count_20, mt_kk, mt_l0, lget, lput, fnth, fset, gf, gi, ga, mt_is, mt_pop, g_nil, g_const, g_null, g_iload, g_aload, g_istore, g_astore, g_iinc, g_add, g_sub, g_mul, g_and, g_xor, g_div, g_rem, g_dup, g_dup2, g_pop, g_get, g_putI, g_putZ, g_putA, g_iald, g_zald, g_iast, g_zast, g_aald, g_aast, g_alen, g_new, g_newI, g_newA, g_objinit, l_fall, l_ifeq, l_ifne, l_iflt, l_ifge, l_ifgt, l_ifle, l_iceq, l_icne, l_iclt, l_icge, l_icgt, l_icle, l_nullN, l_nullS, l_nonnullN, l_nonnullS, l_acne, l_callV, l_callI, l_callS, l_ret, l_iret, l_zret, l_aret, l_after, List.length_cons, List.length_nil, Nat.reduceAdd, Nat.reduceLT, Nat.reduceLeDiff, Nat.reduceEqDiff, and_self, and_true, true_and, if_true, if_false, reduceIte, ite_true, ite_false, beq_self_eq_true, Nat.zero_add, Option.toList_some, Option.toList_none, List.cons_append, List.nil_append, h9, q_count, true_or]
  · by_cases h0 : k < 0
    · simp only [k_TC_count_0, k_TC_count_10, k_TC_count_20, mt_kk, mt_l0, lget, lput, fnth, fset, gf, gi, ga, mt_is, mt_pop, g_nil, g_const, g_null, g_iload, g_aload, g_istore, g_astore, g_iinc, g_add, g_sub, g_mul, g_and, g_xor, g_div, g_rem, g_dup, g_dup2, g_pop, g_get, g_putI, g_putZ, g_putA, g_iald, g_zald, g_iast, g_zast, g_aald, g_aast, g_alen, g_new, g_newI, g_newA, g_objinit, l_fall, l_ifeq, l_ifne, l_iflt, l_ifge, l_ifgt, l_ifle, l_iceq, l_icne, l_iclt, l_icge, l_icgt, l_icle, l_nullN, l_nullS, l_nonnullN, l_nonnullS, l_acne, l_callV, l_callI, l_callS, l_ret, l_iret, l_zret, l_aret, l_after, List.length_cons, List.length_nil, Nat.reduceAdd, Nat.reduceLT, Nat.reduceLeDiff, Nat.reduceEqDiff, and_self, and_true, true_and, if_true, if_false, reduceIte, ite_true, ite_false, beq_self_eq_true, Nat.zero_add, Option.toList_some, Option.toList_none, List.cons_append, List.nil_append, h0, q_count, true_or]
    · have h8 : (k < nI 8) = False := eq_false (fun e => by
        rw [Int32.lt_iff_toInt_lt] at e
        rw [Int32.le_iff_toInt_le] at h9
        omega)
      simp only [k_TC_count_0, k_TC_count_4, k_TC_count_10, k_TC_count_20, mt_kk, mt_l0, lget, lput, fnth, fset, gf, gi, ga, mt_is, mt_pop, g_nil, g_const, g_null, g_iload, g_aload, g_istore, g_astore, g_iinc, g_add, g_sub, g_mul, g_and, g_xor, g_div, g_rem, g_dup, g_dup2, g_pop, g_get, g_putI, g_putZ, g_putA, g_iald, g_zald, g_iast, g_zast, g_aald, g_aast, g_alen, g_new, g_newI, g_newA, g_objinit, l_fall, l_ifeq, l_ifne, l_iflt, l_ifge, l_ifgt, l_ifle, l_iceq, l_icne, l_iclt, l_icge, l_icgt, l_icle, l_nullN, l_nullS, l_nonnullN, l_nonnullS, l_acne, l_callV, l_callI, l_callS, l_ret, l_iret, l_zret, l_aret, l_after, List.length_cons, List.length_nil, Nat.reduceAdd, Nat.reduceLT, Nat.reduceLeDiff, Nat.reduceEqDiff, and_self, and_true, true_and, if_true, if_false, reduceIte, ite_true, ite_false, beq_self_eq_true, Nat.zero_add, Option.toList_some, Option.toList_none, List.cons_append, List.nil_append, h0, h8, h9, q_count, or_true]
  · have hx := mt_ix_nI (j := q) (n := 8) hq (by decide)
    have hcl : (nI q).toNatClampNeg = q := nI_clamp (by omega)
    have h8 : (nI q < nI 8) = True := eq_true (nI_lt hq (by decide))
    have h9 : (nI 8 ≤ nI q) = False := eq_false (nI_ge hq (by decide))
    simp only [k_TC_count_0, k_TC_count_4, k_TC_count_14, k_TC_count_20, mt_kk, mt_l0, lget, lput, fnth, fset, gf, gi, ga, mt_is, mt_pop, g_nil, g_const, g_null, g_iload, g_aload, g_istore, g_astore, g_iinc, g_add, g_sub, g_mul, g_and, g_xor, g_div, g_rem, g_dup, g_dup2, g_pop, g_get, g_putI, g_putZ, g_putA, g_iald, g_zald, g_iast, g_zast, g_aald, g_aast, g_alen, g_new, g_newI, g_newA, g_objinit, l_fall, l_ifeq, l_ifne, l_iflt, l_ifge, l_ifgt, l_ifle, l_iceq, l_icne, l_iclt, l_icge, l_icgt, l_icle, l_nullN, l_nullS, l_nonnullN, l_nonnullS, l_acne, l_callV, l_callI, l_callS, l_ret, l_iret, l_zret, l_aret, l_after, List.length_cons, List.length_nil, Nat.reduceAdd, Nat.reduceLT, Nat.reduceLeDiff, Nat.reduceEqDiff, and_self, and_true, true_and, if_true, if_false, reduceIte, ite_true, ite_false, beq_self_eq_true, Nat.zero_add, Option.toList_some, Option.toList_none, List.cons_append, List.nil_append, nI_neg (j := q) (by omega), h8, h9, if_0, if_103, hx, hcl, q_count, or_false, h.2.2.2.2.1 q hq]
def a_l0 (x : Option a_S) : List a_M := match x with
  | none => []
  | some y => y.2.2.2.2.2.1
def a_l1 (x : Option a_S) : List a_M := match x with
  | none => []
  | some y => y.2.2.2.2.2.2
def a_hd (l : List a_M) : Int32 := match l with
  | m :: _ => nI m.1
  | [] => nI 0
def a_ln (z : a_Z) (k : Int32) : Option (List a_M) := if k = nI 0 then some (a_l0 z.2.2.2.2.2) else if k = nI 1 then some (a_l1 z.2.2.2.2.2) else none
theorem sR_l0 {x : Option a_S} (h : sR V x) : lR V 6 (a_l0 x) := by
  cases x with
  | none => exact h.2.1
  | some y => exact h.2.2.2.2.2.1
theorem sR_l1 {x : Option a_S} (h : sR V x) : lR V 34 (a_l1 x) := by
  cases x with
  | none => exact h.2.2.1
  | some y => exact h.2.2.2.2.2.2.1
def q_wait (z : a_Z) (k : Int32) : Int32 := match a_ln z k with
  | none => -1
  | some l => nI l.length
theorem p_wait {k : Int32} (h : cR V z) : sm_TC_waiting [.inr (some b), .inl k] (n, w, img b V f) = some (some (.inl (q_wait z k)), (n, w, img b V f)) := by
  refine mt_sem_eq ?_
  by_cases h0 : k = nI 0
  · subst h0
    obtain ⟨p, -, -, h2, -⟩ := sR_l0 h.2.2.2.2.2
    simp only [k_TC_waiting_0, k_TC_waiting_5, k_TC_waiting_14, k_TC_waiting_18, mt_kk, mt_l0, lget, lput, fnth, fset, gf, gi, ga, mt_is, mt_pop, g_nil, g_const, g_null, g_iload, g_aload, g_istore, g_astore, g_iinc, g_add, g_sub, g_mul, g_and, g_xor, g_div, g_rem, g_dup, g_dup2, g_pop, g_get, g_putI, g_putZ, g_putA, g_iald, g_zald, g_iast, g_zast, g_aald, g_aast, g_alen, g_new, g_newI, g_newA, g_objinit, l_fall, l_ifeq, l_ifne, l_iflt, l_ifge, l_ifgt, l_ifle, l_iceq, l_icne, l_iclt, l_icge, l_icgt, l_icle, l_nullN, l_nullS, l_nonnullN, l_nonnullS, l_acne, l_callV, l_callI, l_callS, l_ret, l_iret, l_zret, l_aret, l_after, List.length_cons, List.length_nil, Nat.reduceAdd, Nat.reduceLT, Nat.reduceLeDiff, Nat.reduceEqDiff, and_self, and_true, true_and, if_true, if_false, reduceIte, ite_true, ite_false, beq_self_eq_true, Nat.zero_add, Option.toList_some, Option.toList_none, List.cons_append, List.nil_append, if_0, if_6, x_lineOf0, h2, q_wait, a_ln]
  · by_cases h1 : k = nI 1
    · subst h1
      obtain ⟨p, -, -, h2, -⟩ := sR_l1 h.2.2.2.2.2
      simp only [k_TC_waiting_0, k_TC_waiting_5, k_TC_waiting_14, k_TC_waiting_18, mt_kk, mt_l0, lget, lput, fnth, fset, gf, gi, ga, mt_is, mt_pop, g_nil, g_const, g_null, g_iload, g_aload, g_istore, g_astore, g_iinc, g_add, g_sub, g_mul, g_and, g_xor, g_div, g_rem, g_dup, g_dup2, g_pop, g_get, g_putI, g_putZ, g_putA, g_iald, g_zald, g_iast, g_zast, g_aald, g_aast, g_alen, g_new, g_newI, g_newA, g_objinit, l_fall, l_ifeq, l_ifne, l_iflt, l_ifge, l_ifgt, l_ifle, l_iceq, l_icne, l_iclt, l_icge, l_icgt, l_icle, l_nullN, l_nullS, l_nonnullN, l_nonnullS, l_acne, l_callV, l_callI, l_callS, l_ret, l_iret, l_zret, l_aret, l_after, List.length_cons, List.length_nil, Nat.reduceAdd, Nat.reduceLT, Nat.reduceLeDiff, Nat.reduceEqDiff, and_self, and_true, true_and, if_true, if_false, reduceIte, ite_true, ite_false, beq_self_eq_true, Nat.zero_add, Option.toList_some, Option.toList_none, List.cons_append, List.nil_append, if_0, if_34, x_lineOf1, h2, q_wait, a_ln, h0]
    · simp only [k_TC_waiting_0, k_TC_waiting_5, k_TC_waiting_10, k_TC_waiting_18, mt_kk, mt_l0, lget, lput, fnth, fset, gf, gi, ga, mt_is, mt_pop, g_nil, g_const, g_null, g_iload, g_aload, g_istore, g_astore, g_iinc, g_add, g_sub, g_mul, g_and, g_xor, g_div, g_rem, g_dup, g_dup2, g_pop, g_get, g_putI, g_putZ, g_putA, g_iald, g_zald, g_iast, g_zast, g_aald, g_aast, g_alen, g_new, g_newI, g_newA, g_objinit, l_fall, l_ifeq, l_ifne, l_iflt, l_ifge, l_ifgt, l_ifle, l_iceq, l_icne, l_iclt, l_icge, l_icgt, l_icle, l_nullN, l_nullS, l_nonnullN, l_nonnullS, l_acne, l_callV, l_callI, l_callS, l_ret, l_iret, l_zret, l_aret, l_after, List.length_cons, List.length_nil, Nat.reduceAdd, Nat.reduceLT, Nat.reduceLeDiff, Nat.reduceEqDiff, and_self, and_true, true_and, if_true, if_false, reduceIte, ite_true, ite_false, beq_self_eq_true, Nat.zero_add, Option.toList_some, Option.toList_none, List.cons_append, List.nil_append, if_0, x_lineOfN h0 h1, q_wait, a_ln, h0, h1]
def q_next (z : a_Z) (k : Int32) : Int32 := match a_ln z k with
  | some l => a_hd l
  | none => nI 0
theorem x_kind {o : Nat} {ls : List a_M} (hi : iL o) (h : lR V o ls) : sm_Li_oldestKind [.inr (some (b + o))] (n, w, img b V f) = some (some (.inl (a_hd ls)), (n, w, img b V f)) := by
  obtain ⟨p, h1, h2, h3, h4, h5⟩ := h
  cases ls with
  | nil => exact x_Li_kind0 hi h3
  | cons m t =>
    have h6 : mR V (o + 1 + 1 + 2 * p) m := by
      have h7 := h5 0 m rfl
      rw [show (p + 0) % 13 = p from Nat.mod_eq_of_lt h1] at h7
      exact h7
    rw [x_Li_kind (c := t.length) hi h1 (by rw [List.length_cons] at h4; omega) h2 h3, h6.1]
    rfl
theorem p_next {k : Int32} (h : cR V z) : sm_TC_next [.inr (some b), .inl k] (n, w, img b V f) = some (some (.inl (q_next z k)), (n, w, img b V f)) := by
  refine mt_sem_eq ?_
  by_cases h0 : k = nI 0
  · subst h0
    simp only [k_TC_next_0, k_TC_next_5, k_TC_next_14, k_TC_next_18, mt_kk, mt_l0, lget, lput, fnth, fset, gf, gi, ga, mt_is, mt_pop, g_nil, g_const, g_null, g_iload, g_aload, g_istore, g_astore, g_iinc, g_add, g_sub, g_mul, g_and, g_xor, g_div, g_rem, g_dup, g_dup2, g_pop, g_get, g_putI, g_putZ, g_putA, g_iald, g_zald, g_iast, g_zast, g_aald, g_aast, g_alen, g_new, g_newI, g_newA, g_objinit, l_fall, l_ifeq, l_ifne, l_iflt, l_ifge, l_ifgt, l_ifle, l_iceq, l_icne, l_iclt, l_icge, l_icgt, l_icle, l_nullN, l_nullS, l_nonnullN, l_nonnullS, l_acne, l_callV, l_callI, l_callS, l_ret, l_iret, l_zret, l_aret, l_after, List.length_cons, List.length_nil, Nat.reduceAdd, Nat.reduceLT, Nat.reduceLeDiff, Nat.reduceEqDiff, and_self, and_true, true_and, if_true, if_false, reduceIte, ite_true, ite_false, beq_self_eq_true, Nat.zero_add, Option.toList_some, Option.toList_none, List.cons_append, List.nil_append, if_0, if_6, x_lineOf0, x_kind (Or.inl rfl) (sR_l0 h.2.2.2.2.2), q_next, a_ln]
  · by_cases h1 : k = nI 1
    · subst h1
      simp only [k_TC_next_0, k_TC_next_5, k_TC_next_14, k_TC_next_18, mt_kk, mt_l0, lget, lput, fnth, fset, gf, gi, ga, mt_is, mt_pop, g_nil, g_const, g_null, g_iload, g_aload, g_istore, g_astore, g_iinc, g_add, g_sub, g_mul, g_and, g_xor, g_div, g_rem, g_dup, g_dup2, g_pop, g_get, g_putI, g_putZ, g_putA, g_iald, g_zald, g_iast, g_zast, g_aald, g_aast, g_alen, g_new, g_newI, g_newA, g_objinit, l_fall, l_ifeq, l_ifne, l_iflt, l_ifge, l_ifgt, l_ifle, l_iceq, l_icne, l_iclt, l_icge, l_icgt, l_icle, l_nullN, l_nullS, l_nonnullN, l_nonnullS, l_acne, l_callV, l_callI, l_callS, l_ret, l_iret, l_zret, l_aret, l_after, List.length_cons, List.length_nil, Nat.reduceAdd, Nat.reduceLT, Nat.reduceLeDiff, Nat.reduceEqDiff, and_self, and_true, true_and, if_true, if_false, reduceIte, ite_true, ite_false, beq_self_eq_true, Nat.zero_add, Option.toList_some, Option.toList_none, List.cons_append, List.nil_append, if_0, if_34, x_lineOf1, x_kind (Or.inr rfl) (sR_l1 h.2.2.2.2.2), q_next, a_ln, h0]
    · simp only [k_TC_next_0, k_TC_next_5, k_TC_next_10, k_TC_next_18, mt_kk, mt_l0, lget, lput, fnth, fset, gf, gi, ga, mt_is, mt_pop, g_nil, g_const, g_null, g_iload, g_aload, g_istore, g_astore, g_iinc, g_add, g_sub, g_mul, g_and, g_xor, g_div, g_rem, g_dup, g_dup2, g_pop, g_get, g_putI, g_putZ, g_putA, g_iald, g_zald, g_iast, g_zast, g_aald, g_aast, g_alen, g_new, g_newI, g_newA, g_objinit, l_fall, l_ifeq, l_ifne, l_iflt, l_ifge, l_ifgt, l_ifle, l_iceq, l_icne, l_iclt, l_icge, l_icgt, l_icle, l_nullN, l_nullS, l_nonnullN, l_nonnullS, l_acne, l_callV, l_callI, l_callS, l_ret, l_iret, l_zret, l_aret, l_after, List.length_cons, List.length_nil, Nat.reduceAdd, Nat.reduceLT, Nat.reduceLeDiff, Nat.reduceEqDiff, and_self, and_true, true_and, if_true, if_false, reduceIte, ite_true, ite_false, beq_self_eq_true, Nat.zero_add, Option.toList_some, Option.toList_none, List.cons_append, List.nil_append, if_0, x_lineOfN h0 h1, q_next, a_ln, h0, h1]
end TC
