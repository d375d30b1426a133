/-! The constructors, whole. -/
section CW
variable {b w : Nat} {E : Nat → m_E} {F : Nat → Option m_E}
theorem i_Li6 (hE : E 6 = .inl (3, n_fs_Li)) : mt_P sm_Li_init [.inr (some (b + 6))] (b + (6 + 1), w, pim b E (6 + 1) F) (i_Q b F 6 34 (w + 13 + 624) E) := by
  refine mt_P_of ?_
  have e7 : ∀ (E : Nat → m_E) (e : m_E), eu E 7 e 6 = E 6 := fun E e => eu_ne (by decide)
  simp only [k_Li_init_0, mt_kk, mt_l0, lget, lput, fnth, fset, gf, pf, gi, ga, mt_is, mt_pop, g_nil, g_const, g_null, g_iload, g_aload, g_istore, g_astore, g_iinc, g_add, g_sub, g_mul, g_and, g_xor, g_div, g_rem, g_dup, g_dup2, g_pop, g_get, g_putI, g_putZ, g_putA, g_iald, g_zald, g_iast, g_zast, g_aald, g_aast, g_alen, g_new, g_newI, g_newA, g_objinit, l_fall, l_ifeq, l_ifne, l_iflt, l_ifge, l_ifgt, l_ifle, l_iceq, l_icne, l_iclt, l_icge, l_icgt, l_icle, l_nullN, l_nullS, l_nonnullN, l_nonnullS, l_acne, l_callV, l_callI, l_callS, l_ret, l_iret, l_zret, l_aret, l_after, List.length_cons, List.length_nil, Nat.reduceAdd, Nat.reduceLT, Nat.reduceLeDiff, Nat.reduceEqDiff, and_self, and_true, true_and, if_true, if_false, reduceIte, ite_true, ite_false, beq_self_eq_true, Nat.zero_add, Option.toList_some, Option.toList_none, List.cons_append, List.nil_append, mn, pim_at (b := b) (F := F) (show 6 < 8 by decide), mu (b := b) (F := F) (show 6 < 8 by decide), eu_same, eu_eu, e7, hE]
  have h9 := lc_Li6 (b := b) (w0 := w + 13) (E0 := eu (eu E 7 (.inr (2, 13, .inr (fun _ => none)))) 6 (.inl (3, [.inr (some (b + 7)), .inl (nI 0), .inl (nI 0)]))) (F := F) (i_Q b F 6 34 (w + 13 + 624) E) eu_same (fun E1 w1 hw c1 c2 c3 => by
    simp only [k_Li_init_50, mt_kk, mt_l0, lget, lput, fnth, fset, gf, pf, gi, ga, mt_is, mt_pop, g_nil, g_const, g_null, g_iload, g_aload, g_istore, g_astore, g_iinc, g_add, g_sub, g_mul, g_and, g_xor, g_div, g_rem, g_dup, g_dup2, g_pop, g_get, g_putI, g_putZ, g_putA, g_iald, g_zald, g_iast, g_zast, g_aald, g_aast, g_alen, g_new, g_newI, g_newA, g_objinit, l_fall, l_ifeq, l_ifne, l_iflt, l_ifge, l_ifgt, l_ifle, l_iceq, l_icne, l_iclt, l_icge, l_icgt, l_icle, l_nullN, l_nullS, l_nonnullN, l_nonnullS, l_acne, l_callV, l_callI, l_callS, l_ret, l_iret, l_zret, l_aret, l_after, List.length_cons, List.length_nil, Nat.reduceAdd, Nat.reduceLT, Nat.reduceLeDiff, Nat.reduceEqDiff, and_self, and_true, true_and, if_true, if_false, reduceIte, ite_true, ite_false, beq_self_eq_true, Nat.zero_add, Option.toList_some, Option.toList_none, List.cons_append, List.nil_append]
    refine ⟨E1, w1, rfl, hw, fun o ho => ?_, fun o o1 o2 => ?_⟩
    · rw [c1 o (by omega) (by omega), eu_ne (by omega), eu_ne (by omega)]
    · by_cases e0 : o = 6
      · subst e0
        have h8 := c1 6 (by decide) (by decide)
        rw [eu_same] at h8
        exact h8.trans (ly_Li (o := 6) (V := V0) rfl).symm
      · by_cases e1 : o = 7
        · subst e1
          exact c2.trans (ly_ring (o := 7) (V := V0) rfl).symm
        · exact c3 o (by omega) o2) 13 0 _ (w + 13) (fun _ => none) rfl (Nat.le_refl _) (fun o _ _ => rfl) (by rw [eu_ne (by decide), eu_same]) (fun j => (if_neg (Nat.not_lt_zero j)).symm) (fun o o1 o2 => by omega)
  exact h9
theorem i_Li34 (hE : E 34 = .inl (3, n_fs_Li)) : mt_P sm_Li_init [.inr (some (b + 34))] (b + (34 + 1), w, pim b E (34 + 1) F) (i_Q b F 34 62 (w + 13 + 624) E) := by
  refine mt_P_of ?_
  have e7 : ∀ (E : Nat → m_E) (e : m_E), eu E 35 e 34 = E 34 := fun E e => eu_ne (by decide)
  simp only [k_Li_init_0, mt_kk, mt_l0, lget, lput, fnth, fset, gf, pf, gi, ga, mt_is, mt_pop, g_nil, g_const, g_null, g_iload, g_aload, g_istore, g_astore, g_iinc, g_add, g_sub, g_mul, g_and, g_xor, g_div, g_rem, g_dup, g_dup2, g_pop, g_get, g_putI, g_putZ, g_putA, g_iald, g_zald, g_iast, g_zast, g_aald, g_aast, g_alen, g_new, g_newI, g_newA, g_objinit, l_fall, l_ifeq, l_ifne, l_iflt, l_ifge, l_ifgt, l_ifle, l_iceq, l_icne, l_iclt, l_icge, l_icgt, l_icle, l_nullN, l_nullS, l_nonnullN, l_nonnullS, l_acne, l_callV, l_callI, l_callS, l_ret, l_iret, l_zret, l_aret, l_after, List.length_cons, List.length_nil, Nat.reduceAdd, Nat.reduceLT, Nat.reduceLeDiff, Nat.reduceEqDiff, and_self, and_true, true_and, if_true, if_false, reduceIte, ite_true, ite_false, beq_self_eq_true, Nat.zero_add, Option.toList_some, Option.toList_none, List.cons_append, List.nil_append, mn, pim_at (b := b) (F := F) (show 34 < 36 by decide), mu (b := b) (F := F) (show 34 < 36 by decide), eu_same, eu_eu, e7, hE]
  have h9 := lc_Li34 (b := b) (w0 := w + 13) (E0 := eu (eu E 35 (.inr (2, 13, .inr (fun _ => none)))) 34 (.inl (3, [.inr (some (b + 35)), .inl (nI 0), .inl (nI 0)]))) (F := F) (i_Q b F 34 62 (w + 13 + 624) E) eu_same (fun E1 w1 hw c1 c2 c3 => by
    simp only [k_Li_init_50, mt_kk, mt_l0, lget, lput, fnth, fset, gf, pf, gi, ga, mt_is, mt_pop, g_nil, g_const, g_null, g_iload, g_aload, g_istore, g_astore, g_iinc, g_add, g_sub, g_mul, g_and, g_xor, g_div, g_rem, g_dup, g_dup2, g_pop, g_get, g_putI, g_putZ, g_putA, g_iald, g_zald, g_iast, g_zast, g_aald, g_aast, g_alen, g_new, g_newI, g_newA, g_objinit, l_fall, l_ifeq, l_ifne, l_iflt, l_ifge, l_ifgt, l_ifle, l_iceq, l_icne, l_iclt, l_icge, l_icgt, l_icle, l_nullN, l_nullS, l_nonnullN, l_nonnullS, l_acne, l_callV, l_callI, l_callS, l_ret, l_iret, l_zret, l_aret, l_after, List.length_cons, List.length_nil, Nat.reduceAdd, Nat.reduceLT, Nat.reduceLeDiff, Nat.reduceEqDiff, and_self, and_true, true_and, if_true, if_false, reduceIte, ite_true, ite_false, beq_self_eq_true, Nat.zero_add, Option.toList_some, Option.toList_none, List.cons_append, List.nil_append]
    refine ⟨E1, w1, rfl, hw, fun o ho => ?_, fun o o1 o2 => ?_⟩
    · rw [c1 o (by omega) (by omega), eu_ne (by omega), eu_ne (by omega)]
    · by_cases e0 : o = 34
      · subst e0
        have h8 := c1 34 (by decide) (by decide)
        rw [eu_same] at h8
        exact h8.trans (ly_Li (o := 34) (V := V0) rfl).symm
      · by_cases e1 : o = 35
        · subst e1
          exact c2.trans (ly_ring (o := 35) (V := V0) rfl).symm
        · exact c3 o (by omega) o2) 13 0 _ (w + 13) (fun _ => none) rfl (Nat.le_refl _) (fun o _ _ => rfl) (by rw [eu_ne (by decide), eu_same]) (fun j => (if_neg (Nat.not_lt_zero j)).symm) (fun o o1 o2 => by omega)
  exact h9
theorem i_Jo (hE : E 63 = .inl (1, n_fs_Jo)) : mt_P sm_Jo_init [.inr (some (b + 63))] (b + (63 + 1), w, pim b E (63 + 1) F) (i_Q b F 63 101 (w + 12 + 540) E) := by
  refine mt_P_of ?_
  have e7 : ∀ (E : Nat → m_E) (e : m_E), eu E 64 e 63 = E 63 := fun E e => eu_ne (by decide)
  simp only [k_Jo_init_0, mt_kk, mt_l0, lget, lput, fnth, fset, gf, pf, gi, ga, mt_is, mt_pop, g_nil, g_const, g_null, g_iload, g_aload, g_istore, g_astore, g_iinc, g_add, g_sub, g_mul, g_and, g_xor, g_div, g_rem, g_dup, g_dup2, g_pop, g_get, g_putI, g_putZ, g_putA, g_iald, g_zald, g_iast, g_zast, g_aald, g_aast, g_alen, g_new, g_newI, g_newA, g_objinit, l_fall, l_ifeq, l_ifne, l_iflt, l_ifge, l_ifgt, l_ifle, l_iceq, l_icne, l_iclt, l_icge, l_icgt, l_icle, l_nullN, l_nullS, l_nonnullN, l_nonnullS, l_acne, l_callV, l_callI, l_callS, l_ret, l_iret, l_zret, l_aret, l_after, List.length_cons, List.length_nil, Nat.reduceAdd, Nat.reduceLT, Nat.reduceLeDiff, Nat.reduceEqDiff, and_self, and_true, true_and, if_true, if_false, reduceIte, ite_true, ite_false, beq_self_eq_true, Nat.zero_add, Option.toList_some, Option.toList_none, List.cons_append, List.nil_append, mn, pim_at (b := b) (F := F) (show 63 < 65 by decide), mu (b := b) (F := F) (show 63 < 65 by decide), eu_same, eu_eu, e7, hE]
  have h9 := lc_Jo (b := b) (w0 := w + 12) (E0 := eu (eu E 64 (.inr (5, 12, .inr (fun _ => none)))) 63 (.inl (1, [.inr (some (b + 64)), .inl (nI 0), .inl (nI 0)]))) (F := F) (i_Q b F 63 101 (w + 12 + 540) E) eu_same (fun E1 w1 hw c1 c2 c3 => by
    simp only [k_Jo_init_50, mt_kk, mt_l0, lget, lput, fnth, fset, gf, pf, gi, ga, mt_is, mt_pop, g_nil, g_const, g_null, g_iload, g_aload, g_istore, g_astore, g_iinc, g_add, g_sub, g_mul, g_and, g_xor, g_div, g_rem, g_dup, g_dup2, g_pop, g_get, g_putI, g_putZ, g_putA, g_iald, g_zald, g_iast, g_zast, g_aald, g_aast, g_alen, g_new, g_newI, g_newA, g_objinit, l_fall, l_ifeq, l_ifne, l_iflt, l_ifge, l_ifgt, l_ifle, l_iceq, l_icne, l_iclt, l_icge, l_icgt, l_icle, l_nullN, l_nullS, l_nonnullN, l_nonnullS, l_acne, l_callV, l_callI, l_callS, l_ret, l_iret, l_zret, l_aret, l_after, List.length_cons, List.length_nil, Nat.reduceAdd, Nat.reduceLT, Nat.reduceLeDiff, Nat.reduceEqDiff, and_self, and_true, true_and, if_true, if_false, reduceIte, ite_true, ite_false, beq_self_eq_true, Nat.zero_add, Option.toList_some, Option.toList_none, List.cons_append, List.nil_append]
    refine ⟨E1, w1, rfl, hw, fun o ho => ?_, fun o o1 o2 => ?_⟩
    · rw [c1 o (by omega) (by omega), eu_ne (by omega), eu_ne (by omega)]
    · by_cases e0 : o = 63
      · subst e0
        have h8 := c1 63 (by decide) (by decide)
        rw [eu_same] at h8
        exact h8.trans (ly_Jo (o := 63) (V := V0) rfl).symm
      · by_cases e1 : o = 64
        · subst e1
          exact c2.trans (ly_recs (o := 64) (V := V0) rfl).symm
        · exact c3 o (by omega) o2) 12 0 _ (w + 12) (fun _ => none) rfl (Nat.le_refl _) (fun o _ _ => rfl) (by rw [eu_ne (by decide), eu_same]) (fun j => (if_neg (Nat.not_lt_zero j)).symm) (fun o o1 o2 => by omega)
  exact h9
/-- while the class is made: its object, its files, the cells from 2 on -/
def tg (b : Nat) (E : Nat → m_E) (k : Nat) (ob : List m_V) : Prop := E 0 = .inl (8, ob) ∧ E 1 = .inr (3, 24, .inr (fun _ => none)) ∧ (62 < k → E 62 = .inr (4, 12, .inr (fun _ => none))) ∧ ∀ o, 2 ≤ o → o < k → o ≠ 62 → E o = ly b V0 o
theorem tg_sub {k k2 : Nat} {ob ob1 : List m_V} {E1 : Nat → m_E} {e : m_E} (h : tg b E k ob) (hk : 2 ≤ k) (h62 : k2 ≤ 62 ∨ 62 < k) (c1 : ∀ o, o < k → E1 o = eu (eu E 0 (.inl (8, ob1))) k e o) (c2 : ∀ o, k ≤ o → o < k2 → E1 o = ly b V0 o) : tg b E1 k2 ob1 := by
  obtain ⟨a1, a2, a3, a4⟩ := h
  refine ⟨?_, ?_, fun hh => ?_, fun o o1 o2 o3 => ?_⟩
  · rw [c1 0 (by omega), eu_ne (by omega), eu_same]
  · rw [c1 1 (by omega), eu_ne (by omega), eu_ne (by omega)]; exact a2
  · have : 62 < k := by omega
    rw [c1 62 this, eu_ne (by omega), eu_ne (by omega)]; exact a3 this
  · by_cases e : o < k
    · rw [c1 o e, eu_ne (by omega), eu_ne (by omega)]; exact a4 o o1 e o3
    · exact c2 o (by omega) o2
theorem tg_62 {ob ob1 : List m_V} (h : tg b E 62 ob) : tg b (eu (eu E 0 (.inl (8, ob1))) 62 (.inr (4, 12, .inr (fun _ => none)))) 63 ob1 := by
  obtain ⟨a1, a2, a3, a4⟩ := h
  refine ⟨?_, ?_, fun _ => eu_same, fun o o1 o2 o3 => ?_⟩
  · rw [eu_ne (by decide), eu_same]
  · rw [eu_ne (by decide), eu_ne (by decide)]; exact a2
  · rw [eu_ne o3, eu_ne (by omega)]; exact a4 o o1 (by omega) o3
theorem tg_103 {ob ob1 ob2 : List m_V} (h : tg b E 103 ob) : tg b (eu (eu (eu E 0 (.inl (8, ob1))) 103 (.inr (0, 8, .inl (fun _ => 0)))) 0 (.inl (8, ob2))) 104 ob2 := by
  obtain ⟨a1, a2, a3, a4⟩ := h
  refine ⟨eu_same, ?_, fun _ => ?_, fun o o1 o2 o3 => ?_⟩
  · rw [eu_ne (by decide), eu_ne (by decide), eu_ne (by decide)]; exact a2
  · rw [eu_ne (by decide), eu_ne (by decide), eu_ne (by decide)]; exact a3 (by decide)
  · rw [eu_ne (by omega)]
    by_cases e : o = 103
    · subst e
      rw [eu_same]
      exact (ly_i8 (b := b) (V := V0) (o := 103) rfl).symm
    · rw [eu_ne e, eu_ne (by omega)]; exact a4 o o1 (by omega) o3
theorem i_TC (hE : E 0 = .inl (8, n_fs_TC)) : mt_P sm_TC_init [.inr (some b)] (b + 1, w, pim b E 1 F) (fun r => ∃ w1, r = (none, (b + 188, w1, img b V0 F)) ∧ w1 ≤ w + 5000) := by
  refine mt_P_of ?_
  have q1 : ∀ (E : Nat → m_E) (e : m_E), eu E 1 e 0 = E 0 := fun E e => eu_ne (by decide)
  have q2 : ∀ (E : Nat → m_E) (e : m_E), eu E 2 e 0 = E 0 := fun E e => eu_ne (by decide)
  have q6 : ∀ (E : Nat → m_E) (e : m_E), eu E 6 e 0 = E 0 := fun E e => eu_ne (by decide)
  have q34 : ∀ (E : Nat → m_E) (e : m_E), eu E 34 e 0 = E 0 := fun E e => eu_ne (by decide)
  have q62 : ∀ (E : Nat → m_E) (e : m_E), eu E 62 e 0 = E 0 := fun E e => eu_ne (by decide)
  have q63 : ∀ (E : Nat → m_E) (e : m_E), eu E 63 e 0 = E 0 := fun E e => eu_ne (by decide)
  have q101 : ∀ (E : Nat → m_E) (e : m_E), eu E 101 e 0 = E 0 := fun E e => eu_ne (by decide)
  have q103 : ∀ (E : Nat → m_E) (e : m_E), eu E 103 e 0 = E 0 := fun E e => eu_ne (by decide)
  simp only [k_TC_init_0, mt_kk, mt_l0, lget, lput, fnth, fset, gf, pf, gi, ga, mt_is, mt_pop, g_nil, g_const, g_null, g_iload, g_aload, g_istore, g_astore, g_iinc, g_add, g_sub, g_mul, g_and, g_xor, g_div, g_rem, g_dup, g_dup2, g_pop, g_get, g_putI, g_putZ, g_putA, g_iald, g_zald, g_iast, g_zast, g_aald, g_aast, g_alen, g_new, g_newI, g_newA, g_objinit, l_fall, l_ifeq, l_ifne, l_iflt, l_ifge, l_ifgt, l_ifle, l_iceq, l_icne, l_iclt, l_icge, l_icgt, l_icle, l_nullN, l_nullS, l_nonnullN, l_nonnullS, l_acne, l_callV, l_callI, l_callS, l_ret, l_iret, l_zret, l_aret, l_after, List.length_cons, List.length_nil, Nat.reduceAdd, Nat.reduceLT, Nat.reduceLeDiff, Nat.reduceEqDiff, and_self, and_true, true_and, if_true, if_false, reduceIte, ite_true, ite_false, beq_self_eq_true, Nat.zero_add, Option.toList_some, Option.toList_none, List.cons_append, List.nil_append, mn, pim_0 (b := b) (F := F) (show 0 < 1 by decide), mu_0 (b := b) (F := F) (show 0 < 1 by decide), pim_0 (b := b) (F := F) (show 0 < 2 by decide), mu_0 (b := b) (F := F) (show 0 < 2 by decide), pim_0 (b := b) (F := F) (show 0 < 3 by decide), mu_0 (b := b) (F := F) (show 0 < 3 by decide), eu_same, eu_eu, q1, q2, q6, q34, q62, q63, q101, q103, hE]
  refine mt_call (i_Ru eu_same) ?_
  rintro r ⟨E1, w1, rfl, hw1, c1, c2⟩
  have t1 := tg_sub (E := eu E 1 (.inr (3, 24, .inr (fun _ => none)))) (ob := n_fs_TC) (k := 2) (k2 := 6) ⟨by rw [q1, hE], eu_same, fun hh => absurd hh (by decide), fun o o1 o2 _ => absurd o1 (by omega)⟩ (by decide) (by decide) c1 c2
  clear c1 c2
  simp only [k_TC_init_21, mt_kk, mt_l0, lget, lput, fnth, fset, gf, pf, gi, ga, mt_is, mt_pop, g_nil, g_const, g_null, g_iload, g_aload, g_istore, g_astore, g_iinc, g_add, g_sub, g_mul, g_and, g_xor, g_div, g_rem, g_dup, g_dup2, g_pop, g_get, g_putI, g_putZ, g_putA, g_iald, g_zald, g_iast, g_zast, g_aald, g_aast, g_alen, g_new, g_newI, g_newA, g_objinit, l_fall, l_ifeq, l_ifne, l_iflt, l_ifge, l_ifgt, l_ifle, l_iceq, l_icne, l_iclt, l_icge, l_icgt, l_icle, l_nullN, l_nullS, l_nonnullN, l_nonnullS, l_acne, l_callV, l_callI, l_callS, l_ret, l_iret, l_zret, l_aret, l_after, List.length_cons, List.length_nil, Nat.reduceAdd, Nat.reduceLT, Nat.reduceLeDiff, Nat.reduceEqDiff, and_self, and_true, true_and, if_true, if_false, reduceIte, ite_true, ite_false, beq_self_eq_true, Nat.zero_add, Option.toList_some, Option.toList_none, List.cons_append, List.nil_append, mn, pim_0 (b := b) (F := F) (show 0 < 6 by decide), mu_0 (b := b) (F := F) (show 0 < 6 by decide), pim_0 (b := b) (F := F) (show 0 < 7 by decide), mu_0 (b := b) (F := F) (show 0 < 7 by decide), eu_same, eu_eu, q1, q2, q6, q34, q62, q63, q101, q103, t1.1]
  refine mt_call (i_Li6 eu_same) ?_
  rintro r ⟨E2, w2, rfl, hw2, c1, c2⟩
  have t2 := tg_sub (k := 6) (k2 := 34) t1 (by decide) (by decide) c1 c2
  clear c1 c2
  simp only [k_TC_init_32, mt_kk, mt_l0, lget, lput, fnth, fset, gf, pf, gi, ga, mt_is, mt_pop, g_nil, g_const, g_null, g_iload, g_aload, g_istore, g_astore, g_iinc, g_add, g_sub, g_mul, g_and, g_xor, g_div, g_rem, g_dup, g_dup2, g_pop, g_get, g_putI, g_putZ, g_putA, g_iald, g_zald, g_iast, g_zast, g_aald, g_aast, g_alen, g_new, g_newI, g_newA, g_objinit, l_fall, l_ifeq, l_ifne, l_iflt, l_ifge, l_ifgt, l_ifle, l_iceq, l_icne, l_iclt, l_icge, l_icgt, l_icle, l_nullN, l_nullS, l_nonnullN, l_nonnullS, l_acne, l_callV, l_callI, l_callS, l_ret, l_iret, l_zret, l_aret, l_after, List.length_cons, List.length_nil, Nat.reduceAdd, Nat.reduceLT, Nat.reduceLeDiff, Nat.reduceEqDiff, and_self, and_true, true_and, if_true, if_false, reduceIte, ite_true, ite_false, beq_self_eq_true, Nat.zero_add, Option.toList_some, Option.toList_none, List.cons_append, List.nil_append, mn, pim_0 (b := b) (F := F) (show 0 < 34 by decide), mu_0 (b := b) (F := F) (show 0 < 34 by decide), pim_0 (b := b) (F := F) (show 0 < 35 by decide), mu_0 (b := b) (F := F) (show 0 < 35 by decide), eu_same, eu_eu, q1, q2, q6, q34, q62, q63, q101, q103, t2.1]
  refine mt_call (i_Li34 eu_same) ?_
  rintro r ⟨E3, w3, rfl, hw3, c1, c2⟩
  have t3 := tg_sub (k := 34) (k2 := 62) t2 (by decide) (by decide) c1 c2
  clear c1 c2
  simp only [k_TC_init_43, mt_kk, mt_l0, lget, lput, fnth, fset, gf, pf, gi, ga, mt_is, mt_pop, g_nil, g_const, g_null, g_iload, g_aload, g_istore, g_astore, g_iinc, g_add, g_sub, g_mul, g_and, g_xor, g_div, g_rem, g_dup, g_dup2, g_pop, g_get, g_putI, g_putZ, g_putA, g_iald, g_zald, g_iast, g_zast, g_aald, g_aast, g_alen, g_new, g_newI, g_newA, g_objinit, l_fall, l_ifeq, l_ifne, l_iflt, l_ifge, l_ifgt, l_ifle, l_iceq, l_icne, l_iclt, l_icge, l_icgt, l_icle, l_nullN, l_nullS, l_nonnullN, l_nonnullS, l_acne, l_callV, l_callI, l_callS, l_ret, l_iret, l_zret, l_aret, l_after, List.length_cons, List.length_nil, Nat.reduceAdd, Nat.reduceLT, Nat.reduceLeDiff, Nat.reduceEqDiff, and_self, and_true, true_and, if_true, if_false, reduceIte, ite_true, ite_false, beq_self_eq_true, Nat.zero_add, Option.toList_some, Option.toList_none, List.cons_append, List.nil_append, mn, pim_0 (b := b) (F := F) (show 0 < 62 by decide), mu_0 (b := b) (F := F) (show 0 < 62 by decide), pim_0 (b := b) (F := F) (show 0 < 63 by decide), mu_0 (b := b) (F := F) (show 0 < 63 by decide), pim_0 (b := b) (F := F) (show 0 < 64 by decide), mu_0 (b := b) (F := F) (show 0 < 64 by decide), eu_same, eu_eu, q1, q2, q6, q34, q62, q63, q101, q103, t3.1]
  refine mt_call (i_Jo eu_same) ?_
  rintro r ⟨E4, w4, rfl, hw4, c1, c2⟩
  have t4 := tg_sub (k := 63) (k2 := 101) (tg_62 t3) (by decide) (by decide) c1 c2
  clear c1 c2
  simp only [k_TC_init_63, mt_kk, mt_l0, lget, lput, fnth, fset, gf, pf, gi, ga, mt_is, mt_pop, g_nil, g_const, g_null, g_iload, g_aload, g_istore, g_astore, g_iinc, g_add, g_sub, g_mul, g_and, g_xor, g_div, g_rem, g_dup, g_dup2, g_pop, g_get, g_putI, g_putZ, g_putA, g_iald, g_zald, g_iast, g_zast, g_aald, g_aast, g_alen, g_new, g_newI, g_newA, g_objinit, l_fall, l_ifeq, l_ifne, l_iflt, l_ifge, l_ifgt, l_ifle, l_iceq, l_icne, l_iclt, l_icge, l_icgt, l_icle, l_nullN, l_nullS, l_nonnullN, l_nonnullS, l_acne, l_callV, l_callI, l_callS, l_ret, l_iret, l_zret, l_aret, l_after, List.length_cons, List.length_nil, Nat.reduceAdd, Nat.reduceLT, Nat.reduceLeDiff, Nat.reduceEqDiff, and_self, and_true, true_and, if_true, if_false, reduceIte, ite_true, ite_false, beq_self_eq_true, Nat.zero_add, Option.toList_some, Option.toList_none, List.cons_append, List.nil_append, mn, pim_0 (b := b) (F := F) (show 0 < 101 by decide), mu_0 (b := b) (F := F) (show 0 < 101 by decide), pim_0 (b := b) (F := F) (show 0 < 102 by decide), mu_0 (b := b) (F := F) (show 0 < 102 by decide), eu_same, eu_eu, q1, q2, q6, q34, q62, q63, q101, q103, t4.1]
  refine mt_call (i_Ro (k := 101) eu_same (by decide) rfl rfl) ?_
  rintro r ⟨E5, w5, rfl, hw5, c1, c2⟩
  have t5 := tg_sub (k := 101) (k2 := 103) t4 (by decide) (by decide) c1 c2
  clear c1 c2
  simp only [k_TC_init_74, mt_kk, mt_l0, lget, lput, fnth, fset, gf, pf, gi, ga, mt_is, mt_pop, g_nil, g_const, g_null, g_iload, g_aload, g_istore, g_astore, g_iinc, g_add, g_sub, g_mul, g_and, g_xor, g_div, g_rem, g_dup, g_dup2, g_pop, g_get, g_putI, g_putZ, g_putA, g_iald, g_zald, g_iast, g_zast, g_aald, g_aast, g_alen, g_new, g_newI, g_newA, g_objinit, l_fall, l_ifeq, l_ifne, l_iflt, l_ifge, l_ifgt, l_ifle, l_iceq, l_icne, l_iclt, l_icge, l_icgt, l_icle, l_nullN, l_nullS, l_nonnullN, l_nonnullS, l_acne, l_callV, l_callI, l_callS, l_ret, l_iret, l_zret, l_aret, l_after, List.length_cons, List.length_nil, Nat.reduceAdd, Nat.reduceLT, Nat.reduceLeDiff, Nat.reduceEqDiff, and_self, and_true, true_and, if_true, if_false, reduceIte, ite_true, ite_false, beq_self_eq_true, Nat.zero_add, Option.toList_some, Option.toList_none, List.cons_append, List.nil_append, mn, pim_0 (b := b) (F := F) (show 0 < 103 by decide), mu_0 (b := b) (F := F) (show 0 < 103 by decide), pim_0 (b := b) (F := F) (show 0 < 104 by decide), mu_0 (b := b) (F := F) (show 0 < 104 by decide), eu_same, eu_eu, q1, q2, q6, q34, q62, q63, q101, q103, t5.1, z_0]
  have t6 := tg_103 (ob1 := [.inr (some (b + 1)), .inr (some (b + 2)), .inr (some (b + 6)), .inr (some (b + 34)), .inr (some (b + 62)), .inr (some (b + 63)), .inr (some (b + 101)), .inr none, .inl 0, .inl 0, .inl 0, .inl 0]) (ob2 := [.inr (some (b + 1)), .inr (some (b + 2)), .inr (some (b + 6)), .inr (some (b + 34)), .inr (some (b + 62)), .inr (some (b + 63)), .inr (some (b + 101)), .inr (some (b + 103)), .inl (nI 0), .inl (nI 0), .inl (nI 0), .inl (nI 1)]) t5
  refine lc_Fi (b := b) (w0 := w5 + 8) _ t6.1 (fun E6 w6 hw6 d1 d2 d3 => ?_) 24 0 _ (w5 + 8) (fun _ => none) rfl (Nat.le_refl _) (fun o _ _ => rfl) t6.2.1 (fun j => (if_neg (Nat.not_lt_zero j)).symm) (fun o o1 o2 => by omega)
  simp only [k_TC_init_135, mt_kk, mt_l0, lget, lput, fnth, fset, gf, pf, gi, ga, mt_is, mt_pop, g_nil, g_const, g_null, g_iload, g_aload, g_istore, g_astore, g_iinc, g_add, g_sub, g_mul, g_and, g_xor, g_div, g_rem, g_dup, g_dup2, g_pop, g_get, g_putI, g_putZ, g_putA, g_iald, g_zald, g_iast, g_zast, g_aald, g_aast, g_alen, g_new, g_newI, g_newA, g_objinit, l_fall, l_ifeq, l_ifne, l_iflt, l_ifge, l_ifgt, l_ifle, l_iceq, l_icne, l_iclt, l_icge, l_icgt, l_icle, l_nullN, l_nullS, l_nonnullN, l_nonnullS, l_acne, l_callV, l_callI, l_callS, l_ret, l_iret, l_zret, l_aret, l_after, List.length_cons, List.length_nil, Nat.reduceAdd, Nat.reduceLT, Nat.reduceLeDiff, Nat.reduceEqDiff, and_self, and_true, true_and, if_true, if_false, reduceIte, ite_true, ite_false, beq_self_eq_true, Nat.zero_add, Option.toList_some, Option.toList_none, List.cons_append, List.nil_append]
  refine lc_En (b := b) (w0 := w6) _ ((d1 0 (by decide) (by decide)).trans t6.1) (fun E7 w7 hw7 f1 f2 f3 => ?_) 12 0 E6 w6 (fun _ => none) rfl (Nat.le_refl _) (fun o _ _ => rfl) ((d1 62 (by decide) (by decide)).trans (t6.2.2.1 (by decide))) (fun j => (if_neg (Nat.not_lt_zero j)).symm) (fun o o1 o2 => by omega)
  simp only [k_TC_init_162, mt_kk, mt_l0, lget, lput, fnth, fset, gf, pf, gi, ga, mt_is, mt_pop, g_nil, g_const, g_null, g_iload, g_aload, g_istore, g_astore, g_iinc, g_add, g_sub, g_mul, g_and, g_xor, g_div, g_rem, g_dup, g_dup2, g_pop, g_get, g_putI, g_putZ, g_putA, g_iald, g_zald, g_iast, g_zast, g_aald, g_aast, g_alen, g_new, g_newI, g_newA, g_objinit, l_fall, l_ifeq, l_ifne, l_iflt, l_ifge, l_ifgt, l_ifle, l_iceq, l_icne, l_iclt, l_icge, l_icgt, l_icle, l_nullN, l_nullS, l_nonnullN, l_nonnullS, l_acne, l_callV, l_callI, l_callS, l_ret, l_iret, l_zret, l_aret, l_after, List.length_cons, List.length_nil, Nat.reduceAdd, Nat.reduceLT, Nat.reduceLeDiff, Nat.reduceEqDiff, and_self, and_true, true_and, if_true, if_false, reduceIte, ite_true, ite_false, beq_self_eq_true, Nat.zero_add, Option.toList_some, Option.toList_none, List.cons_append, List.nil_append]
  rw [pim_img (fun o ho => ?_)]
  · refine ⟨w7, rfl, ?_⟩
    omega
  · by_cases g0 : o = 0
    · subst g0
      exact ((f1 0 (by decide) (by decide)).trans ((d1 0 (by decide) (by decide)).trans t6.1)).trans (ly_TC (b := b) (V := V0) (o := 0) rfl).symm
    · by_cases g1 : o = 1
      · subst g1
        exact ((f1 1 (by decide) (by decide)).trans d2).trans (ly_files (b := b) (V := V0) (o := 1) rfl).symm
      · by_cases g62 : o = 62
        · subst g62
          exact f2.trans (ly_list (b := b) (V := V0) (o := 62) rfl).symm
        · by_cases g176 : o < 176
          · rw [f1 o g176 g62]
            by_cases g104 : o < 104
            · rw [d1 o g104 g1]
              exact t6.2.2.2 o (by omega) g104 g62
            · exact d3 o (by omega) g176
          · exact f3 o (by omega) ho
/-- the state at the start -/
def z0 : a_Z := (nI 0, [], fun _ => none, none, fun _ => nI 0, none)
theorem z0_O : zO z0 := fun y h => by
  have h : (none : Option a_S) = some y := h
  cases h
theorem cR0 : cR V0 z0 := by
  have hl : ∀ o, 0 < o → lR V0 o [] := fun o ho => ⟨0, by decide, by rw [V0_off ho], by rw [V0_off ho]; rfl, Nat.zero_le _, fun i m h => by cases h⟩
  refine ⟨rfl, ⟨Nat.zero_le _, rfl, fun j r h => by cases h⟩, fun i hi => ?_, ⟨0, by decide, rfl, rfl⟩, fun k hk => ?_, rfl, hl 6 (by decide), hl 34 (by decide), fun k hk => ?_⟩
  · refine ⟨by rw [V0_off (by omega)], by rw [V0_off (by omega)]; rfl, fun j hj => absurd hj (Nat.not_lt_zero _)⟩
  · rw [V0_off (by decide)]; rfl
  · rw [V0_off (by omega)]; exact ⟨rfl, rfl⟩
def U0 : v_N := fun _ _ => nI 0
theorem dR0 : dR U0 z0 := ⟨rfl, ⟨Nat.zero_le _, rfl, fun j r h => by cases h⟩, fun i hi => rfl, rfl, fun k hk => rfl, rfl, rfl, rfl, rfl⟩
theorem i_MD {c : Nat} (hE : E 0 = .inl (9, n_fs_MD)) : mt_P sm_MD_init [.inr (some c)] (c + 1, w, pim c E 1 F) (fun r => ∃ w1, r = (none, (c + 20, w1, imr c U0 F)) ∧ w1 ≤ w + 6000) := by
  refine mt_P_of ?_
  have q1 : ∀ (E : Nat → m_E) (e : m_E), eu E 1 e 0 = E 0 := fun E e => eu_ne (by decide)
  have q2 : ∀ (E : Nat → m_E) (e : m_E), eu E 2 e 0 = E 0 := fun E e => eu_ne (by decide)
  have q3 : ∀ (E : Nat → m_E) (e : m_E), eu E 3 e 0 = E 0 := fun E e => eu_ne (by decide)
  have q4 : ∀ (E : Nat → m_E) (e : m_E), eu E 4 e 0 = E 0 := fun E e => eu_ne (by decide)
  have q5 : ∀ (E : Nat → m_E) (e : m_E), eu E 5 e 0 = E 0 := fun E e => eu_ne (by decide)
  have q6 : ∀ (E : Nat → m_E) (e : m_E), eu E 6 e 0 = E 0 := fun E e => eu_ne (by decide)
  have q7 : ∀ (E : Nat → m_E) (e : m_E), eu E 7 e 0 = E 0 := fun E e => eu_ne (by decide)
  have q8 : ∀ (E : Nat → m_E) (e : m_E), eu E 8 e 0 = E 0 := fun E e => eu_ne (by decide)
  have q9 : ∀ (E : Nat → m_E) (e : m_E), eu E 9 e 0 = E 0 := fun E e => eu_ne (by decide)
  have q10 : ∀ (E : Nat → m_E) (e : m_E), eu E 10 e 0 = E 0 := fun E e => eu_ne (by decide)
  have q11 : ∀ (E : Nat → m_E) (e : m_E), eu E 11 e 0 = E 0 := fun E e => eu_ne (by decide)
  have q12 : ∀ (E : Nat → m_E) (e : m_E), eu E 12 e 0 = E 0 := fun E e => eu_ne (by decide)
  have q13 : ∀ (E : Nat → m_E) (e : m_E), eu E 13 e 0 = E 0 := fun E e => eu_ne (by decide)
  have q14 : ∀ (E : Nat → m_E) (e : m_E), eu E 14 e 0 = E 0 := fun E e => eu_ne (by decide)
  have q15 : ∀ (E : Nat → m_E) (e : m_E), eu E 15 e 0 = E 0 := fun E e => eu_ne (by decide)
  have q16 : ∀ (E : Nat → m_E) (e : m_E), eu E 16 e 0 = E 0 := fun E e => eu_ne (by decide)
  have q17 : ∀ (E : Nat → m_E) (e : m_E), eu E 17 e 0 = E 0 := fun E e => eu_ne (by decide)
  have q18 : ∀ (E : Nat → m_E) (e : m_E), eu E 18 e 0 = E 0 := fun E e => eu_ne (by decide)
  have q19 : ∀ (E : Nat → m_E) (e : m_E), eu E 19 e 0 = E 0 := fun E e => eu_ne (by decide)
  simp only [k_MD_init_0, mt_kk, mt_l0, lget, lput, fnth, fset, gf, pf, gi, ga, mt_is, mt_pop, g_nil, g_const, g_null, g_iload, g_aload, g_istore, g_astore, g_iinc, g_add, g_sub, g_mul, g_and, g_xor, g_div, g_rem, g_dup, g_dup2, g_pop, g_get, g_putI, g_putZ, g_putA, g_iald, g_zald, g_iast, g_zast, g_aald, g_aast, g_alen, g_new, g_newI, g_newA, g_objinit, l_fall, l_ifeq, l_ifne, l_iflt, l_ifge, l_ifgt, l_ifle, l_iceq, l_icne, l_iclt, l_icge, l_icgt, l_icle, l_nullN, l_nullS, l_nonnullN, l_nonnullS, l_acne, l_callV, l_callI, l_callS, l_ret, l_iret, l_zret, l_aret, l_after, List.length_cons, List.length_nil, Nat.reduceAdd, Nat.reduceLT, Nat.reduceLeDiff, Nat.reduceEqDiff, and_self, and_true, true_and, if_true, if_false, reduceIte, ite_true, ite_false, beq_self_eq_true, Nat.zero_add, Option.toList_some, Option.toList_none, List.cons_append, List.nil_append, mn, pim_0 (b := c) (F := F) (show 0 < 1 by decide), mu_0 (b := c) (F := F) (show 0 < 1 by decide), pim_0 (b := c) (F := F) (show 0 < 2 by decide), mu_0 (b := c) (F := F) (show 0 < 2 by decide), pim_0 (b := c) (F := F) (show 0 < 3 by decide), mu_0 (b := c) (F := F) (show 0 < 3 by decide), pim_0 (b := c) (F := F) (show 0 < 4 by decide), mu_0 (b := c) (F := F) (show 0 < 4 by decide), pim_0 (b := c) (F := F) (show 0 < 5 by decide), mu_0 (b := c) (F := F) (show 0 < 5 by decide), pim_0 (b := c) (F := F) (show 0 < 6 by decide), mu_0 (b := c) (F := F) (show 0 < 6 by decide), pim_0 (b := c) (F := F) (show 0 < 7 by decide), mu_0 (b := c) (F := F) (show 0 < 7 by decide), pim_0 (b := c) (F := F) (show 0 < 8 by decide), mu_0 (b := c) (F := F) (show 0 < 8 by decide), pim_0 (b := c) (F := F) (show 0 < 9 by decide), mu_0 (b := c) (F := F) (show 0 < 9 by decide), pim_0 (b := c) (F := F) (show 0 < 10 by decide), mu_0 (b := c) (F := F) (show 0 < 10 by decide), pim_0 (b := c) (F := F) (show 0 < 11 by decide), mu_0 (b := c) (F := F) (show 0 < 11 by decide), pim_0 (b := c) (F := F) (show 0 < 12 by decide), mu_0 (b := c) (F := F) (show 0 < 12 by decide), pim_0 (b := c) (F := F) (show 0 < 13 by decide), mu_0 (b := c) (F := F) (show 0 < 13 by decide), pim_0 (b := c) (F := F) (show 0 < 14 by decide), mu_0 (b := c) (F := F) (show 0 < 14 by decide), pim_0 (b := c) (F := F) (show 0 < 15 by decide), mu_0 (b := c) (F := F) (show 0 < 15 by decide), pim_0 (b := c) (F := F) (show 0 < 16 by decide), mu_0 (b := c) (F := F) (show 0 < 16 by decide), pim_0 (b := c) (F := F) (show 0 < 17 by decide), mu_0 (b := c) (F := F) (show 0 < 17 by decide), pim_0 (b := c) (F := F) (show 0 < 18 by decide), mu_0 (b := c) (F := F) (show 0 < 18 by decide), pim_0 (b := c) (F := F) (show 0 < 19 by decide), mu_0 (b := c) (F := F) (show 0 < 19 by decide), pim_0 (b := c) (F := F) (show 0 < 20 by decide), mu_0 (b := c) (F := F) (show 0 < 20 by decide), eu_same, eu_eu, q1, q2, q3, q4, q5, q6, q7, q8, q9, q10, q11, q12, q13, q14, q15, q16, q17, q18, q19, hE]
  rw [pim_imr (U := U0) (fun o ho => ?_)]
  · refine ⟨_, rfl, ?_⟩
    omega
  · rcases (show o = 0 ∨ o = 1 ∨ o = 2 ∨ o = 3 ∨ o = 4 ∨ o = 5 ∨ o = 6 ∨ o = 7 ∨ o = 8 ∨ o = 9 ∨ o = 10 ∨ o = 11 ∨ o = 12 ∨ o = 13 ∨ o = 14 ∨ o = 15 ∨ o = 16 ∨ o = 17 ∨ o = 18 ∨ o = 19 by omega) with rfl | rfl | rfl | rfl | rfl | rfl | rfl | rfl | rfl | rfl | rfl | rfl | rfl | rfl | rfl | rfl | rfl | rfl | rfl | rfl <;> rfl
end CW
