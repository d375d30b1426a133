/-! The constructors with loops. -/
section CL
variable {b w0 : Nat} {E0 : Nat → m_E} {F : Nat → Option m_E}
theorem lc_Li6 (Q : m_R → Prop) (hK : E0 6 = .inl (3, [.inr (some (b + 7)), .inl (nI 0), .inl (nI 0)])) (hq : ∀ (E1 : Nat → m_E) (w1 : Nat), w1 ≤ w0 + 624 → (∀ o, o < 8 → o ≠ 7 → E1 o = E0 o) → E1 7 = .inr (2, 13, .inr (fun j => if j < 13 then some (b + (8 + 2 * j)) else none)) → (∀ o, 8 ≤ o → o < 34 → E1 o = ly b V0 o) → mt_T cd_Li_init 50 ([some (.inr (some (b + 6))), some (.inl (nI 13))], [], (b + 34, w1, pim b E1 34 F)) Q) (d : Nat) : ∀ (i : Nat) (E : Nat → m_E) (w : Nat) (g : Nat → Option Nat), i + d = 13 → w ≤ w0 + 48 * i → (∀ o, o < 8 → o ≠ 7 → E o = E0 o) → E 7 = .inr (2, 13, .inr g) → (∀ j, g j = if j < i then some (b + (8 + 2 * j)) else none) → (∀ o, 8 ≤ o → o < 8 + 2 * i → E o = ly b V0 o) → mt_T cd_Li_init 25 ([some (.inr (some (b + 6))), some (.inl (nI i))], [], (b + (8 + 2 * i), w, pim b E (8 + 2 * i) F)) Q := by
  induction d with
  | zero =>
    intro i E w g hi hw h1 h2 h3 h4
    have hi : i = 13 := hi
    subst hi
    have hg : g = (fun j => if j < 13 then some (b + (8 + 2 * j)) else none) := funext h3
    have hK1 : E 6 = .inl (3, [.inr (some (b + 7)), .inl (nI 0), .inl (nI 0)]) := by rw [h1 6 (by decide) (by decide), hK]
    have h9 := hq E w hw h1 (by rw [h2, hg]) h4
    rw [k_Li_init_25]
    simp only [mt_kk, mt_l0, lget, lput, fnth, fset, gf, pf, gi, ga, mt_is, mt_pop, g_nil, g_const, g_null, g_iload, g_aload, g_istore, g_astore, g_iinc, g_add, g_sub, g_mul, g_and, g_xor, g_div, g_rem, g_dup, g_dup2, g_pop, g_get, g_putI, g_putZ, g_putA, g_iald, g_zald, g_iast, g_zast, g_aald, g_aast, g_alen, g_new, g_newI, g_newA, g_objinit, l_fall, l_ifeq, l_ifne, l_iflt, l_ifge, l_ifgt, l_ifle, l_iceq, l_icne, l_iclt, l_icge, l_icgt, l_icle, l_nullN, l_nullS, l_nonnullN, l_nonnullS, l_acne, l_callV, l_callI, l_callS, l_ret, l_iret, l_zret, l_aret, l_after, List.length_cons, List.length_nil, Nat.reduceAdd, Nat.reduceLT, Nat.reduceLeDiff, Nat.reduceEqDiff, and_self, and_true, true_and, if_true, if_false, reduceIte, ite_true, ite_false, beq_self_eq_true, Nat.zero_add, Option.toList_some, Option.toList_none, List.cons_append, List.nil_append, pim_at (b := b) (F := F) (show 6 < 8 + 2 * 13 by decide), pim_at (b := b) (F := F) (show 7 < 8 + 2 * 13 by decide), hK1, h2, eq_true (nI_le (show 13 ≤ 13 by decide) (by decide)), Nat.reduceMul]
    exact h9
  | succ d ih =>
    intro i E w g hi hw h1 h2 h3 h4
    have hlt : i < 13 := by omega
    have kk := kd_m0 i hlt
    have hK1 : E 6 = .inl (3, [.inr (some (b + 7)), .inl (nI 0), .inl (nI 0)]) := by rw [h1 6 (by decide) (by decide), hK]
    have hx := mt_ix_nI (j := i) (n := 13) hlt (by decide)
    rw [k_Li_init_25]
    simp only [k_Li_init_31, mt_kk, mt_l0, lget, lput, fnth, fset, gf, pf, gi, ga, mt_is, mt_pop, g_nil, g_const, g_null, g_iload, g_aload, g_istore, g_astore, g_iinc, g_add, g_sub, g_mul, g_and, g_xor, g_div, g_rem, g_dup, g_dup2, g_pop, g_get, g_putI, g_putZ, g_putA, g_iald, g_zald, g_iast, g_zast, g_aald, g_aast, g_alen, g_new, g_newI, g_newA, g_objinit, l_fall, l_ifeq, l_ifne, l_iflt, l_ifge, l_ifgt, l_ifle, l_iceq, l_icne, l_iclt, l_icge, l_icgt, l_icle, l_nullN, l_nullS, l_nonnullN, l_nonnullS, l_acne, l_callV, l_callI, l_callS, l_ret, l_iret, l_zret, l_aret, l_after, List.length_cons, List.length_nil, Nat.reduceAdd, Nat.reduceLT, Nat.reduceLeDiff, Nat.reduceEqDiff, and_self, and_true, true_and, if_true, if_false, reduceIte, ite_true, ite_false, beq_self_eq_true, Nat.zero_add, Option.toList_some, Option.toList_none, List.cons_append, List.nil_append, mn, pim_at (b := b) (F := F) (show 6 < 8 + 2 * i by omega), pim_at (b := b) (F := F) (show 7 < 8 + 2 * i by omega), hK1, h2, eq_false (nI_ge hlt (by decide))]
    refine mt_call (i_Ms (k := 8 + 2 * i) eu_same (by omega) kk.1 kk.2.2.1) ?_
    rintro r ⟨E1, w1, rfl, c1, c2, c3⟩
    have hA1 : E1 7 = .inr (2, 13, .inr g) := by rw [c2 7 (by omega), eu_ne (by omega), h2]
    have hN1 : E1 (8 + 2 * i) = ly b V0 (8 + 2 * i) := c3 _ (Nat.le_refl _) (by omega)
    rw [ly_Ms kk.1] at hN1
    simp only [k_Li_init_43, mt_kk, mt_l0, lget, lput, fnth, fset, gf, pf, gi, ga, mt_is, mt_pop, g_nil, g_const, g_null, g_iload, g_aload, g_istore, g_astore, g_iinc, g_add, g_sub, g_mul, g_and, g_xor, g_div, g_rem, g_dup, g_dup2, g_pop, g_get, g_putI, g_putZ, g_putA, g_iald, g_zald, g_iast, g_zast, g_aald, g_aast, g_alen, g_new, g_newI, g_newA, g_objinit, l_fall, l_ifeq, l_ifne, l_iflt, l_ifge, l_ifgt, l_ifle, l_iceq, l_icne, l_iclt, l_icge, l_icgt, l_icle, l_nullN, l_nullS, l_nonnullN, l_nonnullS, l_acne, l_callV, l_callI, l_callS, l_ret, l_iret, l_zret, l_aret, l_after, List.length_cons, List.length_nil, Nat.reduceAdd, Nat.reduceLT, Nat.reduceLeDiff, Nat.reduceEqDiff, and_self, and_true, true_and, if_true, if_false, reduceIte, ite_true, ite_false, beq_self_eq_true, Nat.zero_add, Option.toList_some, Option.toList_none, List.cons_append, List.nil_append, pim_at (b := b) (F := F) (show 7 < 8 + 2 * i + 1 + 1 by omega), pim_at (b := b) (F := F) (show 8 + 2 * i < 8 + 2 * i + 1 + 1 by omega), hA1, hN1, hx, mu (b := b) (F := F) (show 7 < 8 + 2 * i + 1 + 1 by omega), nI_add]
    have h9 := ih (i + 1) (eu E1 7 (.inr (2, 13, .inr (va_up g i (some (b + (8 + 2 * i))))))) w1 (va_up g i (some (b + (8 + 2 * i)))) (by omega) (by omega) (fun o o1 o2 => by rw [eu_ne o2, c2 o (by omega), eu_ne (by omega), h1 o o1 o2]) eu_same (fun j => ?_) (fun o o1 o2 => ?_)
    · have e : 8 + 2 * (i + 1) = 8 + 2 * i + 1 + 1 := by omega
      rw [e] at h9
      exact h9
    · unfold va_up
      by_cases e : j = i
      · subst e
        rw [if_pos rfl, if_pos (by omega)]
      · rw [if_neg e, h3 j]
        by_cases e2 : j < i
        · rw [if_pos e2, if_pos (by omega)]
        · rw [if_neg e2, if_neg (by omega)]
    · rw [eu_ne (by omega)]
      by_cases e : o < 8 + 2 * i
      · rw [c2 o e, eu_ne (by omega)]
        exact h4 o o1 e
      · exact c3 o (by omega) (by omega)
theorem lc_Li34 (Q : m_R → Prop) (hK : E0 34 = .inl (3, [.inr (some (b + 35)), .inl (nI 0), .inl (nI 0)])) (hq : ∀ (E1 : Nat → m_E) (w1 : Nat), w1 ≤ w0 + 624 → (∀ o, o < 36 → o ≠ 35 → E1 o = E0 o) → E1 35 = .inr (2, 13, .inr (fun j => if j < 13 then some (b + (36 + 2 * j)) else none)) → (∀ o, 36 ≤ o → o < 62 → E1 o = ly b V0 o) → mt_T cd_Li_init 50 ([some (.inr (some (b + 34))), some (.inl (nI 13))], [], (b + 62, w1, pim b E1 62 F)) Q) (d : Nat) : ∀ (i : Nat) (E : Nat → m_E) (w : Nat) (g : Nat → Option Nat), i + d = 13 → w ≤ w0 + 48 * i → (∀ o, o < 36 → o ≠ 35 → E o = E0 o) → E 35 = .inr (2, 13, .inr g) → (∀ j, g j = if j < i then some (b + (36 + 2 * j)) else none) → (∀ o, 36 ≤ o → o < 36 + 2 * i → E o = ly b V0 o) → mt_T cd_Li_init 25 ([some (.inr (some (b + 34))), some (.inl (nI i))], [], (b + (36 + 2 * i), w, pim b E (36 + 2 * i) F)) Q := by
  induction d with
  | zero =>
    intro i E w g hi hw h1 h2 h3 h4
    have hi : i = 13 := hi
    subst hi
    have hg : g = (fun j => if j < 13 then some (b + (36 + 2 * j)) else none) := funext h3
    have hK1 : E 34 = .inl (3, [.inr (some (b + 35)), .inl (nI 0), .inl (nI 0)]) := by rw [h1 34 (by decide) (by decide), hK]
    have h9 := hq E w hw h1 (by rw [h2, hg]) h4
    rw [k_Li_init_25]
    simp only [mt_kk, mt_l0, lget, lput, fnth, fset, gf, pf, gi, ga, mt_is, mt_pop, g_nil, g_const, g_null, g_iload, g_aload, g_istore, g_astore, g_iinc, g_add, g_sub, g_mul, g_and, g_xor, g_div, g_rem, g_dup, g_dup2, g_pop, g_get, g_putI, g_putZ, g_putA, g_iald, g_zald, g_iast, g_zast, g_aald, g_aast, g_alen, g_new, g_newI, g_newA, g_objinit, l_fall, l_ifeq, l_ifne, l_iflt, l_ifge, l_ifgt, l_ifle, l_iceq, l_icne, l_iclt, l_icge, l_icgt, l_icle, l_nullN, l_nullS, l_nonnullN, l_nonnullS, l_acne, l_callV, l_callI, l_callS, l_ret, l_iret, l_zret, l_aret, l_after, List.length_cons, List.length_nil, Nat.reduceAdd, Nat.reduceLT, Nat.reduceLeDiff, Nat.reduceEqDiff, and_self, and_true, true_and, if_true, if_false, reduceIte, ite_true, ite_false, beq_self_eq_true, Nat.zero_add, Option.toList_some, Option.toList_none, List.cons_append, List.nil_append, pim_at (b := b) (F := F) (show 34 < 36 + 2 * 13 by decide), pim_at (b := b) (F := F) (show 35 < 36 + 2 * 13 by decide), hK1, h2, eq_true (nI_le (show 13 ≤ 13 by decide) (by decide)), Nat.reduceMul]
    exact h9
  | succ d ih =>
    intro i E w g hi hw h1 h2 h3 h4
    have hlt : i < 13 := by omega
    have kk := kd_m1 i hlt
    have hK1 : E 34 = .inl (3, [.inr (some (b + 35)), .inl (nI 0), .inl (nI 0)]) := by rw [h1 34 (by decide) (by decide), hK]
    have hx := mt_ix_nI (j := i) (n := 13) hlt (by decide)
    rw [k_Li_init_25]
    simp only [k_Li_init_31, mt_kk, mt_l0, lget, lput, fnth, fset, gf, pf, gi, ga, mt_is, mt_pop, g_nil, g_const, g_null, g_iload, g_aload, g_istore, g_astore, g_iinc, g_add, g_sub, g_mul, g_and, g_xor, g_div, g_rem, g_dup, g_dup2, g_pop, g_get, g_putI, g_putZ, g_putA, g_iald, g_zald, g_iast, g_zast, g_aald, g_aast, g_alen, g_new, g_newI, g_newA, g_objinit, l_fall, l_ifeq, l_ifne, l_iflt, l_ifge, l_ifgt, l_ifle, l_iceq, l_icne, l_iclt, l_icge, l_icgt, l_icle, l_nullN, l_nullS, l_nonnullN, l_nonnullS, l_acne, l_callV, l_callI, l_callS, l_ret, l_iret, l_zret, l_aret, l_after, List.length_cons, List.length_nil, Nat.reduceAdd, Nat.reduceLT, Nat.reduceLeDiff, Nat.reduceEqDiff, and_self, and_true, true_and, if_true, if_false, reduceIte, ite_true, ite_false, beq_self_eq_true, Nat.zero_add, Option.toList_some, Option.toList_none, List.cons_append, List.nil_append, mn, pim_at (b := b) (F := F) (show 34 < 36 + 2 * i by omega), pim_at (b := b) (F := F) (show 35 < 36 + 2 * i by omega), hK1, h2, eq_false (nI_ge hlt (by decide))]
    refine mt_call (i_Ms (k := 36 + 2 * i) eu_same (by omega) kk.1 kk.2.2.1) ?_
    rintro r ⟨E1, w1, rfl, c1, c2, c3⟩
    have hA1 : E1 35 = .inr (2, 13, .inr g) := by rw [c2 35 (by omega), eu_ne (by omega), h2]
    have hN1 : E1 (36 + 2 * i) = ly b V0 (36 + 2 * i) := c3 _ (Nat.le_refl _) (by omega)
    rw [ly_Ms kk.1] at hN1
    simp only [k_Li_init_43, mt_kk, mt_l0, lget, lput, fnth, fset, gf, pf, gi, ga, mt_is, mt_pop, g_nil, g_const, g_null, g_iload, g_aload, g_istore, g_astore, g_iinc, g_add, g_sub, g_mul, g_and, g_xor, g_div, g_rem, g_dup, g_dup2, g_pop, g_get, g_putI, g_putZ, g_putA, g_iald, g_zald, g_iast, g_zast, g_aald, g_aast, g_alen, g_new, g_newI, g_newA, g_objinit, l_fall, l_ifeq, l_ifne, l_iflt, l_ifge, l_ifgt, l_ifle, l_iceq, l_icne, l_iclt, l_icge, l_icgt, l_icle, l_nullN, l_nullS, l_nonnullN, l_nonnullS, l_acne, l_callV, l_callI, l_callS, l_ret, l_iret, l_zret, l_aret, l_after, List.length_cons, List.length_nil, Nat.reduceAdd, Nat.reduceLT, Nat.reduceLeDiff, Nat.reduceEqDiff, and_self, and_true, true_and, if_true, if_false, reduceIte, ite_true, ite_false, beq_self_eq_true, Nat.zero_add, Option.toList_some, Option.toList_none, List.cons_append, List.nil_append, pim_at (b := b) (F := F) (show 35 < 36 + 2 * i + 1 + 1 by omega), pim_at (b := b) (F := F) (show 36 + 2 * i < 36 + 2 * i + 1 + 1 by omega), hA1, hN1, hx, mu (b := b) (F := F) (show 35 < 36 + 2 * i + 1 + 1 by omega), nI_add]
    have h9 := ih (i + 1) (eu E1 35 (.inr (2, 13, .inr (va_up g i (some (b + (36 + 2 * i))))))) w1 (va_up g i (some (b + (36 + 2 * i)))) (by omega) (by omega) (fun o o1 o2 => by rw [eu_ne o2, c2 o (by omega), eu_ne (by omega), h1 o o1 o2]) eu_same (fun j => ?_) (fun o o1 o2 => ?_)
    · have e : 36 + 2 * (i + 1) = 36 + 2 * i + 1 + 1 := by omega
      rw [e] at h9
      exact h9
    · unfold va_up
      by_cases e : j = i
      · subst e
        rw [if_pos rfl, if_pos (by omega)]
      · rw [if_neg e, h3 j]
        by_cases e2 : j < i
        · rw [if_pos e2, if_pos (by omega)]
        · rw [if_neg e2, if_neg (by omega)]
    · rw [eu_ne (by omega)]
      by_cases e : o < 36 + 2 * i
      · rw [c2 o e, eu_ne (by omega)]
        exact h4 o o1 e
      · exact c3 o (by omega) (by omega)
theorem lc_Jo (Q : m_R → Prop) (hK : E0 63 = .inl (1, [.inr (some (b + 64)), .inl (nI 0), .inl (nI 0)])) (hq : ∀ (E1 : Nat → m_E) (w1 : Nat), w1 ≤ w0 + 540 → (∀ o, o < 65 → o ≠ 64 → E1 o = E0 o) → E1 64 = .inr (5, 12, .inr (fun j => if j < 12 then some (b + (65 + 3 * j)) else none)) → (∀ o, 65 ≤ o → o < 101 → E1 o = ly b V0 o) → mt_T cd_Jo_init 50 ([some (.inr (some (b + 63))), some (.inl (nI 12))], [], (b + 101, w1, pim b E1 101 F)) Q) (d : Nat) : ∀ (i : Nat) (E : Nat → m_E) (w : Nat) (g : Nat → Option Nat), i + d = 12 → w ≤ w0 + 45 * i → (∀ o, o < 65 → o ≠ 64 → E o = E0 o) → E 64 = .inr (5, 12, .inr g) → (∀ j, g j = if j < i then some (b + (65 + 3 * j)) else none) → (∀ o, 65 ≤ o → o < 65 + 3 * i → E o = ly b V0 o) → mt_T cd_Jo_init 25 ([some (.inr (some (b + 63))), some (.inl (nI i))], [], (b + (65 + 3 * i), w, pim b E (65 + 3 * i) F)) Q := by
  induction d with
  | zero =>
    intro i E w g hi hw h1 h2 h3 h4
    have hi : i = 12 := hi
    subst hi
    have hg : g = (fun j => if j < 12 then some (b + (65 + 3 * j)) else none) := funext h3
    have hK1 : E 63 = .inl (1, [.inr (some (b + 64)), .inl (nI 0), .inl (nI 0)]) := by rw [h1 63 (by decide) (by decide), hK]
    have h9 := hq E w hw h1 (by rw [h2, hg]) h4
    rw [k_Jo_init_25]
    simp only [mt_kk, mt_l0, lget, lput, fnth, fset, gf, pf, gi, ga, mt_is, mt_pop, g_nil, g_const, g_null, g_iload, g_aload, g_istore, g_astore, g_iinc, g_add, g_sub, g_mul, g_and, g_xor, g_div, g_rem, g_dup, g_dup2, g_pop, g_get, g_putI, g_putZ, g_putA, g_iald, g_zald, g_iast, g_zast, g_aald, g_aast, g_alen, g_new, g_newI, g_newA, g_objinit, l_fall, l_ifeq, l_ifne, l_iflt, l_ifge, l_ifgt, l_ifle, l_iceq, l_icne, l_iclt, l_icge, l_icgt, l_icle, l_nullN, l_nullS, l_nonnullN, l_nonnullS, l_acne, l_callV, l_callI, l_callS, l_ret, l_iret, l_zret, l_aret, l_after, List.length_cons, List.length_nil, Nat.reduceAdd, Nat.reduceLT, Nat.reduceLeDiff, Nat.reduceEqDiff, and_self, and_true, true_and, if_true, if_false, reduceIte, ite_true, ite_false, beq_self_eq_true, Nat.zero_add, Option.toList_some, Option.toList_none, List.cons_append, List.nil_append, pim_at (b := b) (F := F) (show 63 < 65 + 3 * 12 by decide), pim_at (b := b) (F := F) (show 64 < 65 + 3 * 12 by decide), hK1, h2, eq_true (nI_le (show 12 ≤ 12 by decide) (by decide)), Nat.reduceMul]
    exact h9
  | succ d ih =>
    intro i E w g hi hw h1 h2 h3 h4
    have hlt : i < 12 := by omega
    have kk := kd_rec i hlt
    have hK1 : E 63 = .inl (1, [.inr (some (b + 64)), .inl (nI 0), .inl (nI 0)]) := by rw [h1 63 (by decide) (by decide), hK]
    have hx := mt_ix_nI (j := i) (n := 12) hlt (by decide)
    rw [k_Jo_init_25]
    simp only [k_Jo_init_31, mt_kk, mt_l0, lget, lput, fnth, fset, gf, pf, gi, ga, mt_is, mt_pop, g_nil, g_const, g_null, g_iload, g_aload, g_istore, g_astore, g_iinc, g_add, g_sub, g_mul, g_and, g_xor, g_div, g_rem, g_dup, g_dup2, g_pop, g_get, g_putI, g_putZ, g_putA, g_iald, g_zald, g_iast, g_zast, g_aald, g_aast, g_alen, g_new, g_newI, g_newA, g_objinit, l_fall, l_ifeq, l_ifne, l_iflt, l_ifge, l_ifgt, l_ifle, l_iceq, l_icne, l_iclt, l_icge, l_icgt, l_icle, l_nullN, l_nullS, l_nonnullN, l_nonnullS, l_acne, l_callV, l_callI, l_callS, l_ret, l_iret, l_zret, l_aret, l_after, List.length_cons, List.length_nil, Nat.reduceAdd, Nat.reduceLT, Nat.reduceLeDiff, Nat.reduceEqDiff, and_self, and_true, true_and, if_true, if_false, reduceIte, ite_true, ite_false, beq_self_eq_true, Nat.zero_add, Option.toList_some, Option.toList_none, List.cons_append, List.nil_append, mn, pim_at (b := b) (F := F) (show 63 < 65 + 3 * i by omega), pim_at (b := b) (F := F) (show 64 < 65 + 3 * i by omega), hK1, h2, eq_false (nI_ge hlt (by decide))]
    refine mt_call (i_Jr (k := 65 + 3 * i) eu_same (by omega) kk.1 kk.2.2.1 kk.2.2.2.2.1) ?_
    rintro r ⟨E1, w1, rfl, c1, c2, c3⟩
    have hA1 : E1 64 = .inr (5, 12, .inr g) := by rw [c2 64 (by omega), eu_ne (by omega), h2]
    have hN1 : E1 (65 + 3 * i) = ly b V0 (65 + 3 * i) := c3 _ (Nat.le_refl _) (by omega)
    rw [ly_Jr kk.1] at hN1
    simp only [k_Jo_init_43, mt_kk, mt_l0, lget, lput, fnth, fset, gf, pf, gi, ga, mt_is, mt_pop, g_nil, g_const, g_null, g_iload, g_aload, g_istore, g_astore, g_iinc, g_add, g_sub, g_mul, g_and, g_xor, g_div, g_rem, g_dup, g_dup2, g_pop, g_get, g_putI, g_putZ, g_putA, g_iald, g_zald, g_iast, g_zast, g_aald, g_aast, g_alen, g_new, g_newI, g_newA, g_objinit, l_fall, l_ifeq, l_ifne, l_iflt, l_ifge, l_ifgt, l_ifle, l_iceq, l_icne, l_iclt, l_icge, l_icgt, l_icle, l_nullN, l_nullS, l_nonnullN, l_nonnullS, l_acne, l_callV, l_callI, l_callS, l_ret, l_iret, l_zret, l_aret, l_after, List.length_cons, List.length_nil, Nat.reduceAdd, Nat.reduceLT, Nat.reduceLeDiff, Nat.reduceEqDiff, and_self, and_true, true_and, if_true, if_false, reduceIte, ite_true, ite_false, beq_self_eq_true, Nat.zero_add, Option.toList_some, Option.toList_none, List.cons_append, List.nil_append, pim_at (b := b) (F := F) (show 64 < 65 + 3 * i + 1 + 1 + 1 by omega), pim_at (b := b) (F := F) (show 65 + 3 * i < 65 + 3 * i + 1 + 1 + 1 by omega), hA1, hN1, hx, mu (b := b) (F := F) (show 64 < 65 + 3 * i + 1 + 1 + 1 by omega), nI_add]
    have h9 := ih (i + 1) (eu E1 64 (.inr (5, 12, .inr (va_up g i (some (b + (65 + 3 * i))))))) w1 (va_up g i (some (b + (65 + 3 * i)))) (by omega) (by omega) (fun o o1 o2 => by rw [eu_ne o2, c2 o (by omega), eu_ne (by omega), h1 o o1 o2]) eu_same (fun j => ?_) (fun o o1 o2 => ?_)
    · have e : 65 + 3 * (i + 1) = 65 + 3 * i + 1 + 1 + 1 := by omega
      rw [e] at h9
      exact h9
    · unfold va_up
      by_cases e : j = i
      · subst e
        rw [if_pos rfl, if_pos (by omega)]
      · rw [if_neg e, h3 j]
        by_cases e2 : j < i
        · rw [if_pos e2, if_pos (by omega)]
        · rw [if_neg e2, if_neg (by omega)]
    · rw [eu_ne (by omega)]
      by_cases e : o < 65 + 3 * i
      · rw [c2 o e, eu_ne (by omega)]
        exact h4 o o1 e
      · exact c3 o (by omega) (by omega)
theorem lc_Fi (Q : m_R → Prop) (hK : E0 0 = .inl (8, [.inr (some (b + 1)), .inr (some (b + 2)), .inr (some (b + 6)), .inr (some (b + 34)), .inr (some (b + 62)), .inr (some (b + 63)), .inr (some (b + 101)), .inr (some (b + 103)), .inl (nI 0), .inl (nI 0), .inl (nI 0), .inl (nI 1)])) (hq : ∀ (E1 : Nat → m_E) (w1 : Nat), w1 ≤ w0 + 1080 → (∀ o, o < 104 → o ≠ 1 → E1 o = E0 o) → E1 1 = .inr (3, 24, .inr (fun j => if j < 24 then some (b + (104 + 3 * j)) else none)) → (∀ o, 104 ≤ o → o < 176 → E1 o = ly b V0 o) → mt_T cd_TC_init 135 ([some (.inr (some (b))), some (.inl (nI 24))], [], (b + 176, w1, pim b E1 176 F)) Q) (d : Nat) : ∀ (i : Nat) (E : Nat → m_E) (w : Nat) (g : Nat → Option Nat), i + d = 24 → w ≤ w0 + 45 * i → (∀ o, o < 104 → o ≠ 1 → E o = E0 o) → E 1 = .inr (3, 24, .inr g) → (∀ j, g j = if j < i then some (b + (104 + 3 * j)) else none) → (∀ o, 104 ≤ o → o < 104 + 3 * i → E o = ly b V0 o) → mt_T cd_TC_init 107 ([some (.inr (some (b))), some (.inl (nI i))], [], (b + (104 + 3 * i), w, pim b E (104 + 3 * i) F)) Q := by
  induction d with
  | zero =>
    intro i E w g hi hw h1 h2 h3 h4
    have hi : i = 24 := hi
    subst hi
    have hg : g = (fun j => if j < 24 then some (b + (104 + 3 * j)) else none) := funext h3
    have hK1 : E 0 = .inl (8, [.inr (some (b + 1)), .inr (some (b + 2)), .inr (some (b + 6)), .inr (some (b + 34)), .inr (some (b + 62)), .inr (some (b + 63)), .inr (some (b + 101)), .inr (some (b + 103)), .inl (nI 0), .inl (nI 0), .inl (nI 0), .inl (nI 1)]) := by rw [h1 0 (by decide) (by decide), hK]
    have h9 := hq E w hw h1 (by rw [h2, hg]) h4
    rw [k_TC_init_107]
    simp only [mt_kk, mt_l0, lget, lput, fnth, fset, gf, pf, gi, ga, mt_is, mt_pop, g_nil, g_const, g_null, g_iload, g_aload, g_istore, g_astore, g_iinc, g_add, g_sub, g_mul, g_and, g_xor, g_div, g_rem, g_dup, g_dup2, g_pop, g_get, g_putI, g_putZ, g_putA, g_iald, g_zald, g_iast, g_zast, g_aald, g_aast, g_alen, g_new, g_newI, g_newA, g_objinit, l_fall, l_ifeq, l_ifne, l_iflt, l_ifge, l_ifgt, l_ifle, l_iceq, l_icne, l_iclt, l_icge, l_icgt, l_icle, l_nullN, l_nullS, l_nonnullN, l_nonnullS, l_acne, l_callV, l_callI, l_callS, l_ret, l_iret, l_zret, l_aret, l_after, List.length_cons, List.length_nil, Nat.reduceAdd, Nat.reduceLT, Nat.reduceLeDiff, Nat.reduceEqDiff, and_self, and_true, true_and, if_true, if_false, reduceIte, ite_true, ite_false, beq_self_eq_true, Nat.zero_add, Option.toList_some, Option.toList_none, List.cons_append, List.nil_append, pim_0 (b := b) (F := F) (show 0 < 104 + 3 * 24 by decide), pim_at (b := b) (F := F) (show 1 < 104 + 3 * 24 by decide), hK1, h2, eq_true (nI_le (show 24 ≤ 24 by decide) (by decide)), Nat.reduceMul]
    exact h9
  | succ d ih =>
    intro i E w g hi hw h1 h2 h3 h4
    have hlt : i < 24 := by omega
    have kk := kd_file i hlt
    have hK1 : E 0 = .inl (8, [.inr (some (b + 1)), .inr (some (b + 2)), .inr (some (b + 6)), .inr (some (b + 34)), .inr (some (b + 62)), .inr (some (b + 63)), .inr (some (b + 101)), .inr (some (b + 103)), .inl (nI 0), .inl (nI 0), .inl (nI 0), .inl (nI 1)]) := by rw [h1 0 (by decide) (by decide), hK]
    have hx := mt_ix_nI (j := i) (n := 24) hlt (by decide)
    rw [k_TC_init_107]
    simp only [k_TC_init_116, mt_kk, mt_l0, lget, lput, fnth, fset, gf, pf, gi, ga, mt_is, mt_pop, g_nil, g_const, g_null, g_iload, g_aload, g_istore, g_astore, g_iinc, g_add, g_sub, g_mul, g_and, g_xor, g_div, g_rem, g_dup, g_dup2, g_pop, g_get, g_putI, g_putZ, g_putA, g_iald, g_zald, g_iast, g_zast, g_aald, g_aast, g_alen, g_new, g_newI, g_newA, g_objinit, l_fall, l_ifeq, l_ifne, l_iflt, l_ifge, l_ifgt, l_ifle, l_iceq, l_icne, l_iclt, l_icge, l_icgt, l_icle, l_nullN, l_nullS, l_nonnullN, l_nonnullS, l_acne, l_callV, l_callI, l_callS, l_ret, l_iret, l_zret, l_aret, l_after, List.length_cons, List.length_nil, Nat.reduceAdd, Nat.reduceLT, Nat.reduceLeDiff, Nat.reduceEqDiff, and_self, and_true, true_and, if_true, if_false, reduceIte, ite_true, ite_false, beq_self_eq_true, Nat.zero_add, Option.toList_some, Option.toList_none, List.cons_append, List.nil_append, mn, pim_0 (b := b) (F := F) (show 0 < 104 + 3 * i by omega), pim_0 (b := b) (F := F) (show 0 < 104 + 3 * i + 1 by omega), pim_at (b := b) (F := F) (show 1 < 104 + 3 * i by omega), hK1, h2, eq_false (nI_ge hlt (by decide))]
    refine mt_call (i_Sf (k := 104 + 3 * i) eu_same (by omega) kk.1 kk.2.2.1 kk.2.2.2.2.1) ?_
    rintro r ⟨E1, w1, rfl, c1, c2, c3⟩
    have hA1 : E1 1 = .inr (3, 24, .inr g) := by rw [c2 1 (by omega), eu_ne (by omega), h2]
    have hN1 : E1 (104 + 3 * i) = ly b V0 (104 + 3 * i) := c3 _ (Nat.le_refl _) (by omega)
    rw [ly_Sf kk.1] at hN1
    simp only [k_TC_init_128, mt_kk, mt_l0, lget, lput, fnth, fset, gf, pf, gi, ga, mt_is, mt_pop, g_nil, g_const, g_null, g_iload, g_aload, g_istore, g_astore, g_iinc, g_add, g_sub, g_mul, g_and, g_xor, g_div, g_rem, g_dup, g_dup2, g_pop, g_get, g_putI, g_putZ, g_putA, g_iald, g_zald, g_iast, g_zast, g_aald, g_aast, g_alen, g_new, g_newI, g_newA, g_objinit, l_fall, l_ifeq, l_ifne, l_iflt, l_ifge, l_ifgt, l_ifle, l_iceq, l_icne, l_iclt, l_icge, l_icgt, l_icle, l_nullN, l_nullS, l_nonnullN, l_nonnullS, l_acne, l_callV, l_callI, l_callS, l_ret, l_iret, l_zret, l_aret, l_after, List.length_cons, List.length_nil, Nat.reduceAdd, Nat.reduceLT, Nat.reduceLeDiff, Nat.reduceEqDiff, and_self, and_true, true_and, if_true, if_false, reduceIte, ite_true, ite_false, beq_self_eq_true, Nat.zero_add, Option.toList_some, Option.toList_none, List.cons_append, List.nil_append, pim_at (b := b) (F := F) (show 1 < 104 + 3 * i + 1 + 1 + 1 by omega), pim_at (b := b) (F := F) (show 104 + 3 * i < 104 + 3 * i + 1 + 1 + 1 by omega), hA1, hN1, hx, mu (b := b) (F := F) (show 1 < 104 + 3 * i + 1 + 1 + 1 by omega), nI_add]
    have h9 := ih (i + 1) (eu E1 1 (.inr (3, 24, .inr (va_up g i (some (b + (104 + 3 * i))))))) w1 (va_up g i (some (b + (104 + 3 * i)))) (by omega) (by omega) (fun o o1 o2 => by rw [eu_ne o2, c2 o (by omega), eu_ne (by omega), h1 o o1 o2]) eu_same (fun j => ?_) (fun o o1 o2 => ?_)
    · have e : 104 + 3 * (i + 1) = 104 + 3 * i + 1 + 1 + 1 := by omega
      rw [e] at h9
      exact h9
    · unfold va_up
      by_cases e : j = i
      · subst e
        rw [if_pos rfl, if_pos (by omega)]
      · rw [if_neg e, h3 j]
        by_cases e2 : j < i
        · rw [if_pos e2, if_pos (by omega)]
        · rw [if_neg e2, if_neg (by omega)]
    · rw [eu_ne (by omega)]
      by_cases e : o < 104 + 3 * i
      · rw [c2 o e, eu_ne (by omega)]
        exact h4 o o1 e
      · exact c3 o (by omega) (by omega)
theorem lc_En (Q : m_R → Prop) (hK : E0 0 = .inl (8, [.inr (some (b + 1)), .inr (some (b + 2)), .inr (some (b + 6)), .inr (some (b + 34)), .inr (some (b + 62)), .inr (some (b + 63)), .inr (some (b + 101)), .inr (some (b + 103)), .inl (nI 0), .inl (nI 0), .inl (nI 0), .inl (nI 1)])) (hq : ∀ (E1 : Nat → m_E) (w1 : Nat), w1 ≤ w0 + 48 → (∀ o, o < 176 → o ≠ 62 → E1 o = E0 o) → E1 62 = .inr (4, 12, .inr (fun j => if j < 12 then some (b + (176 + j)) else none)) → (∀ o, 176 ≤ o → o < 188 → E1 o = ly b V0 o) → mt_T cd_TC_init 162 ([some (.inr (some (b))), some (.inl (nI 12))], [], (b + 188, w1, pim b E1 188 F)) Q) (d : Nat) : ∀ (i : Nat) (E : Nat → m_E) (w : Nat) (g : Nat → Option Nat), i + d = 12 → w ≤ w0 + 4 * i → (∀ o, o < 176 → o ≠ 62 → E o = E0 o) → E 62 = .inr (4, 12, .inr g) → (∀ j, g j = if j < i then some (b + (176 + j)) else none) → (∀ o, 176 ≤ o → o < 176 + i → E o = ly b V0 o) → mt_T cd_TC_init 137 ([some (.inr (some (b))), some (.inl (nI i))], [], (b + (176 + i), w, pim b E (176 + i) F)) Q := by
  induction d with
  | zero =>
    intro i E w g hi hw h1 h2 h3 h4
    have hi : i = 12 := hi
    subst hi
    have hg : g = (fun j => if j < 12 then some (b + (176 + j)) else none) := funext h3
    have hK1 : E 0 = .inl (8, [.inr (some (b + 1)), .inr (some (b + 2)), .inr (some (b + 6)), .inr (some (b + 34)), .inr (some (b + 62)), .inr (some (b + 63)), .inr (some (b + 101)), .inr (some (b + 103)), .inl (nI 0), .inl (nI 0), .inl (nI 0), .inl (nI 1)]) := by rw [h1 0 (by decide) (by decide), hK]
    have h9 := hq E w hw h1 (by rw [h2, hg]) h4
    rw [k_TC_init_137]
    simp only [mt_kk, mt_l0, lget, lput, fnth, fset, gf, pf, gi, ga, mt_is, mt_pop, g_nil, g_const, g_null, g_iload, g_aload, g_istore, g_astore, g_iinc, g_add, g_sub, g_mul, g_and, g_xor, g_div, g_rem, g_dup, g_dup2, g_pop, g_get, g_putI, g_putZ, g_putA, g_iald, g_zald, g_iast, g_zast, g_aald, g_aast, g_alen, g_new, g_newI, g_newA, g_objinit, l_fall, l_ifeq, l_ifne, l_iflt, l_ifge, l_ifgt, l_ifle, l_iceq, l_icne, l_iclt, l_icge, l_icgt, l_icle, l_nullN, l_nullS, l_nonnullN, l_nonnullS, l_acne, l_callV, l_callI, l_callS, l_ret, l_iret, l_zret, l_aret, l_after, List.length_cons, List.length_nil, Nat.reduceAdd, Nat.reduceLT, Nat.reduceLeDiff, Nat.reduceEqDiff, and_self, and_true, true_and, if_true, if_false, reduceIte, ite_true, ite_false, beq_self_eq_true, Nat.zero_add, Option.toList_some, Option.toList_none, List.cons_append, List.nil_append, pim_0 (b := b) (F := F) (show 0 < 176 + 12 by decide), pim_at (b := b) (F := F) (show 62 < 176 + 12 by decide), hK1, h2, eq_true (nI_le (show 12 ≤ 12 by decide) (by decide)), Nat.reduceMul]
    exact h9
  | succ d ih =>
    intro i E w g hi hw h1 h2 h3 h4
    have hlt : i < 12 := by omega
    have kk := kd_entry i hlt
    have hK1 : E 0 = .inl (8, [.inr (some (b + 1)), .inr (some (b + 2)), .inr (some (b + 6)), .inr (some (b + 34)), .inr (some (b + 62)), .inr (some (b + 63)), .inr (some (b + 101)), .inr (some (b + 103)), .inl (nI 0), .inl (nI 0), .inl (nI 0), .inl (nI 1)]) := by rw [h1 0 (by decide) (by decide), hK]
    have hx := mt_ix_nI (j := i) (n := 12) hlt (by decide)
    rw [k_TC_init_137]
    simp only [k_TC_init_143, mt_kk, mt_l0, lget, lput, fnth, fset, gf, pf, gi, ga, mt_is, mt_pop, g_nil, g_const, g_null, g_iload, g_aload, g_istore, g_astore, g_iinc, g_add, g_sub, g_mul, g_and, g_xor, g_div, g_rem, g_dup, g_dup2, g_pop, g_get, g_putI, g_putZ, g_putA, g_iald, g_zald, g_iast, g_zast, g_aald, g_aast, g_alen, g_new, g_newI, g_newA, g_objinit, l_fall, l_ifeq, l_ifne, l_iflt, l_ifge, l_ifgt, l_ifle, l_iceq, l_icne, l_iclt, l_icge, l_icgt, l_icle, l_nullN, l_nullS, l_nonnullN, l_nonnullS, l_acne, l_callV, l_callI, l_callS, l_ret, l_iret, l_zret, l_aret, l_after, List.length_cons, List.length_nil, Nat.reduceAdd, Nat.reduceLT, Nat.reduceLeDiff, Nat.reduceEqDiff, and_self, and_true, true_and, if_true, if_false, reduceIte, ite_true, ite_false, beq_self_eq_true, Nat.zero_add, Option.toList_some, Option.toList_none, List.cons_append, List.nil_append, mn, pim_0 (b := b) (F := F) (show 0 < 176 + i by omega), pim_0 (b := b) (F := F) (show 0 < 176 + i + 1 by omega), pim_at (b := b) (F := F) (show 62 < 176 + i by omega), hK1, h2, eq_false (nI_ge hlt (by decide))]
    refine mt_call (i_En (k := 176 + i) eu_same (by omega) kk.1) ?_
    rintro r ⟨E1, w1, rfl, c1, c2, c3⟩
    have hA1 : E1 62 = .inr (4, 12, .inr g) := by rw [c2 62 (by omega), eu_ne (by omega), h2]
    have hN1 : E1 (176 + i) = ly b V0 (176 + i) := c3 _ (Nat.le_refl _) (by omega)
    rw [ly_En kk.1] at hN1
    simp only [k_TC_init_155, mt_kk, mt_l0, lget, lput, fnth, fset, gf, pf, gi, ga, mt_is, mt_pop, g_nil, g_const, g_null, g_iload, g_aload, g_istore, g_astore, g_iinc, g_add, g_sub, g_mul, g_and, g_xor, g_div, g_rem, g_dup, g_dup2, g_pop, g_get, g_putI, g_putZ, g_putA, g_iald, g_zald, g_iast, g_zast, g_aald, g_aast, g_alen, g_new, g_newI, g_newA, g_objinit, l_fall, l_ifeq, l_ifne, l_iflt, l_ifge, l_ifgt, l_ifle, l_iceq, l_icne, l_iclt, l_icge, l_icgt, l_icle, l_nullN, l_nullS, l_nonnullN, l_nonnullS, l_acne, l_callV, l_callI, l_callS, l_ret, l_iret, l_zret, l_aret, l_after, List.length_cons, List.length_nil, Nat.reduceAdd, Nat.reduceLT, Nat.reduceLeDiff, Nat.reduceEqDiff, and_self, and_true, true_and, if_true, if_false, reduceIte, ite_true, ite_false, beq_self_eq_true, Nat.zero_add, Option.toList_some, Option.toList_none, List.cons_append, List.nil_append, pim_at (b := b) (F := F) (show 62 < 176 + i + 1 by omega), pim_at (b := b) (F := F) (show 176 + i < 176 + i + 1 by omega), hA1, hN1, hx, mu (b := b) (F := F) (show 62 < 176 + i + 1 by omega), nI_add]
    have h9 := ih (i + 1) (eu E1 62 (.inr (4, 12, .inr (va_up g i (some (b + (176 + i))))))) w1 (va_up g i (some (b + (176 + i)))) (by omega) (by omega) (fun o o1 o2 => by rw [eu_ne o2, c2 o (by omega), eu_ne (by omega), h1 o o1 o2]) eu_same (fun j => ?_) (fun o o1 o2 => ?_)
    · have e : 176 + (i + 1) = 176 + i + 1 := by omega
      rw [e] at h9
      exact h9
    · unfold va_up
      by_cases e : j = i
      · subst e
        rw [if_pos rfl, if_pos (by omega)]
      · rw [if_neg e, h3 j]
        by_cases e2 : j < i
        · rw [if_pos e2, if_pos (by omega)]
        · rw [if_neg e2, if_neg (by omega)]
    · rw [eu_ne (by omega)]
      by_cases e : o < 176 + i
      · rw [c2 o e, eu_ne (by omega)]
        exact h4 o o1 e
      · exact c3 o (by omega) (by omega)
end CL
