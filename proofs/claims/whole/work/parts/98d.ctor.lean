/-! The constructors. -/
def eu (E : Nat → m_E) (k : Nat) (e : m_E) (o : Nat) : m_E := if o = k then e else E o
def pim (b : Nat) (E : Nat → m_E) (k : Nat) (F : Nat → Option m_E) (a : Nat) : Option m_E := if b ≤ a ∧ a < b + k then some (E (a - b)) else F a
def V0 : v_N := fun o k => if o = 0 ∧ k = 11 then nI 1 else nI 0
theorem V0_off {o : Nat} (h : 0 < o) : V0 o = fun _ => nI 0 := by
  funext k
  unfold V0
  rw [if_neg (by omega)]
section PI
variable {b k o n w s : Nat} {E : Nat → m_E} {F : Nat → Option m_E} {e e1 : m_E}
theorem eu_same : eu E k e k = e := if_pos rfl
theorem eu_ne (h : o ≠ k) : eu E k e o = E o := if_neg h
theorem eu_eu : eu (eu E k e1) k e = eu E k e := by
  funext o
  unfold eu
  by_cases h : o = k
  · rw [if_pos h, if_pos h]
  · rw [if_neg h, if_neg h, if_neg h]
theorem pim_at (h : o < k) : pim b E k F (b + o) = some (E o) := by
  unfold pim
  rw [if_pos (by omega), Nat.add_sub_cancel_left]
theorem pim_0 (h : 0 < k) : pim b E k F b = some (E 0) := pim_at (o := 0) h
theorem mn : mnew (b + k, w, pim b E k F) s e = (b + (k + 1), w + s, pim b (eu E k e) (k + 1) F) := by
  unfold mnew
  refine congrArg _ (congrArg _ ?_)
  funext a
  unfold va_up pim eu
  dsimp only
  by_cases h : a = b + k
  · rw [if_pos h, if_pos (by omega), if_pos (by omega)]
  · rw [if_neg h]
    by_cases h2 : b ≤ a ∧ a < b + k
    · rw [if_pos h2, if_pos (by omega), if_neg (by omega)]
    · rw [if_neg h2, if_neg (by omega)]
theorem mn1 {F : Nat → Option m_E} : mnew (b, w, F) s e = (b + 1, w + s, pim b (fun _ => e) 1 F) := by
  unfold mnew
  refine congrArg _ (congrArg _ ?_)
  funext a
  unfold va_up pim
  dsimp only
  by_cases h : a = b
  · rw [if_pos h, if_pos (by omega)]
  · rw [if_neg h, if_neg (by omega)]
theorem mu (h : o < k) : mup (n, w, pim b E k F) (b + o) e = (n, w, pim b (eu E o e) k F) := by
  unfold mup
  refine congrArg _ (congrArg _ ?_)
  funext a
  unfold va_up pim eu
  dsimp only
  by_cases h1 : a = b + o
  · rw [if_pos h1, if_pos (by omega), if_pos (by omega)]
  · rw [if_neg h1]
    by_cases h2 : b ≤ a ∧ a < b + k
    · rw [if_pos h2, if_pos h2, if_neg (by omega)]
    · rw [if_neg h2, if_neg h2]
theorem mu_0 (h : 0 < k) : mup (n, w, pim b E k F) b e = (n, w, pim b (eu E 0 e) k F) := mu (o := 0) h
theorem pim_img (h : ∀ o, o < 188 → E o = ly b V0 o) : pim b E 188 F = img b V0 F := by
  funext a
  unfold pim img
  by_cases h2 : b ≤ a ∧ a < b + 188
  · rw [if_pos h2, if_pos h2, h _ (by omega)]
  · rw [if_neg h2, if_neg h2]
theorem pim_imr {U : v_N} (h : ∀ o, o < 20 → E o = lz b U o) : pim b E 20 F = imr b U F := by
  funext a
  unfold pim imr
  by_cases h2 : b ≤ a ∧ a < b + 20
  · rw [if_pos h2, if_pos h2, h _ (by omega)]
  · rw [if_neg h2, if_neg h2]
end PI
/-- cells k .. k2 - 1 are made as they must be, those below k stay -/
def i_Q (b : Nat) (F : Nat → Option m_E) (k k2 W : Nat) (E : Nat → m_E) : m_R → Prop := fun r => ∃ (E1 : Nat → m_E) (w1 : Nat), r = (none, (b + k2, w1, pim b E1 k2 F)) ∧ w1 ≤ W ∧ (∀ o, o < k → E1 o = E o) ∧ ∀ o, k ≤ o → o < k2 → E1 o = ly b V0 o
section CT
variable {b k w : Nat} {E : Nat → m_E} {F : Nat → Option m_E}
theorem i_En (hE : E k = .inl (0, n_fs_En)) (h0 : 0 < k) (hd : kd k = 17) : mt_P sm_En_init [.inr (some (b + k))] (b + (k + 1), w, pim b E (k + 1) F) (i_Q b F k (k + 1) w E) := by
  refine mt_P_of ?_
  simp only [k_En_init_0, mt_kk, mt_l0, lget, lput, fnth, fset, gf, pf, gi, ga, mt_is, mt_pop, g_nil, g_const, g_null, g_iload, g_aload, g_istore, g_astore, g_iinc, g_add, g_sub, g_mul, g_and, g_xor, g_div, g_rem, g_dup, g_dup2, g_pop, g_get, g_putI, g_putZ, g_putA, g_iald, g_zald, g_iast, g_zast, g_aald, g_aast, g_alen, g_new, g_newI, g_newA, g_objinit, l_fall, l_ifeq, l_ifne, l_iflt, l_ifge, l_ifgt, l_ifle, l_iceq, l_icne, l_iclt, l_icge, l_icgt, l_icle, l_nullN, l_nullS, l_nonnullN, l_nonnullS, l_acne, l_callV, l_callI, l_callS, l_ret, l_iret, l_zret, l_aret, l_after, List.length_cons, List.length_nil, Nat.reduceAdd, Nat.reduceLT, Nat.reduceLeDiff, Nat.reduceEqDiff, and_self, and_true, true_and, if_true, if_false, reduceIte, ite_true, ite_false, beq_self_eq_true, Nat.zero_add, Option.toList_some, Option.toList_none, List.cons_append, List.nil_append, pim_at (b := b) (F := F) (show k < k + 1 by omega), mu (b := b) (F := F) (show k < k + 1 by omega), eu_same, eu_eu, hE, z_0]
  refine ⟨_, _, rfl, Nat.le_refl _, fun o ho => eu_ne (by omega), fun o h1 h2 => ?_⟩
  have : o = k := by omega
  subst this
  rw [eu_same, ly_En hd, V0_off h0]
theorem i_Ro (hE : E k = .inl (5, n_fs_Ro)) (h0 : 0 < k) (hd : kd k = 14) (hd1 : kd (k + 1) = 9) : mt_P sm_Ro_init [.inr (some (b + k))] (b + (k + 1), w, pim b E (k + 1) F) (i_Q b F k (k + 1 + 1) (w + 40) E) := by
  refine mt_P_of ?_
  have ea : ∀ (E : Nat → m_E) (e : m_E), eu E (k + 1) e k = E k := fun E e => eu_ne (by omega)
  simp only [k_Ro_init_0, mt_kk, mt_l0, lget, lput, fnth, fset, gf, pf, gi, ga, mt_is, mt_pop, g_nil, g_const, g_null, g_iload, g_aload, g_istore, g_astore, g_iinc, g_add, g_sub, g_mul, g_and, g_xor, g_div, g_rem, g_dup, g_dup2, g_pop, g_get, g_putI, g_putZ, g_putA, g_iald, g_zald, g_iast, g_zast, g_aald, g_aast, g_alen, g_new, g_newI, g_newA, g_objinit, l_fall, l_ifeq, l_ifne, l_iflt, l_ifge, l_ifgt, l_ifle, l_iceq, l_icne, l_iclt, l_icge, l_icgt, l_icle, l_nullN, l_nullS, l_nonnullN, l_nonnullS, l_acne, l_callV, l_callI, l_callS, l_ret, l_iret, l_zret, l_aret, l_after, List.length_cons, List.length_nil, Nat.reduceAdd, Nat.reduceLT, Nat.reduceLeDiff, Nat.reduceEqDiff, and_self, and_true, true_and, if_true, if_false, reduceIte, ite_true, ite_false, beq_self_eq_true, Nat.zero_add, Option.toList_some, Option.toList_none, List.cons_append, List.nil_append, mn, pim_at (b := b) (F := F) (show k < k + 1 + 1 by omega), mu (b := b) (F := F) (show k < k + 1 + 1 by omega), eu_same, eu_eu, ea, hE, z_0]
  refine ⟨_, _, rfl, Nat.le_refl _, fun o ho => by rw [eu_ne (by omega), eu_ne (by omega)], fun o h1 h2 => ?_⟩
  rcases (show o = k ∨ o = k + 1 by omega) with rfl | rfl
  · rw [eu_same, ly_Ro hd, V0_off h0]
  · rw [eu_ne (by omega), eu_same, ly_i40 hd1, V0_off (by omega)]
    rfl
theorem i_Ms (hE : E k = .inl (4, n_fs_Ms)) (h0 : 0 < k) (hd : kd k = 8) (hd1 : kd (k + 1) = 9) : mt_P sm_Ms_init [.inr (some (b + k))] (b + (k + 1), w, pim b E (k + 1) F) (i_Q b F k (k + 1 + 1) (w + 40) E) := by
  refine mt_P_of ?_
  have ea : ∀ (E : Nat → m_E) (e : m_E), eu E (k + 1) e k = E k := fun E e => eu_ne (by omega)
  simp only [k_Ms_init_0, mt_kk, mt_l0, lget, lput, fnth, fset, gf, pf, gi, ga, mt_is, mt_pop, g_nil, g_const, g_null, g_iload, g_aload, g_istore, g_astore, g_iinc, g_add, g_sub, g_mul, g_and, g_xor, g_div, g_rem, g_dup, g_dup2, g_pop, g_get, g_putI, g_putZ, g_putA, g_iald, g_zald, g_iast, g_zast, g_aald, g_aast, g_alen, g_new, g_newI, g_newA, g_objinit, l_fall, l_ifeq, l_ifne, l_iflt, l_ifge, l_ifgt, l_ifle, l_iceq, l_icne, l_iclt, l_icge, l_icgt, l_icle, l_nullN, l_nullS, l_nonnullN, l_nonnullS, l_acne, l_callV, l_callI, l_callS, l_ret, l_iret, l_zret, l_aret, l_after, List.length_cons, List.length_nil, Nat.reduceAdd, Nat.reduceLT, Nat.reduceLeDiff, Nat.reduceEqDiff, and_self, and_true, true_and, if_true, if_false, reduceIte, ite_true, ite_false, beq_self_eq_true, Nat.zero_add, Option.toList_some, Option.toList_none, List.cons_append, List.nil_append, mn, pim_at (b := b) (F := F) (show k < k + 1 by omega), mu (b := b) (F := F) (show k < k + 1 by omega), pim_at (b := b) (F := F) (show k < k + 1 + 1 by omega), mu (b := b) (F := F) (show k < k + 1 + 1 by omega), eu_same, eu_eu, ea, hE, z_0]
  refine ⟨_, _, rfl, Nat.le_refl _, fun o ho => by rw [eu_ne (by omega), eu_ne (by omega), eu_ne (by omega)], fun o h1 h2 => ?_⟩
  rcases (show o = k ∨ o = k + 1 by omega) with rfl | rfl
  · rw [eu_same, ly_Ms hd, V0_off h0]
  · rw [eu_ne (by omega), eu_same, ly_i40 hd1, V0_off (by omega)]
    rfl
theorem i_Jr (hE : E k = .inl (2, n_fs_Jr)) (h0 : 0 < k) (hd : kd k = 13) (hd1 : kd (k + 1) = 14) (hd2 : kd (k + 1 + 1) = 9) : mt_P sm_Jr_init [.inr (some (b + k))] (b + (k + 1), w, pim b E (k + 1) F) (i_Q b F k (k + 1 + 1 + 1) (w + 42) E) := by
  refine mt_P_of ?_
  simp only [k_Jr_init_0, mt_kk, mt_l0, lget, lput, fnth, fset, gf, pf, gi, ga, mt_is, mt_pop, g_nil, g_const, g_null, g_iload, g_aload, g_istore, g_astore, g_iinc, g_add, g_sub, g_mul, g_and, g_xor, g_div, g_rem, g_dup, g_dup2, g_pop, g_get, g_putI, g_putZ, g_putA, g_iald, g_zald, g_iast, g_zast, g_aald, g_aast, g_alen, g_new, g_newI, g_newA, g_objinit, l_fall, l_ifeq, l_ifne, l_iflt, l_ifge, l_ifgt, l_ifle, l_iceq, l_icne, l_iclt, l_icge, l_icgt, l_icle, l_nullN, l_nullS, l_nonnullN, l_nonnullS, l_acne, l_callV, l_callI, l_callS, l_ret, l_iret, l_zret, l_aret, l_after, List.length_cons, List.length_nil, Nat.reduceAdd, Nat.reduceLT, Nat.reduceLeDiff, Nat.reduceEqDiff, and_self, and_true, true_and, if_true, if_false, reduceIte, ite_true, ite_false, beq_self_eq_true, Nat.zero_add, Option.toList_some, Option.toList_none, List.cons_append, List.nil_append, mn]
  refine mt_call (i_Ro (k := k + 1) eu_same (by omega) hd1 hd2) ?_
  rintro r ⟨E1, w1, rfl, hw, c1, c2⟩
  have hE1 : E1 k = .inl (2, n_fs_Jr) := by rw [c1 k (by omega), eu_ne (by omega), hE]
  simp only [k_Jr_init_12, mt_kk, mt_l0, lget, lput, fnth, fset, gf, pf, gi, ga, mt_is, mt_pop, g_nil, g_const, g_null, g_iload, g_aload, g_istore, g_astore, g_iinc, g_add, g_sub, g_mul, g_and, g_xor, g_div, g_rem, g_dup, g_dup2, g_pop, g_get, g_putI, g_putZ, g_putA, g_iald, g_zald, g_iast, g_zast, g_aald, g_aast, g_alen, g_new, g_newI, g_newA, g_objinit, l_fall, l_ifeq, l_ifne, l_iflt, l_ifge, l_ifgt, l_ifle, l_iceq, l_icne, l_iclt, l_icge, l_icgt, l_icle, l_nullN, l_nullS, l_nonnullN, l_nonnullS, l_acne, l_callV, l_callI, l_callS, l_ret, l_iret, l_zret, l_aret, l_after, List.length_cons, List.length_nil, Nat.reduceAdd, Nat.reduceLT, Nat.reduceLeDiff, Nat.reduceEqDiff, and_self, and_true, true_and, if_true, if_false, reduceIte, ite_true, ite_false, beq_self_eq_true, Nat.zero_add, Option.toList_some, Option.toList_none, List.cons_append, List.nil_append, pim_at (b := b) (F := F) (show k < k + 1 + 1 + 1 by omega), mu (b := b) (F := F) (show k < k + 1 + 1 + 1 by omega), eu_same, eu_eu, hE1, z_0]
  refine ⟨_, _, rfl, hw, fun o ho => by rw [eu_ne (by omega), c1 o (by omega), eu_ne (by omega)], fun o h1 h2 => ?_⟩
  by_cases e : o = k
  · subst e
    rw [eu_same, ly_Jr hd, V0_off h0]
  · rw [eu_ne e]
    exact c2 o (by omega) h2
theorem i_Sf (hE : E k = .inl (7, n_fs_Sf)) (h0 : 0 < k) (hd : kd k = 16) (hd1 : kd (k + 1) = 14) (hd2 : kd (k + 1 + 1) = 9) : mt_P sm_Sf_init [.inr (some (b + k))] (b + (k + 1), w, pim b E (k + 1) F) (i_Q b F k (k + 1 + 1 + 1) (w + 42) E) := by
  refine mt_P_of ?_
  simp only [k_Sf_init_0, mt_kk, mt_l0, lget, lput, fnth, fset, gf, pf, gi, ga, mt_is, mt_pop, g_nil, g_const, g_null, g_iload, g_aload, g_istore, g_astore, g_iinc, g_add, g_sub, g_mul, g_and, g_xor, g_div, g_rem, g_dup, g_dup2, g_pop, g_get, g_putI, g_putZ, g_putA, g_iald, g_zald, g_iast, g_zast, g_aald, g_aast, g_alen, g_new, g_newI, g_newA, g_objinit, l_fall, l_ifeq, l_ifne, l_iflt, l_ifge, l_ifgt, l_ifle, l_iceq, l_icne, l_iclt, l_icge, l_icgt, l_icle, l_nullN, l_nullS, l_nonnullN, l_nonnullS, l_acne, l_callV, l_callI, l_callS, l_ret, l_iret, l_zret, l_aret, l_after, List.length_cons, List.length_nil, Nat.reduceAdd, Nat.reduceLT, Nat.reduceLeDiff, Nat.reduceEqDiff, and_self, and_true, true_and, if_true, if_false, reduceIte, ite_true, ite_false, beq_self_eq_true, Nat.zero_add, Option.toList_some, Option.toList_none, List.cons_append, List.nil_append, mn]
  refine mt_call (i_Ro (k := k + 1) eu_same (by omega) hd1 hd2) ?_
  rintro r ⟨E1, w1, rfl, hw, c1, c2⟩
  have hE1 : E1 k = .inl (7, n_fs_Sf) := by rw [c1 k (by omega), eu_ne (by omega), hE]
  simp only [k_Sf_init_12, mt_kk, mt_l0, lget, lput, fnth, fset, gf, pf, gi, ga, mt_is, mt_pop, g_nil, g_const, g_null, g_iload, g_aload, g_istore, g_astore, g_iinc, g_add, g_sub, g_mul, g_and, g_xor, g_div, g_rem, g_dup, g_dup2, g_pop, g_get, g_putI, g_putZ, g_putA, g_iald, g_zald, g_iast, g_zast, g_aald, g_aast, g_alen, g_new, g_newI, g_newA, g_objinit, l_fall, l_ifeq, l_ifne, l_iflt, l_ifge, l_ifgt, l_ifle, l_iceq, l_icne, l_iclt, l_icge, l_icgt, l_icle, l_nullN, l_nullS, l_nonnullN, l_nonnullS, l_acne, l_callV, l_callI, l_callS, l_ret, l_iret, l_zret, l_aret, l_after, List.length_cons, List.length_nil, Nat.reduceAdd, Nat.reduceLT, Nat.reduceLeDiff, Nat.reduceEqDiff, and_self, and_true, true_and, if_true, if_false, reduceIte, ite_true, ite_false, beq_self_eq_true, Nat.zero_add, Option.toList_some, Option.toList_none, List.cons_append, List.nil_append, pim_at (b := b) (F := F) (show k < k + 1 + 1 + 1 by omega), mu (b := b) (F := F) (show k < k + 1 + 1 + 1 by omega), eu_same, eu_eu, hE1, z_0]
  refine ⟨_, _, rfl, hw, fun o ho => by rw [eu_ne (by omega), c1 o (by omega), eu_ne (by omega)], fun o h1 h2 => ?_⟩
  by_cases e : o = k
  · subst e
    rw [eu_same, ly_Sf hd, V0_off h0]
  · rw [eu_ne e]
    exact c2 o (by omega) h2
theorem i_Ru (hE : E 2 = .inl (6, n_fs_Ru)) : mt_P sm_Ru_init [.inr (some (b + 2))] (b + (2 + 1), w, pim b E (2 + 1) F) (i_Q b F 2 6 (w + 18) E) := by
  refine mt_P_of ?_
  have e3 : ∀ (E : Nat → m_E) (e : m_E), eu E 3 e 2 = E 2 := fun E e => eu_ne (by decide)
  have e4 : ∀ (E : Nat → m_E) (e : m_E), eu E 4 e 2 = E 2 := fun E e => eu_ne (by decide)
  have e5 : ∀ (E : Nat → m_E) (e : m_E), eu E 5 e 2 = E 2 := fun E e => eu_ne (by decide)
  simp only [k_Ru_init_0, mt_kk, mt_l0, lget, lput, fnth, fset, gf, pf, gi, ga, mt_is, mt_pop, g_nil, g_const, g_null, g_iload, g_aload, g_istore, g_astore, g_iinc, g_add, g_sub, g_mul, g_and, g_xor, g_div, g_rem, g_dup, g_dup2, g_pop, g_get, g_putI, g_putZ, g_putA, g_iald, g_zald, g_iast, g_zast, g_aald, g_aast, g_alen, g_new, g_newI, g_newA, g_objinit, l_fall, l_ifeq, l_ifne, l_iflt, l_ifge, l_ifgt, l_ifle, l_iceq, l_icne, l_iclt, l_icge, l_icgt, l_icle, l_nullN, l_nullS, l_nonnullN, l_nonnullS, l_acne, l_callV, l_callI, l_callS, l_ret, l_iret, l_zret, l_aret, l_after, List.length_cons, List.length_nil, Nat.reduceAdd, Nat.reduceLT, Nat.reduceLeDiff, Nat.reduceEqDiff, and_self, and_true, true_and, if_true, if_false, reduceIte, ite_true, ite_false, beq_self_eq_true, Nat.zero_add, Option.toList_some, Option.toList_none, List.cons_append, List.nil_append, mn, pim_at (b := b) (F := F) (show 2 < 3 by decide), pim_at (b := b) (F := F) (show 2 < 4 by decide), pim_at (b := b) (F := F) (show 2 < 5 by decide), pim_at (b := b) (F := F) (show 2 < 6 by decide), mu (b := b) (F := F) (show 2 < 3 by decide), mu (b := b) (F := F) (show 2 < 4 by decide), mu (b := b) (F := F) (show 2 < 5 by decide), mu (b := b) (F := F) (show 2 < 6 by decide), eu_same, eu_eu, e3, e4, e5, hE, z_0]
  refine ⟨_, _, rfl, by omega, fun o ho => ?_, fun o h1 h2 => ?_⟩
  · rcases (show o = 0 ∨ o = 1 by omega) with rfl | rfl <;> rfl
  · rcases (show o = 2 ∨ o = 3 ∨ o = 4 ∨ o = 5 by omega) with rfl | rfl | rfl | rfl
    · rw [eu_same, ly_Ru rfl, V0_off (by decide)]
    · rw [ly_z6 rfl, V0_off (by decide)]; rfl
    · rw [ly_i6 rfl, V0_off (by decide)]; rfl
    · rw [ly_i6b rfl, V0_off (by decide)]; rfl
end CT
