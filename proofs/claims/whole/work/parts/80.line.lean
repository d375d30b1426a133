/-! Lines of messages and the journal. -/
def iL (o : Nat) : Prop := o = 6 ∨ o = 34
theorem iL_kd {o : Nat} (h : iL o) : kd o = 6 ∧ o < 188 ∧ kd (o + 1) = 7 ∧ o + 1 < 188 := by
  rcases h with rfl | rfl <;> decide
theorem iL_ms {o i : Nat} (h : iL o) (hi : i < 13) : kd (o + 1 + 1 + 2 * i) = 8 ∧ o + 1 + 1 + 2 * i < 188 ∧ kd (o + 1 + 1 + 2 * i + 1) = 9 ∧ o + 1 + 1 + 2 * i + 1 < 188 := by
  rcases h with rfl | rfl
  · exact kd_m0 i hi
  · exact kd_m1 i hi
/-- nothing has changed but where P holds -/
def ch (V V1 : v_N) (P : Nat → Prop) : Prop := ∀ o, ¬ P o → V1 o = V o
theorem ch_0 {V : v_N} {P : Nat → Prop} : ch V V P := fun _ _ => rfl
theorem ch_2 {V V1 V2 : v_N} {P : Nat → Prop} (h : ch V V1 P) (h2 : ch V1 V2 P) : ch V V2 P := fun o a => (h2 o a).trans (h o a)
theorem ch_u {V V1 : v_N} {P : Nat → Prop} {o k : Nat} {x : Int32} (h : ch V V1 P) (ho : P o) : ch V (vu V1 o k x) P := fun o1 a => by
  rw [vu_off (o := o) (o1 := o1) (fun e => a (by rw [e]; exact ho))]
  exact h o1 a
theorem ch_w {V V1 : v_N} {P P1 : Nat → Prop} (h : ch V V1 P) (hp : ∀ o, P o → P1 o) : ch V V1 P1 := fun o a => h o (fun e => a (hp o e))
theorem ch_fr2 {V V1 : v_N} {o : Nat} (h : fr2 V V1 o) : ch V V1 (fun q => q = o ∨ q = o + 1) := fun q a => h q (fun e => a (Or.inl e)) (fun e => a (Or.inr e))
section LI
variable {n w b : Nat} {V : v_N} {f : Nat → Option m_E} {o : Nat}
theorem x_Li_append {k nm : Int32} {p c : Nat} (hi : iL o) (hp : p < 13) (hc : c < 13) (h1 : V o 1 = nI p) (h2 : V o 2 = nI c) : sm_Li_append [.inr (some (b + o)), .inl k, .inl nm] (n, w, img b V f) = some (some (.inr (some (b + (o + 1 + 1 + 2 * ((p + c) % 13))))), (n, w, img b (vu (vu (vu (vu V (o + 1 + 1 + 2 * ((p + c) % 13)) 0 k) (o + 1 + 1 + 2 * ((p + c) % 13)) 1 nm) (o + 1 + 1 + 2 * ((p + c) % 13)) 6 (nI 0)) o 2 (nI (c + 1))) f)) := by
  obtain ⟨k1, k2, k3, k4⟩ := iL_kd hi
  have hm : (p + c) % 13 < 13 := Nat.mod_lt _ (by decide)
  obtain ⟨m1, m2, m3, m4⟩ := iL_ms hi hm
  have hr := pk_rem (a := p + c) (d := 13) (by omega) (by decide) (by decide)
  have hx := mt_ix_nI (j := (p + c) % 13) (n := 13) hm (by decide)
  have e1 := nI_leE (a := 13) (b := c) (by decide) (by omega)
  have hc2 : ¬ 13 ≤ c := by omega
  have e2 : vu (vu (vu V (o + 1 + 1 + 2 * ((p + c) % 13)) 0 k) (o + 1 + 1 + 2 * ((p + c) % 13)) 1 nm) (o + 1 + 1 + 2 * ((p + c) % 13)) 6 (nI 0) o 2 = nI c := by
    rw [up_ne (by omega), up_ne (by omega), up_ne (by omega)]
    exact h2
  refine mt_sem_eq ?_
  simp only [k_Li_append_0, k_Li_append_24, k_Li_append_33, k_Li_append_43, mt_kk, mt_l0, lget, lput, fnth, fset, gf, gi, ga, mt_is, mt_pop, g_nil, g_const, g_null, g_iload, g_aload, g_istore, g_astore, g_iinc, g_add, g_sub, g_mul, g_and, g_xor, g_div, g_rem, g_dup, g_dup2, g_pop, g_get, g_putI, g_putZ, g_putA, g_iald, g_zald, g_iast, g_zast, g_aald, g_aast, g_alen, g_new, g_newI, g_newA, g_objinit, l_fall, l_ifeq, l_ifne, l_iflt, l_ifge, l_ifgt, l_ifle, l_iceq, l_icne, l_iclt, l_icge, l_icgt, l_icle, l_nullN, l_nullS, l_nonnullN, l_nonnullS, l_acne, l_callV, l_callI, l_callS, l_ret, l_iret, l_zret, l_aret, l_after, List.length_cons, List.length_nil, Nat.reduceAdd, Nat.reduceLT, Nat.reduceLeDiff, Nat.reduceEqDiff, and_self, and_true, true_and, if_true, if_false, reduceIte, ite_true, ite_false, beq_self_eq_true, Nat.zero_add, Option.toList_some, Option.toList_none, List.cons_append, List.nil_append, im_Li k2 k1, im_ring k4 k3, im_Ms m2 m1, pf_Li_2 k2 k1, h1, h2, nI_add, hr, hx, hm, x_startAs m1 m2, e1, hc2, e2, (show (nI 13 = 0) = False from eq_false (by decide))]
theorem x_Li_take0 (hi : iL o) (h2 : V o 2 = nI 0) : sm_Li_take [.inr (some (b + o))] (n, w, img b V f) = some (some (.inr none), (n, w, img b V f)) := by
  obtain ⟨k1, k2, k3, k4⟩ := iL_kd hi
  refine mt_sem_eq ?_
  simp only [k_Li_take_0, k_Li_take_7, mt_kk, mt_l0, lget, lput, fnth, fset, gf, gi, ga, mt_is, mt_pop, g_nil, g_const, g_null, g_iload, g_aload, g_istore, g_astore, g_iinc, g_add, g_sub, g_mul, g_and, g_xor, g_div, g_rem, g_dup, g_dup2, g_pop, g_get, g_putI, g_putZ, g_putA, g_iald, g_zald, g_iast, g_zast, g_aald, g_aast, g_alen, g_new, g_newI, g_newA, g_objinit, l_fall, l_ifeq, l_ifne, l_iflt, l_ifge, l_ifgt, l_ifle, l_iceq, l_icne, l_iclt, l_icge, l_icgt, l_icle, l_nullN, l_nullS, l_nonnullN, l_nonnullS, l_acne, l_callV, l_callI, l_callS, l_ret, l_iret, l_zret, l_aret, l_after, List.length_cons, List.length_nil, Nat.reduceAdd, Nat.reduceLT, Nat.reduceLeDiff, Nat.reduceEqDiff, and_self, and_true, true_and, if_true, if_false, reduceIte, ite_true, ite_false, beq_self_eq_true, Nat.zero_add, Option.toList_some, Option.toList_none, List.cons_append, List.nil_append, im_Li k2 k1, h2, e_0]
theorem x_Li_take {p c : Nat} (hi : iL o) (hp : p < 13) (hc : c < 13) (h1 : V o 1 = nI p) (h2 : V o 2 = nI (c + 1)) : sm_Li_take [.inr (some (b + o))] (n, w, img b V f) = some (some (.inr (some (b + (o + 1 + 1 + 2 * p)))), (n, w, img b (vu (vu V o 1 (nI ((p + 1) % 13))) o 2 (nI c)) f)) := by
  obtain ⟨k1, k2, k3, k4⟩ := iL_kd hi
  have hr := pk_rem (a := p + 1) (d := 13) (by omega) (by decide) (by decide)
  have hx := mt_ix_nI (j := p) (n := 13) hp (by decide)
  have e2 : vu V o 1 (nI ((p + 1) % 13)) o 2 = nI (c + 1) := by
    rw [vu_slot (by decide)]
    exact h2
  have e3 : nI (c + 1) - nI 1 = nI c := by
    rw [pk_sub (by omega)]
    rfl
  have e4 : (nI (c + 1) = 0) = False := eq_false (nI_ne0 (by omega) (by omega))
  refine mt_sem_eq ?_
  simp only [k_Li_take_0, k_Li_take_9, mt_kk, mt_l0, lget, lput, fnth, fset, gf, gi, ga, mt_is, mt_pop, g_nil, g_const, g_null, g_iload, g_aload, g_istore, g_astore, g_iinc, g_add, g_sub, g_mul, g_and, g_xor, g_div, g_rem, g_dup, g_dup2, g_pop, g_get, g_putI, g_putZ, g_putA, g_iald, g_zald, g_iast, g_zast, g_aald, g_aast, g_alen, g_new, g_newI, g_newA, g_objinit, l_fall, l_ifeq, l_ifne, l_iflt, l_ifge, l_ifgt, l_ifle, l_iceq, l_icne, l_iclt, l_icge, l_icgt, l_icle, l_nullN, l_nullS, l_nonnullN, l_nonnullS, l_acne, l_callV, l_callI, l_callS, l_ret, l_iret, l_zret, l_aret, l_after, List.length_cons, List.length_nil, Nat.reduceAdd, Nat.reduceLT, Nat.reduceLeDiff, Nat.reduceEqDiff, and_self, and_true, true_and, if_true, if_false, reduceIte, ite_true, ite_false, beq_self_eq_true, Nat.zero_add, Option.toList_some, Option.toList_none, List.cons_append, List.nil_append, im_Li k2 k1, im_ring k4 k3, pf_Li_1 k2 k1, pf_Li_2 k2 k1, h1, h2, nI_add, hr, hx, hp, e2, e3, e4, (show (nI 13 = 0) = False from eq_false (by decide))]
theorem x_Li_kind0 (hi : iL o) (h2 : V o 2 = nI 0) : sm_Li_oldestKind [.inr (some (b + o))] (n, w, img b V f) = some (some (.inl (nI 0)), (n, w, img b V f)) := by
  obtain ⟨k1, k2, k3, k4⟩ := iL_kd hi
  refine mt_sem_eq ?_
  simp only [k_Li_oldestKind_0, k_Li_oldestKind_7, k_Li_oldestKind_23, mt_kk, mt_l0, lget, lput, fnth, fset, gf, gi, ga, mt_is, mt_pop, g_nil, g_const, g_null, g_iload, g_aload, g_istore, g_astore, g_iinc, g_add, g_sub, g_mul, g_and, g_xor, g_div, g_rem, g_dup, g_dup2, g_pop, g_get, g_putI, g_putZ, g_putA, g_iald, g_zald, g_iast, g_zast, g_aald, g_aast, g_alen, g_new, g_newI, g_newA, g_objinit, l_fall, l_ifeq, l_ifne, l_iflt, l_ifge, l_ifgt, l_ifle, l_iceq, l_icne, l_iclt, l_icge, l_icgt, l_icle, l_nullN, l_nullS, l_nonnullN, l_nonnullS, l_acne, l_callV, l_callI, l_callS, l_ret, l_iret, l_zret, l_aret, l_after, List.length_cons, List.length_nil, Nat.reduceAdd, Nat.reduceLT, Nat.reduceLeDiff, Nat.reduceEqDiff, and_self, and_true, true_and, if_true, if_false, reduceIte, ite_true, ite_false, beq_self_eq_true, Nat.zero_add, Option.toList_some, Option.toList_none, List.cons_append, List.nil_append, im_Li k2 k1, h2, e_0]
theorem x_Li_kind {p c : Nat} (hi : iL o) (hp : p < 13) (hc : c < 13) (h1 : V o 1 = nI p) (h2 : V o 2 = nI (c + 1)) : sm_Li_oldestKind [.inr (some (b + o))] (n, w, img b V f) = some (some (.inl (V (o + 1 + 1 + 2 * p) 0)), (n, w, img b V f)) := by
  obtain ⟨k1, k2, k3, k4⟩ := iL_kd hi
  obtain ⟨m1, m2, m3, m4⟩ := iL_ms hi hp
  have hx := mt_ix_nI (j := p) (n := 13) hp (by decide)
  have e4 : (nI (c + 1) = 0) = False := eq_false (nI_ne0 (by omega) (by omega))
  refine mt_sem_eq ?_
  simp only [k_Li_oldestKind_0, k_Li_oldestKind_11, k_Li_oldestKind_23, mt_kk, mt_l0, lget, lput, fnth, fset, gf, gi, ga, mt_is, mt_pop, g_nil, g_const, g_null, g_iload, g_aload, g_istore, g_astore, g_iinc, g_add, g_sub, g_mul, g_and, g_xor, g_div, g_rem, g_dup, g_dup2, g_pop, g_get, g_putI, g_putZ, g_putA, g_iald, g_zald, g_iast, g_zast, g_aald, g_aast, g_alen, g_new, g_newI, g_newA, g_objinit, l_fall, l_ifeq, l_ifne, l_iflt, l_ifge, l_ifgt, l_ifle, l_iceq, l_icne, l_iclt, l_icge, l_icgt, l_icle, l_nullN, l_nullS, l_nonnullN, l_nonnullS, l_acne, l_callV, l_callI, l_callS, l_ret, l_iret, l_zret, l_aret, l_after, List.length_cons, List.length_nil, Nat.reduceAdd, Nat.reduceLT, Nat.reduceLeDiff, Nat.reduceEqDiff, and_self, and_true, true_and, if_true, if_false, reduceIte, ite_true, ite_false, beq_self_eq_true, Nat.zero_add, Option.toList_some, Option.toList_none, List.cons_append, List.nil_append, im_Li k2 k1, im_ring k4 k3, im_Ms m2 m1, h1, h2, hx, hp, e4]
theorem x_Li_clear (hi : iL o) : sm_Li_clear [.inr (some (b + o))] (n, w, img b V f) = some (none, (n, w, img b (vu V o 2 (nI 0)) f)) := by
  obtain ⟨k1, k2, k3, k4⟩ := iL_kd hi
  refine mt_sem_eq ?_
  simp only [k_Li_clear_0, mt_kk, mt_l0, lget, lput, fnth, fset, gf, gi, ga, mt_is, mt_pop, g_nil, g_const, g_null, g_iload, g_aload, g_istore, g_astore, g_iinc, g_add, g_sub, g_mul, g_and, g_xor, g_div, g_rem, g_dup, g_dup2, g_pop, g_get, g_putI, g_putZ, g_putA, g_iald, g_zald, g_iast, g_zast, g_aald, g_aast, g_alen, g_new, g_newI, g_newA, g_objinit, l_fall, l_ifeq, l_ifne, l_iflt, l_ifge, l_ifgt, l_ifle, l_iceq, l_icne, l_iclt, l_icge, l_icgt, l_icle, l_nullN, l_nullS, l_nonnullN, l_nonnullS, l_acne, l_callV, l_callI, l_callS, l_ret, l_iret, l_zret, l_aret, l_after, List.length_cons, List.length_nil, Nat.reduceAdd, Nat.reduceLT, Nat.reduceLeDiff, Nat.reduceEqDiff, and_self, and_true, true_and, if_true, if_false, reduceIte, ite_true, ite_false, beq_self_eq_true, Nat.zero_add, Option.toList_some, Option.toList_none, List.cons_append, List.nil_append, im_Li k2 k1, pf_Li_2 k2 k1]
end LI
-- what stands in a line
theorem mR_congr {V V1 : v_N} {o : Nat} {m : a_M} (h0 : V1 o = V o) (h1 : V1 (o + 1) = V (o + 1)) (h : mR V o m) : mR V1 o m := by
  unfold mR at h ⊢
  rw [h0, h1]
  exact h
/-- the messages of a line that begins at place p of its ring -/
def lP (V : v_N) (o p : Nat) (ls : List a_M) : Prop := p < 13 ∧ V o 1 = nI p ∧ ls.length ≤ 13 ∧ ∀ i m, ls[i]? = some m → mR V (o + 1 + 1 + 2 * ((p + i) % 13)) m
theorem lP_of {V : v_N} {o : Nat} {ls : List a_M} (h : lR V o ls) : ∃ p, lP V o p ls ∧ V o 2 = nI ls.length := by
  obtain ⟨p, h1, h2, h3, h4, h5⟩ := h
  exact ⟨p, ⟨h1, h2, h4, h5⟩, h3⟩
theorem lR_of {V : v_N} {o p : Nat} {ls : List a_M} (h : lP V o p ls) (h2 : V o 2 = nI ls.length) : lR V o ls := ⟨p, h.1, h.2.1, h2, h.2.2.1, h.2.2.2⟩
theorem lP_keep {V V1 : v_N} {o p : Nat} {ls : List a_M} (h : lP V o p ls) (hl : ls.length < 13) (h1 : V1 o 1 = V o 1) (hk : ∀ q, o + 1 < q → q < o + 28 → q ≠ o + 1 + 1 + 2 * ((p + ls.length) % 13) → q ≠ o + 1 + 1 + 2 * ((p + ls.length) % 13) + 1 → V1 q = V q) : lP V1 o p ls := by
  obtain ⟨a, c, d, e⟩ := h
  refine ⟨a, by rw [h1]; exact c, d, fun i m hm => ?_⟩
  have hil : i < ls.length := (List.getElem?_eq_some_iff.mp hm).1
  have hne : (p + i) % 13 ≠ (p + ls.length) % 13 := by omega
  have hb := Nat.mod_lt (p + i) (show 0 < 13 by decide)
  exact mR_congr (hk _ (by omega) (by omega) (by omega) (by omega)) (hk _ (by omega) (by omega) (by omega) (by omega)) (e i m hm)
theorem lP_add {V : v_N} {o p : Nat} {ls : List a_M} {m : a_M} (h : lP V o p ls) (hl : ls.length < 13) (hm : mR V (o + 1 + 1 + 2 * ((p + ls.length) % 13)) m) : lP V o p (ls ++ [m]) := by
  obtain ⟨a, c, d, e⟩ := h
  refine ⟨a, c, by rw [List.length_append]; exact hl, fun i m1 h1 => ?_⟩
  by_cases hi : i < ls.length
  · rw [List.getElem?_append_left hi] at h1
    exact e i m1 h1
  · rw [List.getElem?_append_right (by omega)] at h1
    have hz : i - ls.length < 1 := (List.getElem?_eq_some_iff.mp h1).1
    have hie : i = ls.length := by omega
    subst hie
    rw [Nat.sub_self] at h1
    cases h1
    exact hm
theorem lP_tail {V V1 : v_N} {o p : Nat} {m : a_M} {ls : List a_M} (h : lP V o p (m :: ls)) (h1 : V1 o 1 = nI ((p + 1) % 13)) (hk : ∀ q, o + 1 < q → q < o + 28 → V1 q = V q) : lP V1 o ((p + 1) % 13) ls := by
  obtain ⟨a, c, d, e⟩ := h
  refine ⟨Nat.mod_lt _ (by decide), h1, by rw [List.length_cons] at d; omega, fun i m1 hm => ?_⟩
  have h2 := e (i + 1) m1 hm
  have hb := Nat.mod_lt (p + (i + 1)) (show 0 < 13 by decide)
  have he : ((p + 1) % 13 + i) % 13 = (p + (i + 1)) % 13 := by omega
  rw [he]
  exact mR_congr (hk _ (by omega) (by omega)) (hk _ (by omega) (by omega)) h2
theorem lR_congr {V V1 : v_N} {o : Nat} {ls : List a_M} (hk : ∀ q, o ≤ q → q < o + 28 → V1 q = V q) (h : lR V o ls) : lR V1 o ls := by
  obtain ⟨p, h1, h2, h3, h4, h5⟩ := h
  refine ⟨p, h1, by rw [hk o (by omega) (by omega)]; exact h2, by rw [hk o (by omega) (by omega)]; exact h3, h4, fun i m hm => ?_⟩
  have hb := Nat.mod_lt (p + i) (show 0 < 13 by decide)
  exact mR_congr (hk _ (by omega) (by omega)) (hk _ (by omega) (by omega)) (h5 i m hm)
section JO
variable {n w b : Nat} {V : v_N} {f : Nat → Option m_E} {o : Nat}
theorem iR_rec {p : Nat} (h : p < 12) : iR (65 + 3 * p + 1) := by
  obtain ⟨_, _, h3, h4, h5, h6⟩ := kd_rec p h
  exact ⟨h3, h5, h6⟩
theorem iR_file {p : Nat} (h : p < 24) : iR (104 + 3 * p + 1) := by
  obtain ⟨_, _, h3, h4, h5, h6⟩ := kd_file p h
  exact ⟨h3, h5, h6⟩
theorem iR_rb : iR 101 := ⟨by decide, by decide, by decide⟩
theorem x_Jo_take0 (h2 : V 63 2 = nI 0) : sm_Jo_take [.inr (some (b + 63))] (n, w, img b V f) = some (some (.inr none), (n, w, img b V f)) := by
  refine mt_sem_eq ?_
  simp only [k_Jo_take_0, k_Jo_take_7, mt_kk, mt_l0, lget, lput, fnth, fset, gf, gi, ga, mt_is, mt_pop, g_nil, g_const, g_null, g_iload, g_aload, g_istore, g_astore, g_iinc, g_add, g_sub, g_mul, g_and, g_xor, g_div, g_rem, g_dup, g_dup2, g_pop, g_get, g_putI, g_putZ, g_putA, g_iald, g_zald, g_iast, g_zast, g_aald, g_aast, g_alen, g_new, g_newI, g_newA, g_objinit, l_fall, l_ifeq, l_ifne, l_iflt, l_ifge, l_ifgt, l_ifle, l_iceq, l_icne, l_iclt, l_icge, l_icgt, l_icle, l_nullN, l_nullS, l_nonnullN, l_nonnullS, l_acne, l_callV, l_callI, l_callS, l_ret, l_iret, l_zret, l_aret, l_after, List.length_cons, List.length_nil, Nat.reduceAdd, Nat.reduceLT, Nat.reduceLeDiff, Nat.reduceEqDiff, and_self, and_true, true_and, if_true, if_false, reduceIte, ite_true, ite_false, beq_self_eq_true, Nat.zero_add, Option.toList_some, Option.toList_none, List.cons_append, List.nil_append, if_63, h2, e_0]
theorem x_Jo_take {p : Nat} (hp : p < 12) (h1 : V 63 1 = nI p) (h2 : V 63 2 = nI 1) : sm_Jo_take [.inr (some (b + 63))] (n, w, img b V f) = some (some (.inr (some (b + (65 + 3 * p)))), (n, w, img b (vu (vu V 63 1 (nI ((p + 1) % 12))) 63 2 (nI 0)) f)) := by
  have hr := pk_rem (a := p + 1) (d := 12) (by omega) (by decide) (by decide)
  have hx := mt_ix_nI (j := p) (n := 12) hp (by decide)
  have e2 : vu V 63 1 (nI ((p + 1) % 12)) 63 2 = nI 1 := by
    rw [vu_slot (by decide)]
    exact h2
  have e3 : nI 1 - nI 1 = nI 0 := by decide
  refine mt_sem_eq ?_
  simp only [k_Jo_take_0, k_Jo_take_9, mt_kk, mt_l0, lget, lput, fnth, fset, gf, gi, ga, mt_is, mt_pop, g_nil, g_const, g_null, g_iload, g_aload, g_istore, g_astore, g_iinc, g_add, g_sub, g_mul, g_and, g_xor, g_div, g_rem, g_dup, g_dup2, g_pop, g_get, g_putI, g_putZ, g_putA, g_iald, g_zald, g_iast, g_zast, g_aald, g_aast, g_alen, g_new, g_newI, g_newA, g_objinit, l_fall, l_ifeq, l_ifne, l_iflt, l_ifge, l_ifgt, l_ifle, l_iceq, l_icne, l_iclt, l_icge, l_icgt, l_icle, l_nullN, l_nullS, l_nonnullN, l_nonnullS, l_acne, l_callV, l_callI, l_callS, l_ret, l_iret, l_zret, l_aret, l_after, List.length_cons, List.length_nil, Nat.reduceAdd, Nat.reduceLT, Nat.reduceLeDiff, Nat.reduceEqDiff, and_self, and_true, true_and, if_true, if_false, reduceIte, ite_true, ite_false, beq_self_eq_true, Nat.zero_add, Option.toList_some, Option.toList_none, List.cons_append, List.nil_append, if_63, if_64, pf_63_1, pf_63_2, h1, h2, nI_add, hr, hx, hp, e2, e3, e_1, (show (nI 12 = 0) = False from eq_false (by decide))]
theorem x_Jo_append {p o2 : Nat} {nm st : Int32} {l : List Nat} (hp : p < 12) (h1 : V 63 1 = nI p) (h2 : V 63 2 = nI 0) (hi2 : iR o2) (ha : ap2 (65 + 3 * p + 1) o2) (hne : o2 ≠ 65 + 3 * p ∧ o2 + 1 ≠ 65 + 3 * p) (h63 : o2 ≠ 63 ∧ o2 + 1 ≠ 63) (hl : l.length ≤ 40) (h3 : rR V o2 l) : mt_P sm_Jo_append [.inr (some (b + 63)), .inl nm, .inr (some (b + o2)), .inl st] (n, w, img b V f) (fun r => ∃ V1, r = (none, (n, w, img b V1 f)) ∧ rR V1 (65 + 3 * p + 1) l ∧ V1 (65 + 3 * p) 1 = nm ∧ V1 (65 + 3 * p) 2 = st ∧ V1 63 1 = nI p ∧ V1 63 2 = nI 1 ∧ ch V V1 (fun q => 63 ≤ q ∧ q < 101)) := by
  obtain ⟨k1, k2, k3, k4, k5, k6⟩ := kd_rec p hp
  have hr := pk_rem (a := p) (d := 12) (by omega) (by decide) (by decide)
  rw [Nat.mod_eq_of_lt hp] at hr
  have hx := mt_ix_nI (j := p) (n := 12) hp (by decide)
  refine mt_P_of ?_
  simp only [k_Jo_append_0, mt_kk, mt_l0, lget, lput, fnth, fset, gf, gi, ga, mt_is, mt_pop, g_nil, g_const, g_null, g_iload, g_aload, g_istore, g_astore, g_iinc, g_add, g_sub, g_mul, g_and, g_xor, g_div, g_rem, g_dup, g_dup2, g_pop, g_get, g_putI, g_putZ, g_putA, g_iald, g_zald, g_iast, g_zast, g_aald, g_aast, g_alen, g_new, g_newI, g_newA, g_objinit, l_fall, l_ifeq, l_ifne, l_iflt, l_ifge, l_ifgt, l_ifle, l_iceq, l_icne, l_iclt, l_icge, l_icgt, l_icle, l_nullN, l_nullS, l_nonnullN, l_nonnullS, l_acne, l_callV, l_callI, l_callS, l_ret, l_iret, l_zret, l_aret, l_after, List.length_cons, List.length_nil, Nat.reduceAdd, Nat.reduceLT, Nat.reduceLeDiff, Nat.reduceEqDiff, and_self, and_true, true_and, if_true, if_false, reduceIte, ite_true, ite_false, beq_self_eq_true, Nat.zero_add, Option.toList_some, Option.toList_none, List.cons_append, List.nil_append, if_63, if_64, h1, h2, nI_add, Nat.add_zero, hr, hx, hp, im_Jr k2 k1, pf_Jr_1 k2 k1, im_Ro (iR0 (iR_rec hp)) k3, (show (nI 12 = 0) = False from eq_false (by decide))]
  refine mt_call (x_become (iR_rec hp) hi2 ha hl (rR_congr (vu_off hne.1) (vu_off hne.2) h3)) ?_
  rintro r ⟨V1, rfl, g1, g2⟩
  have e1 : V1 63 = V 63 := by rw [g2 63 (by omega) (by omega), vu_off (by omega)]
  have e5 : vu V1 (65 + 3 * p) 2 st 63 2 = nI 0 := by rw [up_ne (by omega), e1]; exact h2
  have e6 := nI_leE (a := 12) (b := 0) (by decide) (by decide)
  simp only [k_Jo_append_34, k_Jo_append_49, k_Jo_append_59, mt_kk, mt_l0, lget, lput, fnth, fset, gf, gi, ga, mt_is, mt_pop, g_nil, g_const, g_null, g_iload, g_aload, g_istore, g_astore, g_iinc, g_add, g_sub, g_mul, g_and, g_xor, g_div, g_rem, g_dup, g_dup2, g_pop, g_get, g_putI, g_putZ, g_putA, g_iald, g_zald, g_iast, g_zast, g_aald, g_aast, g_alen, g_new, g_newI, g_newA, g_objinit, l_fall, l_ifeq, l_ifne, l_iflt, l_ifge, l_ifgt, l_ifle, l_iceq, l_icne, l_iclt, l_icge, l_icgt, l_icle, l_nullN, l_nullS, l_nonnullN, l_nonnullS, l_acne, l_callV, l_callI, l_callS, l_ret, l_iret, l_zret, l_aret, l_after, List.length_cons, List.length_nil, Nat.reduceAdd, Nat.reduceLT, Nat.reduceLeDiff, Nat.reduceEqDiff, and_self, and_true, true_and, if_true, if_false, reduceIte, ite_true, ite_false, beq_self_eq_true, Nat.zero_add, Option.toList_some, Option.toList_none, List.cons_append, List.nil_append, if_63, im_Jr k2 k1, pf_Jr_2 k2 k1, e5, e6, pf_63_2, nI_add, (show (12 ≤ 0) = False from eq_false (by decide))]
  refine ⟨_, rfl, ?_, ?_, ?_, ?_, ?_, ?_⟩
  · refine rR_congr ?_ ?_ g1
    · rw [vu_off (by omega), vu_off (by omega)]
    · rw [vu_off (by omega), vu_off (by omega)]
  · rw [up_ne (by omega), vu_slot (by decide), g2 _ (by omega) (by omega), vu_same]
  · rw [up_ne (by omega), vu_same]
  · rw [vu_slot (by decide), up_ne (by omega), e1]
    exact h1
  · rw [vu_same]
  · intro q hq
    have hq' : q < 63 ∨ 101 ≤ q := by omega
    rw [vu_off (by omega), vu_off (by omega), g2 q (by omega) (by omega), vu_off (by omega)]
end JO
