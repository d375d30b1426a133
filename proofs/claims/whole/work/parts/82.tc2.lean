/-! The class: what stays when a part changes; rule, put, set, remove. -/
theorem uR_congr {V V1 : v_N} {rl : a_R} (hk : ∀ q, 2 ≤ q → q < 6 → V1 q = V q) (h : uR V rl) : uR V1 rl := by
  obtain ⟨h1, h2, h3⟩ := h
  refine ⟨h1, by rw [hk 2 (by decide) (by decide)]; exact h2, fun j r hr => ?_⟩
  rw [hk 3 (by decide) (by decide), hk 4 (by decide) (by decide), hk 5 (by decide) (by decide)]
  exact h3 j r hr
theorem fR_congr {V V1 : v_N} {o : Nat} {x : a_F} (hk : ∀ q, o ≤ q → q < o + 3 → V1 q = V q) (h : fR V o x) : fR V1 o x := by
  have h0 := hk o (by omega) (by omega)
  have h1 := hk (o + 1) (by omega) (by omega)
  have h2 := hk (o + 1 + 1) (by omega) (by omega)
  cases x with
  | none => exact ⟨by rw [h0]; exact h.1, rR_congr h1 h2 h.2⟩
  | some y => exact ⟨by rw [h0]; exact h.1, by rw [h0]; exact h.2.1, rR_congr h1 h2 h.2.2.1, h.2.2.2⟩
theorem jR_congr {V V1 : v_N} {x : a_J} (hk : ∀ q, 63 ≤ q → q < 101 → V1 q = V q) (h : jR V x) : jR V1 x := by
  obtain ⟨p, hp, h1, h2⟩ := h
  have h0 := hk 63 (by decide) (by decide)
  refine ⟨p, hp, by rw [h0]; exact h1, ?_⟩
  cases x with
  | none => rw [h0]; exact h2
  | some y =>
    obtain ⟨a, c, d, e, g, i⟩ := h2
    have k0 := hk (65 + 3 * p) (by omega) (by omega)
    exact ⟨by rw [h0]; exact a, c, by rw [k0]; exact d, by rw [k0]; exact e, rR_congr (hk _ (by omega) (by omega)) (hk _ (by omega) (by omega)) g, i⟩
theorem eR_congr {V V1 : v_N} {o : Nat} {x : Option (Int32 × Int32)} {q : Bool} (h0 : V1 o = V o) (h : eR V o x q) : eR V1 o x q := by
  unfold eR at h ⊢
  rw [h0]
  exact h
theorem sR_congr {V V1 : v_N} {x : Option a_S} (h9 : ∀ k, k ≠ 8 → V1 0 k = V 0 k) (hk : ∀ q, 6 ≤ q → q < 62 → V1 q = V q) (he : ∀ q, 176 ≤ q → q < 188 → V1 q = V q) (h : sR V x) : sR V1 x := by
  cases x with
  | none =>
    obtain ⟨a, c, d, e⟩ := h
    refine ⟨by rw [h9 9 (by decide)]; exact a, lR_congr (fun q h1 h2 => hk q (by omega) (by omega)) c, lR_congr (fun q h1 h2 => hk q (by omega) (by omega)) d, fun k hk2 => ?_⟩
    rw [he (176 + k) (by omega) (by omega)]
    exact e k hk2
  | some y =>
    obtain ⟨a, a1, a2, a3, a4, c, d, e⟩ := h
    exact ⟨by rw [h9 9 (by decide)]; exact a, by rw [h9 11 (by decide)]; exact a1, a2, a3, by rw [h9 10 (by decide)]; exact a4, lR_congr (fun q h1 h2 => hk q (by omega) (by omega)) c, lR_congr (fun q h1 h2 => hk q (by omega) (by omega)) d, fun k hk2 => eR_congr (he (176 + k) (by omega) (by omega)) (e k hk2)⟩
/-- one file and the clock have changed -/
theorem cR_file {V V1 : v_N} {z : a_Z} {i : Nat} {x : a_F} {c : Int32} (hi : i < 24) (h : cR V z) (h8 : V1 0 8 = c) (h9 : ∀ k, k ≠ 8 → V1 0 k = V 0 k) (hf : fR V1 (104 + 3 * i) x) (hk : ∀ q, q ≠ 0 → q ≠ 104 + 3 * i → q ≠ 104 + 3 * i + 1 → q ≠ 104 + 3 * i + 1 + 1 → V1 q = V q) : cR V1 (c, z.2.1, va_up z.2.2.1 i x, z.2.2.2) := by
  obtain ⟨a1, a2, a3, a4, a5, a6⟩ := h
  refine ⟨h8, uR_congr (fun q q1 q2 => hk q (by omega) (by omega) (by omega) (by omega)) a2, fun j hj => ?_, jR_congr (fun q q1 q2 => hk q (by omega) (by omega) (by omega) (by omega)) a4, fun k hk2 => ?_, sR_congr h9 (fun q q1 q2 => hk q (by omega) (by omega) (by omega) (by omega)) (fun q q1 q2 => hk q (by omega) (by omega) (by omega) (by omega)) a6⟩
  · show fR V1 (104 + 3 * j) (va_up z.2.2.1 i x j)
    unfold va_up
    by_cases hji : j = i
    · rw [if_pos hji, hji]; exact hf
    · rw [if_neg hji]
      exact fR_congr (fun q q1 q2 => hk q (by omega) (by omega) (by omega) (by omega)) (a3 j hj)
  · rw [hk 103 (by omega) (by omega) (by omega) (by omega)]
    exact a5 k hk2
def c_Q (ans : Int32) (n w b : Nat) (f : Nat → Option m_E) (z : a_Z) : m_R → Prop := fun r => ∃ V1, r = (some (.inl ans), (n, w, img b V1 f)) ∧ cR V1 z
def s_put (z : a_Z) (t k c : Int32) : Int32 × a_Z := match a_ix t k with
  | some i => if ¬ (c < 0 ∨ nI 256 ≤ c) ∧ (a_row (z.2.2.1 i)).length < 40 then (nI 1, (z.1 + nI 1, z.2.1, va_up z.2.2.1 i (some (a_row (z.2.2.1 i) ++ [c.toNatClampNeg], z.1 + nI 1)), z.2.2.2)) else (nI 0, z)
  | none => (nI 0, z)
def s_set (z : a_Z) (t k p c : Int32) : Int32 × a_Z := match a_ix t k with
  | some i => (match z.2.2.1 i with
    | some y => if ¬ (p < 0 ∨ nI y.1.length ≤ p) ∧ ¬ (c < 0 ∨ nI 256 ≤ c) then (nI 1, (z.1 + nI 1, z.2.1, va_up z.2.2.1 i (some (y.1.set p.toNatClampNeg c.toNatClampNeg, z.1 + nI 1)), z.2.2.2)) else (nI 0, z)
    | none => (nI 0, z))
  | none => (nI 0, z)
def s_rem (z : a_Z) (t k : Int32) : Int32 × a_Z := match a_ix t k with
  | some i => (match z.2.2.1 i with
    | some _ => (nI 1, (z.1 + nI 1, z.2.1, va_up z.2.2.1 i none, z.2.2.2))
    | none => (nI 0, z))
  | none => (nI 0, z)
def s_rule (z : a_Z) (inc : Bool) (m v : Int32) : Int32 × a_Z := if ¬ (m < 0 ∨ nI 16 ≤ m) ∧ ¬ (v < 0 ∨ nI 16 ≤ v) ∧ z.2.1.length < 6 then (nI 1, (z.1, z.2.1 ++ [(inc, m, v)], z.2.2)) else (nI 0, z)
section TC
variable {n w b : Nat} {V : v_N} {f : Nat → Option m_E} {z : a_Z}
theorem a_by_app {l : List Nat} {c : Nat} (h : a_by l) (hl : l.length < 40) (hc : c < 256) : a_by (l ++ [c]) := by
  refine ⟨by rw [List.length_append]; exact hl, fun x hx => ?_⟩
  rcases List.mem_append.mp hx with h1 | h1
  · exact h.2 x h1
  · rw [List.mem_singleton] at h1; rw [h1]; exact hc
theorem a_by_set {l : List Nat} {c i : Nat} (h : a_by l) (hc : c < 256) : a_by (l.set i c) := by
  refine ⟨by rw [List.length_set]; exact h.1, fun x hx => ?_⟩
  rcases List.mem_or_eq_of_mem_set hx with h1 | h1
  · exact h.2 x h1
  · rw [h1]; exact hc
theorem a_by_row {o : Nat} {x : a_F} (h : fR V o x) : a_by (a_row x) := ⟨(fR_row h).2, fR_by h⟩
theorem p_put {t k c : Int32} (h : cR V z) : mt_P sm_TC_put [.inr (some b), .inl t, .inl k, .inl c] (n, w, img b V f) (c_Q (s_put z t k c).1 n w b f (s_put z t k c).2) := by
  refine mt_P_of ?_
  rcases a_cases t k with hb | ⟨i, j, hi, hj, rfl, rfl⟩
  · simp only [k_TC_put_0, k_TC_put_6, k_TC_put_31, mt_kk, mt_l0, lget, lput, fnth, fset, gf, gi, ga, mt_is, mt_pop, g_nil, g_const, g_null, g_iload, g_aload, g_istore, g_astore, g_iinc, g_add, g_sub, g_mul, g_and, g_xor, g_div, g_rem, g_dup, g_dup2, g_pop, g_get, g_putI, g_putZ, g_putA, g_iald, g_zald, g_iast, g_zast, g_aald, g_aast, g_alen, g_new, g_newI, g_newA, g_objinit, l_fall, l_ifeq, l_ifne, l_iflt, l_ifge, l_ifgt, l_ifle, l_iceq, l_icne, l_iclt, l_icge, l_icgt, l_icle, l_nullN, l_nullS, l_nonnullN, l_nonnullS, l_acne, l_callV, l_callI, l_callS, l_ret, l_iret, l_zret, l_aret, l_after, List.length_cons, List.length_nil, Nat.reduceAdd, Nat.reduceLT, Nat.reduceLeDiff, Nat.reduceEqDiff, and_self, and_true, true_and, if_true, if_false, reduceIte, ite_true, ite_false, beq_self_eq_true, Nat.zero_add, Option.toList_some, Option.toList_none, List.cons_append, List.nil_append, if_0, x_slotOfN hb, s_put, a_ix_n hb, z_0]
    exact ⟨V, rfl, h⟩
  · have hf := h.2.2.1 (i * 12 + j) (by omega)
    obtain ⟨k1, k2, k3, k4, k5, k6⟩ := kd_file (i * 12 + j) (by omega)
    have hir := iR_file (p := i * 12 + j) (by omega)
    obtain ⟨hr, hl⟩ := fR_row hf
    have hby := a_by_row hf
    generalize hx : z.2.2.1 (i * 12 + j) = x at hf hr hl hby
    rcases pk_ix c (n := 256) (by decide) with hc | hc | ⟨q, hq, rfl⟩
    · simp only [k_TC_put_0, k_TC_put_6, k_TC_put_13, k_TC_put_17, k_TC_put_31, mt_kk, mt_l0, lget, lput, fnth, fset, gf, gi, ga, mt_is, mt_pop, g_nil, g_const, g_null, g_iload, g_aload, g_istore, g_astore, g_iinc, g_add, g_sub, g_mul, g_and, g_xor, g_div, g_rem, g_dup, g_dup2, g_pop, g_get, g_putI, g_putZ, g_putA, g_iald, g_zald, g_iast, g_zast, g_aald, g_aast, g_alen, g_new, g_newI, g_newA, g_objinit, l_fall, l_ifeq, l_ifne, l_iflt, l_ifge, l_ifgt, l_ifle, l_iceq, l_icne, l_iclt, l_icge, l_icgt, l_icle, l_nullN, l_nullS, l_nonnullN, l_nonnullS, l_acne, l_callV, l_callI, l_callS, l_ret, l_iret, l_zret, l_aret, l_after, List.length_cons, List.length_nil, Nat.reduceAdd, Nat.reduceLT, Nat.reduceLeDiff, Nat.reduceEqDiff, and_self, and_true, true_and, if_true, if_false, reduceIte, ite_true, ite_false, beq_self_eq_true, Nat.zero_add, Option.toList_some, Option.toList_none, List.cons_append, List.nil_append, if_0, x_slotOf hi hj, x_isByteN (Or.inl hc), s_put, a_ix_y hi hj, hc, e_0, z_0, true_or, not_true_eq_false, false_and]
      exact ⟨V, rfl, h⟩
    · simp only [k_TC_put_0, k_TC_put_6, k_TC_put_13, k_TC_put_17, k_TC_put_31, mt_kk, mt_l0, lget, lput, fnth, fset, gf, gi, ga, mt_is, mt_pop, g_nil, g_const, g_null, g_iload, g_aload, g_istore, g_astore, g_iinc, g_add, g_sub, g_mul, g_and, g_xor, g_div, g_rem, g_dup, g_dup2, g_pop, g_get, g_putI, g_putZ, g_putA, g_iald, g_zald, g_iast, g_zast, g_aald, g_aast, g_alen, g_new, g_newI, g_newA, g_objinit, l_fall, l_ifeq, l_ifne, l_iflt, l_ifge, l_ifgt, l_ifle, l_iceq, l_icne, l_iclt, l_icge, l_icgt, l_icle, l_nullN, l_nullS, l_nonnullN, l_nonnullS, l_acne, l_callV, l_callI, l_callS, l_ret, l_iret, l_zret, l_aret, l_after, List.length_cons, List.length_nil, Nat.reduceAdd, Nat.reduceLT, Nat.reduceLeDiff, Nat.reduceEqDiff, and_self, and_true, true_and, if_true, if_false, reduceIte, ite_true, ite_false, beq_self_eq_true, Nat.zero_add, Option.toList_some, Option.toList_none, List.cons_append, List.nil_append, if_0, x_slotOf hi hj, x_isByteN (Or.inr (nI_lt_of (by decide) hc)), s_put, a_ix_y hi hj, hc, e_0, z_0, or_true, not_true_eq_false, false_and]
      exact ⟨V, rfl, h⟩
    · have hcl : (nI q).toNatClampNeg = q := nI_clamp (by omega)
      have hn1 := nI_neg (j := q) (by omega)
      have hn2 : (nI 256 ≤ nI q) = False := eq_false (nI_ge hq (by decide))
      by_cases hlt : (a_row x).length < 40
      · have hr1 : rR (vu V (104 + 3 * (i * 12 + j)) 1 (nI 1)) (104 + 3 * (i * 12 + j) + 1) (a_row x) := rR_congr (vu_off (by omega)) (vu_off (by omega)) hr
        have hr2 := rR_app (c := q) hr1
        simp only [k_TC_put_0, k_TC_put_6, k_TC_put_13, k_TC_put_17, k_TC_put_20, k_TC_put_28, k_TC_put_33, k_TC_put_48, k_TC_put_54, mt_kk, mt_l0, lget, lput, fnth, fset, gf, gi, ga, mt_is, mt_pop, g_nil, g_const, g_null, g_iload, g_aload, g_istore, g_astore, g_iinc, g_add, g_sub, g_mul, g_and, g_xor, g_div, g_rem, g_dup, g_dup2, g_pop, g_get, g_putI, g_putZ, g_putA, g_iald, g_zald, g_iast, g_zast, g_aald, g_aast, g_alen, g_new, g_newI, g_newA, g_objinit, l_fall, l_ifeq, l_ifne, l_iflt, l_ifge, l_ifgt, l_ifle, l_iceq, l_icne, l_iclt, l_icge, l_icgt, l_icle, l_nullN, l_nullS, l_nonnullN, l_nonnullS, l_acne, l_callV, l_callI, l_callS, l_ret, l_iret, l_zret, l_aret, l_after, List.length_cons, List.length_nil, Nat.reduceAdd, Nat.reduceLT, Nat.reduceLeDiff, Nat.reduceEqDiff, and_self, and_true, true_and, if_true, if_false, reduceIte, ite_true, ite_false, beq_self_eq_true, Nat.zero_add, Option.toList_some, Option.toList_none, List.cons_append, List.nil_append, if_0, x_slotOf hi hj, x_isByte hq, s_put, a_ix_y hi hj, hx, hn1, hn2, hcl, hlt, e_0, e_1, z_1, or_false, not_false_eq_true, im_Sf k2 k1, im_Ro k4 k3, x_isFull hir hr hl, decide_eq_false (show ¬ 40 ≤ (a_row x).length by omega), bI_f, pf_Sf_1 k2 k1, x_append hir hr1 hlt, x_tick, pf_Sf_2 k2 k1]
        have e8 : ∀ k9, vu (vu (vu V (104 + 3 * (i * 12 + j)) 1 (nI 1)) (104 + 3 * (i * 12 + j) + 1 + 1) (a_row x).length (nI q)) (104 + 3 * (i * 12 + j) + 1) 1 (nI ((a_row x).length + 1)) 0 k9 = V 0 k9 := fun k9 => by rw [up_ne (by omega), up_ne (by omega), up_ne (by omega)]
        rw [e8 8, h.1]
        refine ⟨_, rfl, cR_file (by omega) h ?_ ?_ ⟨?_, ?_, ?_, a_by_app hby hlt hq⟩ ?_⟩
        · rw [up_ne (by omega), vu_same]
        · intro k9 hk9
          rw [up_ne (by omega), vu_slot hk9, e8]
        · rw [vu_slot (by decide), up_ne (by omega), up_ne (by omega), up_ne (by omega), vu_same]
        · rw [vu_same]
        · exact rR_congr (by rw [vu_off (by omega), vu_off (by omega)]) (by rw [vu_off (by omega), vu_off (by omega)]) hr2
        · intro q1 g1 g2 g3 g4
          rw [vu_off g2, vu_off g1, vu_off g3, vu_off g4, vu_off g2]
      · simp only [k_TC_put_0, k_TC_put_6, k_TC_put_13, k_TC_put_17, k_TC_put_20, k_TC_put_28, k_TC_put_31, mt_kk, mt_l0, lget, lput, fnth, fset, gf, gi, ga, mt_is, mt_pop, g_nil, g_const, g_null, g_iload, g_aload, g_istore, g_astore, g_iinc, g_add, g_sub, g_mul, g_and, g_xor, g_div, g_rem, g_dup, g_dup2, g_pop, g_get, g_putI, g_putZ, g_putA, g_iald, g_zald, g_iast, g_zast, g_aald, g_aast, g_alen, g_new, g_newI, g_newA, g_objinit, l_fall, l_ifeq, l_ifne, l_iflt, l_ifge, l_ifgt, l_ifle, l_iceq, l_icne, l_iclt, l_icge, l_icgt, l_icle, l_nullN, l_nullS, l_nonnullN, l_nonnullS, l_acne, l_callV, l_callI, l_callS, l_ret, l_iret, l_zret, l_aret, l_after, List.length_cons, List.length_nil, Nat.reduceAdd, Nat.reduceLT, Nat.reduceLeDiff, Nat.reduceEqDiff, and_self, and_true, true_and, if_true, if_false, reduceIte, ite_true, ite_false, beq_self_eq_true, Nat.zero_add, Option.toList_some, Option.toList_none, List.cons_append, List.nil_append, if_0, x_slotOf hi hj, x_isByte hq, s_put, a_ix_y hi hj, hx, hn1, hn2, hlt, e_0, e_1, z_0, im_Sf k2 k1, im_Ro k4 k3, x_isFull hir hr hl, decide_eq_true (show 40 ≤ (a_row x).length by omega), bI_t, and_false]
        exact ⟨V, rfl, h⟩
theorem x_holdsN {o : Nat} {l : List Nat} {x : Int32} (hi : iR o) (h : rR V o l) (hx : x < 0 ∨ nI l.length ≤ x) : sm_Ro_holds [.inr (some (b + o)), .inl x] (n, w, img b V f) = some (some (.inl (nI 0)), (n, w, img b V f)) := by
  refine mt_sem_eq ?_
  by_cases h1 : x < 0
  · simp only [k_Ro_holds_0, k_Ro_holds_16, k_Ro_holds_17, mt_kk, mt_l0, lget, lput, fnth, fset, gf, gi, ga, mt_is, mt_pop, g_nil, g_const, g_null, g_iload, g_aload, g_istore, g_astore, g_iinc, g_add, g_sub, g_mul, g_and, g_xor, g_div, g_rem, g_dup, g_dup2, g_pop, g_get, g_putI, g_putZ, g_putA, g_iald, g_zald, g_iast, g_zast, g_aald, g_aast, g_alen, g_new, g_newI, g_newA, g_objinit, l_fall, l_ifeq, l_ifne, l_iflt, l_ifge, l_ifgt, l_ifle, l_iceq, l_icne, l_iclt, l_icge, l_icgt, l_icle, l_nullN, l_nullS, l_nonnullN, l_nonnullS, l_acne, l_callV, l_callI, l_callS, l_ret, l_iret, l_zret, l_aret, l_after, List.length_cons, List.length_nil, Nat.reduceAdd, Nat.reduceLT, Nat.reduceLeDiff, Nat.reduceEqDiff, and_self, and_true, true_and, if_true, if_false, reduceIte, ite_true, ite_false, beq_self_eq_true, Nat.zero_add, Option.toList_some, Option.toList_none, List.cons_append, List.nil_append, h1, z_0]
  · have h2 := hx.resolve_left h1
    simp only [k_Ro_holds_0, k_Ro_holds_4, k_Ro_holds_16, k_Ro_holds_17, mt_kk, mt_l0, lget, lput, fnth, fset, gf, gi, ga, mt_is, mt_pop, g_nil, g_const, g_null, g_iload, g_aload, g_istore, g_astore, g_iinc, g_add, g_sub, g_mul, g_and, g_xor, g_div, g_rem, g_dup, g_dup2, g_pop, g_get, g_putI, g_putZ, g_putA, g_iald, g_zald, g_iast, g_zast, g_aald, g_aast, g_alen, g_new, g_newI, g_newA, g_objinit, l_fall, l_ifeq, l_ifne, l_iflt, l_ifge, l_ifgt, l_ifle, l_iceq, l_icne, l_iclt, l_icge, l_icgt, l_icle, l_nullN, l_nullS, l_nonnullN, l_nonnullS, l_acne, l_callV, l_callI, l_callS, l_ret, l_iret, l_zret, l_aret, l_after, List.length_cons, List.length_nil, Nat.reduceAdd, Nat.reduceLT, Nat.reduceLeDiff, Nat.reduceEqDiff, and_self, and_true, true_and, if_true, if_false, reduceIte, ite_true, ite_false, beq_self_eq_true, Nat.zero_add, Option.toList_some, Option.toList_none, List.cons_append, List.nil_append, im_Ro (iR0 hi) hi.1, h.1, h1, h2, z_0]
theorem p_set {t k p c : Int32} (h : cR V z) : mt_P sm_TC_set [.inr (some b), .inl t, .inl k, .inl p, .inl c] (n, w, img b V f) (c_Q (s_set z t k p c).1 n w b f (s_set z t k p c).2) := by
  refine mt_P_of ?_
  rcases a_cases t k with hb | ⟨i, j, hi, hj, rfl, rfl⟩
  · simp only [k_TC_set_0, k_TC_set_6, k_TC_set_33, mt_kk, mt_l0, lget, lput, fnth, fset, gf, gi, ga, mt_is, mt_pop, g_nil, g_const, g_null, g_iload, g_aload, g_istore, g_astore, g_iinc, g_add, g_sub, g_mul, g_and, g_xor, g_div, g_rem, g_dup, g_dup2, g_pop, g_get, g_putI, g_putZ, g_putA, g_iald, g_zald, g_iast, g_zast, g_aald, g_aast, g_alen, g_new, g_newI, g_newA, g_objinit, l_fall, l_ifeq, l_ifne, l_iflt, l_ifge, l_ifgt, l_ifle, l_iceq, l_icne, l_iclt, l_icge, l_icgt, l_icle, l_nullN, l_nullS, l_nonnullN, l_nonnullS, l_acne, l_callV, l_callI, l_callS, l_ret, l_iret, l_zret, l_aret, l_after, List.length_cons, List.length_nil, Nat.reduceAdd, Nat.reduceLT, Nat.reduceLeDiff, Nat.reduceEqDiff, and_self, and_true, true_and, if_true, if_false, reduceIte, ite_true, ite_false, beq_self_eq_true, Nat.zero_add, Option.toList_some, Option.toList_none, List.cons_append, List.nil_append, if_0, x_fileOfN hb, s_set, a_ix_n hb, z_0]
    exact ⟨V, rfl, h⟩
  · have hf := h.2.2.1 (i * 12 + j) (by omega)
    obtain ⟨k1, k2, k3, k4, k5, k6⟩ := kd_file (i * 12 + j) (by omega)
    have hir := iR_file (p := i * 12 + j) (by omega)
    cases hx : z.2.2.1 (i * 12 + j) with
    | none =>
      rw [hx] at hf
      simp only [k_TC_set_0, k_TC_set_6, k_TC_set_33, mt_kk, mt_l0, lget, lput, fnth, fset, gf, gi, ga, mt_is, mt_pop, g_nil, g_const, g_null, g_iload, g_aload, g_istore, g_astore, g_iinc, g_add, g_sub, g_mul, g_and, g_xor, g_div, g_rem, g_dup, g_dup2, g_pop, g_get, g_putI, g_putZ, g_putA, g_iald, g_zald, g_iast, g_zast, g_aald, g_aast, g_alen, g_new, g_newI, g_newA, g_objinit, l_fall, l_ifeq, l_ifne, l_iflt, l_ifge, l_ifgt, l_ifle, l_iceq, l_icne, l_iclt, l_icge, l_icgt, l_icle, l_nullN, l_nullS, l_nonnullN, l_nonnullS, l_acne, l_callV, l_callI, l_callS, l_ret, l_iret, l_zret, l_aret, l_after, List.length_cons, List.length_nil, Nat.reduceAdd, Nat.reduceLT, Nat.reduceLeDiff, Nat.reduceEqDiff, and_self, and_true, true_and, if_true, if_false, reduceIte, ite_true, ite_false, beq_self_eq_true, Nat.zero_add, Option.toList_some, Option.toList_none, List.cons_append, List.nil_append, if_0, x_fileOf0 hi hj hf.1, s_set, a_ix_y hi hj, hx, z_0]
      exact ⟨V, rfl, h⟩
    | some y =>
      rw [hx] at hf
      obtain ⟨f1, f2, f3, f4⟩ := hf
      by_cases hp : p < 0 ∨ nI y.1.length ≤ p
      · simp only [k_TC_set_0, k_TC_set_6, k_TC_set_13, k_TC_set_22, k_TC_set_33, mt_kk, mt_l0, lget, lput, fnth, fset, gf, gi, ga, mt_is, mt_pop, g_nil, g_const, g_null, g_iload, g_aload, g_istore, g_astore, g_iinc, g_add, g_sub, g_mul, g_and, g_xor, g_div, g_rem, g_dup, g_dup2, g_pop, g_get, g_putI, g_putZ, g_putA, g_iald, g_zald, g_iast, g_zast, g_aald, g_aast, g_alen, g_new, g_newI, g_newA, g_objinit, l_fall, l_ifeq, l_ifne, l_iflt, l_ifge, l_ifgt, l_ifle, l_iceq, l_icne, l_iclt, l_icge, l_icgt, l_icle, l_nullN, l_nullS, l_nonnullN, l_nonnullS, l_acne, l_callV, l_callI, l_callS, l_ret, l_iret, l_zret, l_aret, l_after, List.length_cons, List.length_nil, Nat.reduceAdd, Nat.reduceLT, Nat.reduceLeDiff, Nat.reduceEqDiff, and_self, and_true, true_and, if_true, if_false, reduceIte, ite_true, ite_false, beq_self_eq_true, Nat.zero_add, Option.toList_some, Option.toList_none, List.cons_append, List.nil_append, if_0, x_fileOf hi hj f1, s_set, a_ix_y hi hj, hx, z_0, e_0, im_Sf k2 k1, im_Ro k4 k3, x_holdsN hir f3 hp, hp, not_true_eq_false, false_and]
        exact ⟨V, rfl, h⟩
      · obtain ⟨hp1, hp2⟩ := not_or.mp hp
        have hl40 := f4.1
        rcases pk_ix p (n := y.1.length) (by omega) with h9 | h9 | ⟨q, hq, rfl⟩
        · exact absurd h9 hp1
        · exact absurd h9 hp2
        · have hq31 : q < 2 ^ 31 := by omega
          have hclq : (nI q).toNatClampNeg = q := nI_clamp hq31
          rcases pk_ix c (n := 256) (by decide) with hc | hc | ⟨x, hxx, rfl⟩
          · simp only [k_TC_set_0, k_TC_set_6, k_TC_set_13, k_TC_set_22, k_TC_set_25, k_TC_set_30, k_TC_set_33, mt_kk, mt_l0, lget, lput, fnth, fset, gf, gi, ga, mt_is, mt_pop, g_nil, g_const, g_null, g_iload, g_aload, g_istore, g_astore, g_iinc, g_add, g_sub, g_mul, g_and, g_xor, g_div, g_rem, g_dup, g_dup2, g_pop, g_get, g_putI, g_putZ, g_putA, g_iald, g_zald, g_iast, g_zast, g_aald, g_aast, g_alen, g_new, g_newI, g_newA, g_objinit, l_fall, l_ifeq, l_ifne, l_iflt, l_ifge, l_ifgt, l_ifle, l_iceq, l_icne, l_iclt, l_icge, l_icgt, l_icle, l_nullN, l_nullS, l_nonnullN, l_nonnullS, l_acne, l_callV, l_callI, l_callS, l_ret, l_iret, l_zret, l_aret, l_after, List.length_cons, List.length_nil, Nat.reduceAdd, Nat.reduceLT, Nat.reduceLeDiff, Nat.reduceEqDiff, and_self, and_true, true_and, if_true, if_false, reduceIte, ite_true, ite_false, beq_self_eq_true, Nat.zero_add, Option.toList_some, Option.toList_none, List.cons_append, List.nil_append, if_0, x_fileOf hi hj f1, s_set, a_ix_y hi hj, hx, z_0, e_0, e_1, im_Sf k2 k1, im_Ro k4 k3, x_holds hir f3 f4.1 hq31, decide_eq_true hq, bI_t, x_isByteN (Or.inl hc), hp, hc, true_or, not_true_eq_false, and_false]
            exact ⟨V, rfl, h⟩
          · simp only [k_TC_set_0, k_TC_set_6, k_TC_set_13, k_TC_set_22, k_TC_set_25, k_TC_set_30, k_TC_set_33, mt_kk, mt_l0, lget, lput, fnth, fset, gf, gi, ga, mt_is, mt_pop, g_nil, g_const, g_null, g_iload, g_aload, g_istore, g_astore, g_iinc, g_add, g_sub, g_mul, g_and, g_xor, g_div, g_rem, g_dup, g_dup2, g_pop, g_get, g_putI, g_putZ, g_putA, g_iald, g_zald, g_iast, g_zast, g_aald, g_aast, g_alen, g_new, g_newI, g_newA, g_objinit, l_fall, l_ifeq, l_ifne, l_iflt, l_ifge, l_ifgt, l_ifle, l_iceq, l_icne, l_iclt, l_icge, l_icgt, l_icle, l_nullN, l_nullS, l_nonnullN, l_nonnullS, l_acne, l_callV, l_callI, l_callS, l_ret, l_iret, l_zret, l_aret, l_after, List.length_cons, List.length_nil, Nat.reduceAdd, Nat.reduceLT, Nat.reduceLeDiff, Nat.reduceEqDiff, and_self, and_true, true_and, if_true, if_false, reduceIte, ite_true, ite_false, beq_self_eq_true, Nat.zero_add, Option.toList_some, Option.toList_none, List.cons_append, List.nil_append, if_0, x_fileOf hi hj f1, s_set, a_ix_y hi hj, hx, z_0, e_0, e_1, im_Sf k2 k1, im_Ro k4 k3, x_holds hir f3 f4.1 hq31, decide_eq_true hq, bI_t, x_isByteN (Or.inr (nI_lt_of (by decide) hc)), hp, hc, or_true, not_true_eq_false, and_false]
            exact ⟨V, rfl, h⟩
          · have hclx : (nI x).toNatClampNeg = x := nI_clamp (by omega)
            have hn1 := nI_neg (j := x) (by omega)
            have hn2 : (nI 256 ≤ nI x) = False := eq_false (nI_ge hxx (by decide))
            have hr2 := rR_set (c := x) f3 hq
            simp only [k_TC_set_0, k_TC_set_6, k_TC_set_13, k_TC_set_22, k_TC_set_25, k_TC_set_30, k_TC_set_35, k_TC_set_46, k_TC_set_52, mt_kk, mt_l0, lget, lput, fnth, fset, gf, gi, ga, mt_is, mt_pop, g_nil, g_const, g_null, g_iload, g_aload, g_istore, g_astore, g_iinc, g_add, g_sub, g_mul, g_and, g_xor, g_div, g_rem, g_dup, g_dup2, g_pop, g_get, g_putI, g_putZ, g_putA, g_iald, g_zald, g_iast, g_zast, g_aald, g_aast, g_alen, g_new, g_newI, g_newA, g_objinit, l_fall, l_ifeq, l_ifne, l_iflt, l_ifge, l_ifgt, l_ifle, l_iceq, l_icne, l_iclt, l_icge, l_icgt, l_icle, l_nullN, l_nullS, l_nonnullN, l_nonnullS, l_acne, l_callV, l_callI, l_callS, l_ret, l_iret, l_zret, l_aret, l_after, List.length_cons, List.length_nil, Nat.reduceAdd, Nat.reduceLT, Nat.reduceLeDiff, Nat.reduceEqDiff, and_self, and_true, true_and, if_true, if_false, reduceIte, ite_true, ite_false, beq_self_eq_true, Nat.zero_add, Option.toList_some, Option.toList_none, List.cons_append, List.nil_append, if_0, x_fileOf hi hj f1, s_set, a_ix_y hi hj, hx, z_1, e_0, e_1, im_Sf k2 k1, im_Ro k4 k3, x_holds hir f3 f4.1 hq31, decide_eq_true hq, bI_t, x_isByte hxx, hp, hn1, hn2, hclq, hclx, or_false, not_false_eq_true, x_replace hir f3 f4.1 hq, x_tick, pf_Sf_2 k2 k1]
            have e8 : ∀ k9, vu V (104 + 3 * (i * 12 + j) + 1 + 1) q (nI x) 0 k9 = V 0 k9 := fun k9 => by rw [up_ne (by omega)]
            rw [e8 8, h.1]
            refine ⟨_, rfl, cR_file (by omega) h ?_ ?_ ⟨?_, ?_, ?_, a_by_set f4 hxx⟩ ?_⟩
            · rw [up_ne (by omega), vu_same]
            · intro k9 hk9
              rw [up_ne (by omega), vu_slot hk9, e8]
            · rw [vu_slot (by decide), up_ne (by omega), up_ne (by omega)]
              exact f1
            · rw [vu_same]
            · exact rR_congr (by rw [vu_off (by omega), vu_off (by omega)]) (by rw [vu_off (by omega), vu_off (by omega)]) hr2
            · intro q1 g1 g2 g3 g4
              rw [vu_off g2, vu_off g1, vu_off g4]
theorem p_rem {t k : Int32} (h : cR V z) : mt_P sm_TC_remove [.inr (some b), .inl t, .inl k] (n, w, img b V f) (c_Q (s_rem z t k).1 n w b f (s_rem z t k).2) := by
  refine mt_P_of ?_
  rcases a_cases t k with hb | ⟨i, j, hi, hj, rfl, rfl⟩
  · simp only [k_TC_remove_0, k_TC_remove_6, k_TC_remove_11, mt_kk, mt_l0, lget, lput, fnth, fset, gf, gi, ga, mt_is, mt_pop, g_nil, g_const, g_null, g_iload, g_aload, g_istore, g_astore, g_iinc, g_add, g_sub, g_mul, g_and, g_xor, g_div, g_rem, g_dup, g_dup2, g_pop, g_get, g_putI, g_putZ, g_putA, g_iald, g_zald, g_iast, g_zast, g_aald, g_aast, g_alen, g_new, g_newI, g_newA, g_objinit, l_fall, l_ifeq, l_ifne, l_iflt, l_ifge, l_ifgt, l_ifle, l_iceq, l_icne, l_iclt, l_icge, l_icgt, l_icle, l_nullN, l_nullS, l_nonnullN, l_nonnullS, l_acne, l_callV, l_callI, l_callS, l_ret, l_iret, l_zret, l_aret, l_after, List.length_cons, List.length_nil, Nat.reduceAdd, Nat.reduceLT, Nat.reduceLeDiff, Nat.reduceEqDiff, and_self, and_true, true_and, if_true, if_false, reduceIte, ite_true, ite_false, beq_self_eq_true, Nat.zero_add, Option.toList_some, Option.toList_none, List.cons_append, List.nil_append, if_0, x_fileOfN hb, s_rem, a_ix_n hb, z_0]
    exact ⟨V, rfl, h⟩
  · have hf := h.2.2.1 (i * 12 + j) (by omega)
    obtain ⟨k1, k2, k3, k4, k5, k6⟩ := kd_file (i * 12 + j) (by omega)
    have hir := iR_file (p := i * 12 + j) (by omega)
    cases hx : z.2.2.1 (i * 12 + j) with
    | none =>
      rw [hx] at hf
      simp only [k_TC_remove_0, k_TC_remove_6, k_TC_remove_11, mt_kk, mt_l0, lget, lput, fnth, fset, gf, gi, ga, mt_is, mt_pop, g_nil, g_const, g_null, g_iload, g_aload, g_istore, g_astore, g_iinc, g_add, g_sub, g_mul, g_and, g_xor, g_div, g_rem, g_dup, g_dup2, g_pop, g_get, g_putI, g_putZ, g_putA, g_iald, g_zald, g_iast, g_zast, g_aald, g_aast, g_alen, g_new, g_newI, g_newA, g_objinit, l_fall, l_ifeq, l_ifne, l_iflt, l_ifge, l_ifgt, l_ifle, l_iceq, l_icne, l_iclt, l_icge, l_icgt, l_icle, l_nullN, l_nullS, l_nonnullN, l_nonnullS, l_acne, l_callV, l_callI, l_callS, l_ret, l_iret, l_zret, l_aret, l_after, List.length_cons, List.length_nil, Nat.reduceAdd, Nat.reduceLT, Nat.reduceLeDiff, Nat.reduceEqDiff, and_self, and_true, true_and, if_true, if_false, reduceIte, ite_true, ite_false, beq_self_eq_true, Nat.zero_add, Option.toList_some, Option.toList_none, List.cons_append, List.nil_append, if_0, x_fileOf0 hi hj hf.1, s_rem, a_ix_y hi hj, hx, z_0]
      exact ⟨V, rfl, h⟩
    | some y =>
      rw [hx] at hf
      simp only [k_TC_remove_0, k_TC_remove_6, k_TC_remove_13, k_TC_remove_17, k_TC_remove_21, mt_kk, mt_l0, lget, lput, fnth, fset, gf, gi, ga, mt_is, mt_pop, g_nil, g_const, g_null, g_iload, g_aload, g_istore, g_astore, g_iinc, g_add, g_sub, g_mul, g_and, g_xor, g_div, g_rem, g_dup, g_dup2, g_pop, g_get, g_putI, g_putZ, g_putA, g_iald, g_zald, g_iast, g_zast, g_aald, g_aast, g_alen, g_new, g_newI, g_newA, g_objinit, l_fall, l_ifeq, l_ifne, l_iflt, l_ifge, l_ifgt, l_ifle, l_iceq, l_icne, l_iclt, l_icge, l_icgt, l_icle, l_nullN, l_nullS, l_nonnullN, l_nonnullS, l_acne, l_callV, l_callI, l_callS, l_ret, l_iret, l_zret, l_aret, l_after, List.length_cons, List.length_nil, Nat.reduceAdd, Nat.reduceLT, Nat.reduceLeDiff, Nat.reduceEqDiff, and_self, and_true, true_and, if_true, if_false, reduceIte, ite_true, ite_false, beq_self_eq_true, Nat.zero_add, Option.toList_some, Option.toList_none, List.cons_append, List.nil_append, if_0, x_fileOf hi hj hf.1, s_rem, a_ix_y hi hj, hx, z_1, im_Sf k2 k1, x_erase k1 hir, x_tick]
      have e8 : ∀ k9, vu (vu V (104 + 3 * (i * 12 + j)) 1 (nI 0)) (104 + 3 * (i * 12 + j) + 1) 1 (nI 0) 0 k9 = V 0 k9 := fun k9 => by rw [up_ne (by omega), up_ne (by omega)]
      rw [e8 8, h.1]
      refine ⟨_, rfl, cR_file (by omega) h ?_ ?_ ⟨?_, ?_⟩ ?_⟩
      · rw [vu_same]
      · intro k9 hk9
        rw [vu_slot hk9, e8]
      · rw [up_ne (by omega), up_ne (by omega), vu_same]
      · exact rR_congr (by rw [vu_off (by omega)]) (by rw [vu_off (by omega)]) rR_nil
      · intro q1 g1 g2 g3 g4
        rw [vu_off g1, vu_off g3, vu_off g2]
theorem p_rule {inc : Bool} {m v : Int32} (h : cR V z) : mt_P sm_TC_rule [.inr (some b), .inl (bI inc), .inl m, .inl v] (n, w, img b V f) (c_Q (s_rule z inc m v).1 n w b f (s_rule z inc m v).2) := by
  refine mt_P_of ?_
  rcases pk_ix m (n := 16) (by decide) with hc | hc | ⟨q, hq, rfl⟩
  · simp only [k_TC_rule_0, k_TC_rule_4, k_TC_rule_14, mt_kk, mt_l0, lget, lput, fnth, fset, gf, gi, ga, mt_is, mt_pop, g_nil, g_const, g_null, g_iload, g_aload, g_istore, g_astore, g_iinc, g_add, g_sub, g_mul, g_and, g_xor, g_div, g_rem, g_dup, g_dup2, g_pop, g_get, g_putI, g_putZ, g_putA, g_iald, g_zald, g_iast, g_zast, g_aald, g_aast, g_alen, g_new, g_newI, g_newA, g_objinit, l_fall, l_ifeq, l_ifne, l_iflt, l_ifge, l_ifgt, l_ifle, l_iceq, l_icne, l_iclt, l_icge, l_icgt, l_icle, l_nullN, l_nullS, l_nonnullN, l_nonnullS, l_acne, l_callV, l_callI, l_callS, l_ret, l_iret, l_zret, l_aret, l_after, List.length_cons, List.length_nil, Nat.reduceAdd, Nat.reduceLT, Nat.reduceLeDiff, Nat.reduceEqDiff, and_self, and_true, true_and, if_true, if_false, reduceIte, ite_true, ite_false, beq_self_eq_true, Nat.zero_add, Option.toList_some, Option.toList_none, List.cons_append, List.nil_append, x_isMaskN (Or.inl hc), e_0, s_rule, hc, true_or, not_true_eq_false, false_and, z_0]
    exact ⟨V, rfl, h⟩
  · simp only [k_TC_rule_0, k_TC_rule_4, k_TC_rule_14, mt_kk, mt_l0, lget, lput, fnth, fset, gf, gi, ga, mt_is, mt_pop, g_nil, g_const, g_null, g_iload, g_aload, g_istore, g_astore, g_iinc, g_add, g_sub, g_mul, g_and, g_xor, g_div, g_rem, g_dup, g_dup2, g_pop, g_get, g_putI, g_putZ, g_putA, g_iald, g_zald, g_iast, g_zast, g_aald, g_aast, g_alen, g_new, g_newI, g_newA, g_objinit, l_fall, l_ifeq, l_ifne, l_iflt, l_ifge, l_ifgt, l_ifle, l_iceq, l_icne, l_iclt, l_icge, l_icgt, l_icle, l_nullN, l_nullS, l_nonnullN, l_nonnullS, l_acne, l_callV, l_callI, l_callS, l_ret, l_iret, l_zret, l_aret, l_after, List.length_cons, List.length_nil, Nat.reduceAdd, Nat.reduceLT, Nat.reduceLeDiff, Nat.reduceEqDiff, and_self, and_true, true_and, if_true, if_false, reduceIte, ite_true, ite_false, beq_self_eq_true, Nat.zero_add, Option.toList_some, Option.toList_none, List.cons_append, List.nil_append, x_isMaskN (Or.inr (nI_lt_of (by decide) hc)), e_0, s_rule, hc, or_true, not_true_eq_false, false_and, z_0]
    exact ⟨V, rfl, h⟩
  · have hn1 := nI_neg (j := q) (by omega)
    have hn2 : (nI 16 ≤ nI q) = False := eq_false (nI_ge hq (by decide))
    rcases pk_ix v (n := 16) (by decide) with hc | hc | ⟨q2, hq2, rfl⟩
    · simp only [k_TC_rule_0, k_TC_rule_4, k_TC_rule_7, k_TC_rule_11, k_TC_rule_14, mt_kk, mt_l0, lget, lput, fnth, fset, gf, gi, ga, mt_is, mt_pop, g_nil, g_const, g_null, g_iload, g_aload, g_istore, g_astore, g_iinc, g_add, g_sub, g_mul, g_and, g_xor, g_div, g_rem, g_dup, g_dup2, g_pop, g_get, g_putI, g_putZ, g_putA, g_iald, g_zald, g_iast, g_zast, g_aald, g_aast, g_alen, g_new, g_newI, g_newA, g_objinit, l_fall, l_ifeq, l_ifne, l_iflt, l_ifge, l_ifgt, l_ifle, l_iceq, l_icne, l_iclt, l_icge, l_icgt, l_icle, l_nullN, l_nullS, l_nonnullN, l_nonnullS, l_acne, l_callV, l_callI, l_callS, l_ret, l_iret, l_zret, l_aret, l_after, List.length_cons, List.length_nil, Nat.reduceAdd, Nat.reduceLT, Nat.reduceLeDiff, Nat.reduceEqDiff, and_self, and_true, true_and, if_true, if_false, reduceIte, ite_true, ite_false, beq_self_eq_true, Nat.zero_add, Option.toList_some, Option.toList_none, List.cons_append, List.nil_append, x_isMask hq, x_isMaskN (Or.inl hc), e_0, e_1, s_rule, hn1, hn2, hc, true_or, not_true_eq_false, false_and, and_false, z_0]
      exact ⟨V, rfl, h⟩
    · simp only [k_TC_rule_0, k_TC_rule_4, k_TC_rule_7, k_TC_rule_11, k_TC_rule_14, mt_kk, mt_l0, lget, lput, fnth, fset, gf, gi, ga, mt_is, mt_pop, g_nil, g_const, g_null, g_iload, g_aload, g_istore, g_astore, g_iinc, g_add, g_sub, g_mul, g_and, g_xor, g_div, g_rem, g_dup, g_dup2, g_pop, g_get, g_putI, g_putZ, g_putA, g_iald, g_zald, g_iast, g_zast, g_aald, g_aast, g_alen, g_new, g_newI, g_newA, g_objinit, l_fall, l_ifeq, l_ifne, l_iflt, l_ifge, l_ifgt, l_ifle, l_iceq, l_icne, l_iclt, l_icge, l_icgt, l_icle, l_nullN, l_nullS, l_nonnullN, l_nonnullS, l_acne, l_callV, l_callI, l_callS, l_ret, l_iret, l_zret, l_aret, l_after, List.length_cons, List.length_nil, Nat.reduceAdd, Nat.reduceLT, Nat.reduceLeDiff, Nat.reduceEqDiff, and_self, and_true, true_and, if_true, if_false, reduceIte, ite_true, ite_false, beq_self_eq_true, Nat.zero_add, Option.toList_some, Option.toList_none, List.cons_append, List.nil_append, x_isMask hq, x_isMaskN (Or.inr (nI_lt_of (by decide) hc)), e_0, e_1, s_rule, hn1, hn2, hc, or_true, not_true_eq_false, false_and, and_false, z_0]
      exact ⟨V, rfl, h⟩
    · have hm1 := nI_neg (j := q2) (by omega)
      have hm2 : (nI 16 ≤ nI q2) = False := eq_false (nI_ge hq2 (by decide))
      obtain ⟨a1, ⟨u1, u2, u3⟩, a3, a4, a5, a6⟩ := id h
      by_cases hl : z.2.1.length < 6
      · simp only [k_TC_rule_0, k_TC_rule_4, k_TC_rule_7, k_TC_rule_11, k_TC_rule_16, k_TC_rule_26, mt_kk, mt_l0, lget, lput, fnth, fset, gf, gi, ga, mt_is, mt_pop, g_nil, g_const, g_null, g_iload, g_aload, g_istore, g_astore, g_iinc, g_add, g_sub, g_mul, g_and, g_xor, g_div, g_rem, g_dup, g_dup2, g_pop, g_get, g_putI, g_putZ, g_putA, g_iald, g_zald, g_iast, g_zast, g_aald, g_aast, g_alen, g_new, g_newI, g_newA, g_objinit, l_fall, l_ifeq, l_ifne, l_iflt, l_ifge, l_ifgt, l_ifle, l_iceq, l_icne, l_iclt, l_icge, l_icgt, l_icle, l_nullN, l_nullS, l_nonnullN, l_nonnullS, l_acne, l_callV, l_callI, l_callS, l_ret, l_iret, l_zret, l_aret, l_after, List.length_cons, List.length_nil, Nat.reduceAdd, Nat.reduceLT, Nat.reduceLeDiff, Nat.reduceEqDiff, and_self, and_true, true_and, if_true, if_false, reduceIte, ite_true, ite_false, beq_self_eq_true, Nat.zero_add, Option.toList_some, Option.toList_none, List.cons_append, List.nil_append, if_0, if_2, x_isMask hq, x_isMask hq2, e_1, s_rule, hn1, hn2, hm1, hm2, hl, or_false, not_false_eq_true, x_Ru_append hl u2, z_1]
        refine ⟨_, rfl, ?_, ⟨?_, ?_, ?_⟩, ?_, ?_, ?_, ?_⟩
        · rw [up_ne (by decide), up_ne (by decide), up_ne (by decide), up_ne (by decide)]; exact a1
        · show (z.2.1 ++ [(inc, nI q, nI q2)]).length ≤ 6
          rw [List.length_append]; exact hl
        · show _ = nI (z.2.1 ++ [(inc, nI q, nI q2)]).length
          rw [vu_same, List.length_append]; rfl
        · intro j r hr
          have hr : (z.2.1 ++ [(inc, nI q, nI q2)])[j]? = some r := hr
          by_cases hj : j < z.2.1.length
          · rw [List.getElem?_append_left hj] at hr
            have h9 := u3 j r hr
            refine ⟨?_, ?_, ?_⟩
            · rw [up_ne (by decide), up_ne (by decide), up_ne (by decide), vu_slot (by omega)]; exact h9.1
            · rw [up_ne (by decide), up_ne (by decide), vu_slot (by omega), up_ne (by decide)]; exact h9.2.1
            · rw [up_ne (by decide), vu_slot (by omega), up_ne (by decide), up_ne (by decide)]; exact h9.2.2
          · rw [List.getElem?_append_right (by omega)] at hr
            have hz : j - z.2.1.length < 1 := (List.getElem?_eq_some_iff.mp hr).1
            have hje : j = z.2.1.length := by omega
            subst hje
            rw [Nat.sub_self] at hr
            cases hr
            refine ⟨?_, ?_, ?_⟩
            · rw [up_ne (by decide), up_ne (by decide), up_ne (by decide), vu_same]
            · rw [up_ne (by decide), up_ne (by decide), vu_same]
            · rw [up_ne (by decide), vu_same]
        · exact fun i hi => fR_congr (fun q q1 q2 => by rw [vu_off (by omega), vu_off (by omega), vu_off (by omega), vu_off (by omega)]) (a3 i hi)
        · exact jR_congr (fun q q1 q2 => by rw [vu_off (by omega), vu_off (by omega), vu_off (by omega), vu_off (by omega)]) a4
        · intro k hk
          rw [up_ne (by decide), up_ne (by decide), up_ne (by decide), up_ne (by decide)]; exact a5 k hk
        · exact sR_congr (fun k _ => by rw [up_ne (by decide), up_ne (by decide), up_ne (by decide), up_ne (by decide)]) (fun q q1 q2 => by rw [vu_off (by omega), vu_off (by omega), vu_off (by omega), vu_off (by omega)]) (fun q q1 q2 => by rw [vu_off (by omega), vu_off (by omega), vu_off (by omega), vu_off (by omega)]) a6
      · rw [show z.2.1.length = 6 by omega] at u2
        simp only [k_TC_rule_0, k_TC_rule_4, k_TC_rule_7, k_TC_rule_11, k_TC_rule_16, k_TC_rule_26, mt_kk, mt_l0, lget, lput, fnth, fset, gf, gi, ga, mt_is, mt_pop, g_nil, g_const, g_null, g_iload, g_aload, g_istore, g_astore, g_iinc, g_add, g_sub, g_mul, g_and, g_xor, g_div, g_rem, g_dup, g_dup2, g_pop, g_get, g_putI, g_putZ, g_putA, g_iald, g_zald, g_iast, g_zast, g_aald, g_aast, g_alen, g_new, g_newI, g_newA, g_objinit, l_fall, l_ifeq, l_ifne, l_iflt, l_ifge, l_ifgt, l_ifle, l_iceq, l_icne, l_iclt, l_icge, l_icgt, l_icle, l_nullN, l_nullS, l_nonnullN, l_nonnullS, l_acne, l_callV, l_callI, l_callS, l_ret, l_iret, l_zret, l_aret, l_after, List.length_cons, List.length_nil, Nat.reduceAdd, Nat.reduceLT, Nat.reduceLeDiff, Nat.reduceEqDiff, and_self, and_true, true_and, if_true, if_false, reduceIte, ite_true, ite_false, beq_self_eq_true, Nat.zero_add, Option.toList_some, Option.toList_none, List.cons_append, List.nil_append, if_0, if_2, x_isMask hq, x_isMask hq2, e_1, s_rule, hn1, hn2, hm1, hm2, hl, and_false, x_Ru_full u2, z_0]
        exact ⟨V, rfl, h⟩
end TC
