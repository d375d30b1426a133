/-! The class: a session's end and beginning. -/
def c_Qv (n w b : Nat) (f : Nat → Option m_E) (z : a_Z) (V : v_N) (P : Nat → Prop) : m_R → Prop := fun r => ∃ V1, r = (none, (n, w, img b V1 f)) ∧ cR V1 z ∧ ch V V1 P
section TC
variable {n w b : Nat} {V : v_N} {f : Nat → Option m_E} {z : a_Z}
theorem x_slot1 {k : Nat} (hk : k < 12) : sm_TC_slotOf [.inr (some b), .inl (nI 1), .inl (nI k)] (n, w, img b V f) = some (some (.inr (some (b + (104 + 3 * (12 + k))))), (n, w, img b V f)) := x_slotOf (t := 1) (by decide) hk
theorem x_file1 {k : Nat} (hk : k < 12) (h : V (104 + 3 * (12 + k)) 1 = nI 1) : sm_TC_fileOf [.inr (some b), .inl (nI 1), .inl (nI k)] (n, w, img b V f) = some (some (.inr (some (b + (104 + 3 * (12 + k))))), (n, w, img b V f)) := x_fileOf (t := 1) (by decide) hk h
theorem x_file1z {k : Nat} (hk : k < 12) (h : V (104 + 3 * (12 + k)) 1 = nI 0) : sm_TC_fileOf [.inr (some b), .inl (nI 1), .inl (nI k)] (n, w, img b V f) = some (some (.inr none), (n, w, img b V f)) := x_fileOf0 (t := 1) (by decide) hk h
theorem x_file0 {k : Nat} (hk : k < 12) (h : V (104 + 3 * k) 1 = nI 1) : sm_TC_fileOf [.inr (some b), .inl (nI 0), .inl (nI k)] (n, w, img b V f) = some (some (.inr (some (b + (104 + 3 * k)))), (n, w, img b V f)) := by
  have h1 := x_fileOf (n := n) (w := w) (b := b) (f := f) (V := V) (t := 0) (k := k) (by decide) hk (by rw [show 0 * 12 + k = k by omega]; exact h)
  rw [show 0 * 12 + k = k by omega] at h1
  exact h1
theorem x_file0z {k : Nat} (hk : k < 12) (h : V (104 + 3 * k) 1 = nI 0) : sm_TC_fileOf [.inr (some b), .inl (nI 0), .inl (nI k)] (n, w, img b V f) = some (some (.inr none), (n, w, img b V f)) := x_fileOf0 (t := 0) (by decide) hk (by rw [show 0 * 12 + k = k by omega]; exact h)
theorem lR_nil {V : v_N} {o p : Nat} (hp : p < 13) (h1 : V o 1 = nI p) (h2 : V o 2 = nI 0) : lR V o [] := ⟨p, hp, h1, h2, by decide, fun i m hm => by cases hm⟩
theorem lp_end {V0 : v_N} (Q : m_R → Prop) (hq : ∀ V1, (∀ k, k < 12 → V1 (176 + k) 0 = nI 0 ∧ V1 (176 + k) 1 = nI 0) → ch V0 V1 (fun q => 176 ≤ q ∧ q < 188) → Q (none, (n, w, img b V1 f))) (d : Nat) : ∀ (i : Nat) (V : v_N), i + d = 12 → (∀ k, k < i → V (176 + k) 0 = nI 0 ∧ V (176 + k) 1 = nI 0) → ch V0 V (fun q => 176 ≤ q ∧ q < 188) → mt_T cd_TC_endSession 21 ([some (.inr (some b)), some (.inl (nI i))], [], (n, w, img b V f)) Q := by
  induction d with
  | zero =>
    intro i V hd h1 h2
    have hd : i = 12 := hd
    subst hd
    simp only [k_TC_endSession_21, k_TC_endSession_42, mt_kk, mt_l0, lget, lput, fnth, fset, gf, gi, ga, mt_is, mt_pop, g_nil, g_const, g_null, g_iload, g_aload, g_istore, g_astore, g_iinc, g_add, g_sub, g_mul, g_and, g_xor, g_div, g_rem, g_dup, g_dup2, g_pop, g_get, g_putI, g_putZ, g_putA, g_iald, g_zald, g_iast, g_zast, g_aald, g_aast, g_alen, g_new, g_newI, g_newA, g_objinit, l_fall, l_ifeq, l_ifne, l_iflt, l_ifge, l_ifgt, l_ifle, l_iceq, l_icne, l_iclt, l_icge, l_icgt, l_icle, l_nullN, l_nullS, l_nonnullN, l_nonnullS, l_acne, l_callV, l_callI, l_callS, l_ret, l_iret, l_zret, l_aret, l_after, List.length_cons, List.length_nil, Nat.reduceAdd, Nat.reduceLT, Nat.reduceLeDiff, Nat.reduceEqDiff, and_self, and_true, true_and, if_true, if_false, reduceIte, ite_true, ite_false, beq_self_eq_true, Nat.zero_add, Option.toList_some, Option.toList_none, List.cons_append, List.nil_append, nI_leE (a := 12) (b := 12) (by decide) (by decide), Nat.le_refl]
    exact hq V h1 h2
  | succ d ih =>
    intro i V hd h1 h2
    have hi : i < 12 := by omega
    obtain ⟨k1, k2⟩ := kd_entry i hi
    have hx := mt_ix_nI (j := i) (n := 12) hi (by decide)
    rw [k_TC_endSession_21]
    simp only [k_TC_endSession_27, k_TC_endSession_36, mt_kk, mt_l0, lget, lput, fnth, fset, gf, gi, ga, mt_is, mt_pop, g_nil, g_const, g_null, g_iload, g_aload, g_istore, g_astore, g_iinc, g_add, g_sub, g_mul, g_and, g_xor, g_div, g_rem, g_dup, g_dup2, g_pop, g_get, g_putI, g_putZ, g_putA, g_iald, g_zald, g_iast, g_zast, g_aald, g_aast, g_alen, g_new, g_newI, g_newA, g_objinit, l_fall, l_ifeq, l_ifne, l_iflt, l_ifge, l_ifgt, l_ifle, l_iceq, l_icne, l_iclt, l_icge, l_icgt, l_icle, l_nullN, l_nullS, l_nonnullN, l_nonnullS, l_acne, l_callV, l_callI, l_callS, l_ret, l_iret, l_zret, l_aret, l_after, List.length_cons, List.length_nil, Nat.reduceAdd, Nat.reduceLT, Nat.reduceLeDiff, Nat.reduceEqDiff, and_self, and_true, true_and, if_true, if_false, reduceIte, ite_true, ite_false, beq_self_eq_true, Nat.zero_add, Option.toList_some, Option.toList_none, List.cons_append, List.nil_append, eq_false (nI_ge hi (show 12 < 2 ^ 31 by decide)), if_0, if_62, hx, hi, im_En k2 k1, x_forget k1 k2, nI_add]
    refine ih (i + 1) _ (by omega) (fun k hk => ?_) (ch_u (ch_u h2 (by omega)) (by omega))
    by_cases hki : k = i
    · subst hki
      exact ⟨by rw [vu_slot (by decide), vu_same], by rw [vu_same]⟩
    · rw [up_ne (by omega), up_ne (by omega), up_ne (by omega), up_ne (by omega)]
      exact h1 k (by omega)
theorem x_endSession (h : cR V z) : mt_P sm_TC_endSession [.inr (some b)] (n, w, img b V f) (c_Qv n w b f (z.1, z.2.1, z.2.2.1, z.2.2.2.1, z.2.2.2.2.1, none) V (fun q => q = 0 ∨ q = 6 ∨ q = 34 ∨ 176 ≤ q ∧ q < 188)) := by
  obtain ⟨a1, a2, a3, a4, a5, a6⟩ := h
  obtain ⟨p0, b1, b2, -⟩ := sR_l0 a6
  obtain ⟨p1, c1, c2, -⟩ := sR_l1 a6
  refine mt_P_of ?_
  simp only [k_TC_endSession_0, k_TC_endSession_12, k_TC_endSession_19, mt_kk, mt_l0, lget, lput, fnth, fset, gf, gi, ga, mt_is, mt_pop, g_nil, g_const, g_null, g_iload, g_aload, g_istore, g_astore, g_iinc, g_add, g_sub, g_mul, g_and, g_xor, g_div, g_rem, g_dup, g_dup2, g_pop, g_get, g_putI, g_putZ, g_putA, g_iald, g_zald, g_iast, g_zast, g_aald, g_aast, g_alen, g_new, g_newI, g_newA, g_objinit, l_fall, l_ifeq, l_ifne, l_iflt, l_ifge, l_ifgt, l_ifle, l_iceq, l_icne, l_iclt, l_icge, l_icgt, l_icle, l_nullN, l_nullS, l_nonnullN, l_nonnullS, l_acne, l_callV, l_callI, l_callS, l_ret, l_iret, l_zret, l_aret, l_after, List.length_cons, List.length_nil, Nat.reduceAdd, Nat.reduceLT, Nat.reduceLeDiff, Nat.reduceEqDiff, and_self, and_true, true_and, if_true, if_false, reduceIte, ite_true, ite_false, beq_self_eq_true, Nat.zero_add, Option.toList_some, Option.toList_none, List.cons_append, List.nil_append, if_0, pf_0_9, z_0, if_6, if_34, x_Li_clear (Or.inl rfl), x_Li_clear (Or.inr rfl)]
  refine lp_end (V0 := vu (vu (vu V 0 9 (nI 0)) 6 2 (nI 0)) 34 2 (nI 0)) _ (fun V1 h1 h2 => ⟨V1, rfl, ?_, ?_⟩) 12 0 _ (by omega) (fun k hk => by omega) ch_0
  · have g : ∀ q, q < 176 → V1 q = vu (vu (vu V 0 9 (nI 0)) 6 2 (nI 0)) 34 2 (nI 0) q := fun q hq => h2 q (by omega)
    have g2 : ∀ q, q < 176 → q ≠ 0 → q ≠ 6 → q ≠ 34 → V1 q = V q := fun q hq e1 e2 e3 => by rw [g q hq, vu_off e3, vu_off e2, vu_off e1]
    have g0 : ∀ k, k ≠ 9 → V1 0 k = V 0 k := fun k hk => by rw [g 0 (by decide), up_ne (by decide), up_ne (by decide), vu_slot hk]
    refine ⟨by rw [g0 8 (by decide)]; exact a1, uR_congr (fun q q1 q2 => g2 q (by omega) (by omega) (by omega) (by omega)) a2, fun i hi => fR_congr (fun q q1 q2 => g2 q (by omega) (by omega) (by omega) (by omega)) (a3 i hi), jR_congr (fun q q1 q2 => g2 q (by omega) (by omega) (by omega) (by omega)) a4, fun k hk => by rw [g2 103 (by decide) (by decide) (by decide) (by decide)]; exact a5 k hk, ?_, ?_, ?_, h1⟩
    · rw [g 0 (by decide), up_ne (by decide), up_ne (by decide), vu_same]
    · refine lR_nil b1 ?_ ?_
      · rw [g 6 (by decide), up_ne (by decide), vu_slot (by decide), up_ne (by decide)]; exact b2
      · rw [g 6 (by decide), up_ne (by decide), vu_same]
    · refine lR_nil c1 ?_ ?_
      · rw [g 34 (by decide), vu_slot (by decide), up_ne (by decide), up_ne (by decide)]; exact c2
      · rw [g 34 (by decide), vu_same]
  · intro q hq
    rw [h2 q (by omega), vu_off (by omega), vu_off (by omega), vu_off (by omega)]
def s_crash (z : a_Z) : Int32 × a_Z := match z.2.2.2.2.2 with
  | none => (nI 0, z)
  | some _ => (nI 1, (z.1, z.2.1, z.2.2.1, z.2.2.2.1, z.2.2.2.2.1, none))
theorem p_crash (h : cR V z) : mt_P sm_TC_crash [.inr (some b)] (n, w, img b V f) (c_Q (s_crash z).1 n w b f (s_crash z).2) := by
  refine mt_P_of ?_
  have ho := sR_on h
  cases hz : z.2.2.2.2.2 with
  | none =>
    simp only [q_on, hz] at ho
    simp only [k_TC_crash_0, k_TC_crash_7, mt_kk, mt_l0, lget, lput, fnth, fset, gf, gi, ga, mt_is, mt_pop, g_nil, g_const, g_null, g_iload, g_aload, g_istore, g_astore, g_iinc, g_add, g_sub, g_mul, g_and, g_xor, g_div, g_rem, g_dup, g_dup2, g_pop, g_get, g_putI, g_putZ, g_putA, g_iald, g_zald, g_iast, g_zast, g_aald, g_aast, g_alen, g_new, g_newI, g_newA, g_objinit, l_fall, l_ifeq, l_ifne, l_iflt, l_ifge, l_ifgt, l_ifle, l_iceq, l_icne, l_iclt, l_icge, l_icgt, l_icle, l_nullN, l_nullS, l_nonnullN, l_nonnullS, l_acne, l_callV, l_callI, l_callS, l_ret, l_iret, l_zret, l_aret, l_after, List.length_cons, List.length_nil, Nat.reduceAdd, Nat.reduceLT, Nat.reduceLeDiff, Nat.reduceEqDiff, and_self, and_true, true_and, if_true, if_false, reduceIte, ite_true, ite_false, beq_self_eq_true, Nat.zero_add, Option.toList_some, Option.toList_none, List.cons_append, List.nil_append, if_0, ho, e_0, z_0, s_crash, hz]
    exact ⟨V, rfl, h⟩
  | some y =>
    simp only [q_on, hz] at ho
    simp only [k_TC_crash_0, k_TC_crash_9, mt_kk, mt_l0, lget, lput, fnth, fset, gf, gi, ga, mt_is, mt_pop, g_nil, g_const, g_null, g_iload, g_aload, g_istore, g_astore, g_iinc, g_add, g_sub, g_mul, g_and, g_xor, g_div, g_rem, g_dup, g_dup2, g_pop, g_get, g_putI, g_putZ, g_putA, g_iald, g_zald, g_iast, g_zast, g_aald, g_aast, g_alen, g_new, g_newI, g_newA, g_objinit, l_fall, l_ifeq, l_ifne, l_iflt, l_ifge, l_ifgt, l_ifle, l_iceq, l_icne, l_iclt, l_icge, l_icgt, l_icle, l_nullN, l_nullS, l_nonnullN, l_nonnullS, l_acne, l_callV, l_callI, l_callS, l_ret, l_iret, l_zret, l_aret, l_after, List.length_cons, List.length_nil, Nat.reduceAdd, Nat.reduceLT, Nat.reduceLeDiff, Nat.reduceEqDiff, and_self, and_true, true_and, if_true, if_false, reduceIte, ite_true, ite_false, beq_self_eq_true, Nat.zero_add, Option.toList_some, Option.toList_none, List.cons_append, List.nil_append, if_0, ho, e_1, s_crash, hz]
    refine mt_call (x_endSession h) ?_
    rintro r ⟨V1, rfl, h1, -⟩
    simp only [k_TC_crash_13, mt_kk, mt_l0, lget, lput, fnth, fset, gf, gi, ga, mt_is, mt_pop, g_nil, g_const, g_null, g_iload, g_aload, g_istore, g_astore, g_iinc, g_add, g_sub, g_mul, g_and, g_xor, g_div, g_rem, g_dup, g_dup2, g_pop, g_get, g_putI, g_putZ, g_putA, g_iald, g_zald, g_iast, g_zast, g_aald, g_aast, g_alen, g_new, g_newI, g_newA, g_objinit, l_fall, l_ifeq, l_ifne, l_iflt, l_ifge, l_ifgt, l_ifle, l_iceq, l_icne, l_iclt, l_icge, l_icgt, l_icle, l_nullN, l_nullS, l_nonnullN, l_nonnullS, l_acne, l_callV, l_callI, l_callS, l_ret, l_iret, l_zret, l_aret, l_after, List.length_cons, List.length_nil, Nat.reduceAdd, Nat.reduceLT, Nat.reduceLeDiff, Nat.reduceEqDiff, and_self, and_true, true_and, if_true, if_false, reduceIte, ite_true, ite_false, beq_self_eq_true, Nat.zero_add, Option.toList_some, Option.toList_none, List.cons_append, List.nil_append, z_1]
    exact ⟨V1, rfl, h1⟩
/-- counts changed in one place -/
theorem ct_bp {ct : Nat → Int32} {V1 : v_N} {j : Nat} (hj : j < 8) (h : ∀ k, k < 8 → V1 103 k = ct k) : ∀ k, k < 8 → vu V1 103 j (V1 103 j + nI 1) 103 k = a_bp ct j k := by
  intro k hk
  unfold a_bp upd
  by_cases e : k = j
  · subst e
    rw [vu_same, if_pos rfl, h k hk]
  · rw [vu_slot e, if_neg e, h k hk]
def z_fl (z : a_Z) : a_Z := (z.1, z.2.1, a_fl z.2.2.1 z.2.2.2.1, none, a_fc z.2.2.2.2.1 z.2.2.2.1, z.2.2.2.2.2)
theorem x_doOldest (h : cR V z) : mt_P sm_TC_doOldestRecord [.inr (some b)] (n, w, img b V f) (c_Qv n w b f (z_fl z) V (fun q => q = 63 ∨ 103 ≤ q ∧ q < 176)) := by
  obtain ⟨a1, a2, a3, ⟨p, hp, j1, j2⟩, a5, a6⟩ := id h
  refine mt_P_of ?_
  cases hz : z.2.2.2.1 with
  | none =>
    rw [hz] at j2
    simp only [k_TC_doOldestRecord_0, k_TC_doOldestRecord_7, k_TC_doOldestRecord_12, k_TC_doOldestRecord_25, k_TC_doOldestRecord_65, mt_kk, mt_l0, lget, lput, fnth, fset, gf, gi, ga, mt_is, mt_pop, g_nil, g_const, g_null, g_iload, g_aload, g_istore, g_astore, g_iinc, g_add, g_sub, g_mul, g_and, g_xor, g_div, g_rem, g_dup, g_dup2, g_pop, g_get, g_putI, g_putZ, g_putA, g_iald, g_zald, g_iast, g_zast, g_aald, g_aast, g_alen, g_new, g_newI, g_newA, g_objinit, l_fall, l_ifeq, l_ifne, l_iflt, l_ifge, l_ifgt, l_ifle, l_iceq, l_icne, l_iclt, l_icge, l_icgt, l_icle, l_nullN, l_nullS, l_nonnullN, l_nonnullS, l_acne, l_callV, l_callI, l_callS, l_ret, l_iret, l_zret, l_aret, l_after, List.length_cons, List.length_nil, Nat.reduceAdd, Nat.reduceLT, Nat.reduceLeDiff, Nat.reduceEqDiff, and_self, and_true, true_and, if_true, if_false, reduceIte, ite_true, ite_false, beq_self_eq_true, Nat.zero_add, Option.toList_some, Option.toList_none, List.cons_append, List.nil_append, if_0, if_63, x_Jo_take0 j2]
    refine ⟨V, rfl, ?_, ch_0⟩
    unfold z_fl
    rw [hz]
    obtain ⟨a1, a2, a3, a4, a5, a6⟩ := h
    rw [hz] at a4
    exact ⟨a1, a2, a3, a4, a5, a6⟩
  | some y =>
    rw [hz] at j2
    obtain ⟨j2, j3, j4, j5, j6, j7⟩ := j2
    obtain ⟨k1, k2, k3, k4, k5, k6⟩ := kd_file (12 + y.1) (by omega)
    have hir := iR_file (p := 12 + y.1) (by omega)
    obtain ⟨r1, r2, r3, r4, r5, r6⟩ := kd_rec p hp
    have hx7 := mt_ix_nI (j := 7) (n := 8) (by decide) (by decide)
    have t1 : ∀ k, vu (vu V 63 1 (nI ((p + 1) % 12))) 63 2 (nI 0) (65 + 3 * p) k = V (65 + 3 * p) k := fun k => by rw [up_ne (by omega), up_ne (by omega)]
    simp only [k_TC_doOldestRecord_0, k_TC_doOldestRecord_7, k_TC_doOldestRecord_16, k_TC_doOldestRecord_25, mt_kk, mt_l0, lget, lput, fnth, fset, gf, gi, ga, mt_is, mt_pop, g_nil, g_const, g_null, g_iload, g_aload, g_istore, g_astore, g_iinc, g_add, g_sub, g_mul, g_and, g_xor, g_div, g_rem, g_dup, g_dup2, g_pop, g_get, g_putI, g_putZ, g_putA, g_iald, g_zald, g_iast, g_zast, g_aald, g_aast, g_alen, g_new, g_newI, g_newA, g_objinit, l_fall, l_ifeq, l_ifne, l_iflt, l_ifge, l_ifgt, l_ifle, l_iceq, l_icne, l_iclt, l_icge, l_icgt, l_icle, l_nullN, l_nullS, l_nonnullN, l_nonnullS, l_acne, l_callV, l_callI, l_callS, l_ret, l_iret, l_zret, l_aret, l_after, List.length_cons, List.length_nil, Nat.reduceAdd, Nat.reduceLT, Nat.reduceLeDiff, Nat.reduceEqDiff, and_self, and_true, true_and, if_true, if_false, reduceIte, ite_true, ite_false, beq_self_eq_true, Nat.zero_add, Option.toList_some, Option.toList_none, List.cons_append, List.nil_append, if_0, if_63, x_Jo_take hp j1 j2, im_Jr r2 r1, t1, j4, x_slot1 j3]
    simp only [k_TC_doOldestRecord_30, mt_kk, mt_l0, lget, lput, fnth, fset, gf, gi, ga, mt_is, mt_pop, g_nil, g_const, g_null, g_iload, g_aload, g_istore, g_astore, g_iinc, g_add, g_sub, g_mul, g_and, g_xor, g_div, g_rem, g_dup, g_dup2, g_pop, g_get, g_putI, g_putZ, g_putA, g_iald, g_zald, g_iast, g_zast, g_aald, g_aast, g_alen, g_new, g_newI, g_newA, g_objinit, l_fall, l_ifeq, l_ifne, l_iflt, l_ifge, l_ifgt, l_ifle, l_iceq, l_icne, l_iclt, l_icge, l_icgt, l_icle, l_nullN, l_nullS, l_nonnullN, l_nonnullS, l_acne, l_callV, l_callI, l_callS, l_ret, l_iret, l_zret, l_aret, l_after, List.length_cons, List.length_nil, Nat.reduceAdd, Nat.reduceLT, Nat.reduceLeDiff, Nat.reduceEqDiff, and_self, and_true, true_and, if_true, if_false, reduceIte, ite_true, ite_false, beq_self_eq_true, Nat.zero_add, Option.toList_some, Option.toList_none, List.cons_append, List.nil_append, im_Sf k2 k1, pf_Sf_1 k2 k1, z_1, im_Jr r2 r1, im_Ro k4 k3]
    have hrec : rR (vu (vu (vu V 63 1 (nI ((p + 1) % 12))) 63 2 (nI 0)) (104 + 3 * (12 + y.1)) 1 (nI 1)) (65 + 3 * p + 1) y.2.1 := rR_congr (by rw [vu_off (by omega), vu_off (by omega), vu_off (by omega)]) (by rw [vu_off (by omega), vu_off (by omega), vu_off (by omega)]) j6
    refine mt_call (x_become hir (iR_rec hp) ⟨by omega, by omega, by omega⟩ j7.1 hrec) ?_
    rintro r ⟨V1, rfl, g1, g2⟩
    have e1 : V1 (65 + 3 * p) 2 = y.2.2 := by
      rw [g2 _ (by omega) (by omega), up_ne (by omega), t1]
      exact j5
    simp only [k_TC_doOldestRecord_46, k_TC_doOldestRecord_65, mt_kk, mt_l0, lget, lput, fnth, fset, gf, gi, ga, mt_is, mt_pop, g_nil, g_const, g_null, g_iload, g_aload, g_istore, g_astore, g_iinc, g_add, g_sub, g_mul, g_and, g_xor, g_div, g_rem, g_dup, g_dup2, g_pop, g_get, g_putI, g_putZ, g_putA, g_iald, g_zald, g_iast, g_zast, g_aald, g_aast, g_alen, g_new, g_newI, g_newA, g_objinit, l_fall, l_ifeq, l_ifne, l_iflt, l_ifge, l_ifgt, l_ifle, l_iceq, l_icne, l_iclt, l_icge, l_icgt, l_icle, l_nullN, l_nullS, l_nonnullN, l_nonnullS, l_acne, l_callV, l_callI, l_callS, l_ret, l_iret, l_zret, l_aret, l_after, List.length_cons, List.length_nil, Nat.reduceAdd, Nat.reduceLT, Nat.reduceLeDiff, Nat.reduceEqDiff, and_self, and_true, true_and, if_true, if_false, reduceIte, ite_true, ite_false, beq_self_eq_true, Nat.zero_add, Option.toList_some, Option.toList_none, List.cons_append, List.nil_append, if_0, im_Sf k2 k1, im_Jr r2 r1, pf_Sf_2 k2 k1, e1, if_103, hx7, uf_103]
    have gg : ∀ q, q ≠ 63 → q ≠ 103 → q ≠ 104 + 3 * (12 + y.1) → q ≠ 104 + 3 * (12 + y.1) + 1 → q ≠ 104 + 3 * (12 + y.1) + 1 + 1 → vu (vu V1 (104 + 3 * (12 + y.1)) 2 y.2.2) 103 7 (vu V1 (104 + 3 * (12 + y.1)) 2 y.2.2 103 7 + nI 1) q = V q := fun q q1 q2 q3 q4 q5 => by
      rw [vu_off q2, vu_off q3, g2 q q4 q5, vu_off q3, vu_off q1, vu_off q1]
    refine ⟨_, rfl, ⟨?_, ?_, ?_, ?_, ?_, ?_⟩, ?_⟩
    · rw [gg 0 (by omega) (by omega) (by omega) (by omega) (by omega)]; exact a1
    · exact uR_congr (fun q q1 q2 => gg q (by omega) (by omega) (by omega) (by omega) (by omega)) a2
    · intro i hi
      show fR _ (104 + 3 * i) (a_fl z.2.2.1 z.2.2.2.1 i)
      rw [hz]
      show fR _ (104 + 3 * i) (va_up z.2.2.1 (12 + y.1) (some (y.2.1, y.2.2)) i)
      unfold va_up
      by_cases hii : i = 12 + y.1
      · subst hii
        rw [if_pos rfl]
        refine ⟨?_, ?_, ?_, j7⟩
        · rw [up_ne (by omega), vu_slot (by decide), g2 _ (by omega) (by omega), vu_same]
        · rw [up_ne (by omega), vu_same]
        · exact rR_congr (by rw [vu_off (by omega), vu_off (by omega)]) (by rw [vu_off (by omega), vu_off (by omega)]) g1
      · rw [if_neg hii]
        exact fR_congr (fun q q1 q2 => gg q (by omega) (by omega) (by omega) (by omega) (by omega)) (a3 i hi)
    · refine ⟨(p + 1) % 12, Nat.mod_lt _ (by decide), ?_, ?_⟩
      · rw [up_ne (by omega), up_ne (by omega), g2 _ (by omega) (by omega), up_ne (by omega), vu_slot (by decide), vu_same]
      · show _ = nI 0
        rw [up_ne (by omega), up_ne (by omega), g2 _ (by omega) (by omega), up_ne (by omega), vu_same]
    · show ∀ k, k < 8 → _ = a_fc z.2.2.2.2.1 z.2.2.2.1 k
      rw [hz]
      refine ct_bp (by decide) (fun k hk => ?_)
      rw [up_ne (by omega), g2 _ (by omega) (by omega), up_ne (by omega), up_ne (by omega), up_ne (by omega)]
      exact a5 k hk
    · exact sR_congr (fun k _ => by rw [gg 0 (by omega) (by omega) (by omega) (by omega) (by omega)]) (fun q q1 q2 => gg q (by omega) (by omega) (by omega) (by omega) (by omega)) (fun q q1 q2 => gg q (by omega) (by omega) (by omega) (by omega) (by omega)) a6
    · intro q hq
      exact gg q (by omega) (by omega) (by omega) (by omega) (by omega)
theorem x_doAll (h : cR V z) : mt_P sm_TC_doAllRecords [.inr (some b)] (n, w, img b V f) (c_Qv n w b f (z_fl z) V (fun q => q = 63 ∨ 103 ≤ q ∧ q < 176)) := by
  obtain ⟨a1, a2, a3, ⟨p, hp, j1, j2⟩, a5, a6⟩ := id h
  refine mt_P_of ?_
  cases hz : z.2.2.2.1 with
  | none =>
    rw [hz] at j2
    have j2 : V 63 2 = nI 0 := j2
    simp only [k_TC_doAllRecords_0, k_TC_doAllRecords_10, k_TC_doAllRecords_25, mt_kk, mt_l0, lget, lput, fnth, fset, gf, gi, ga, mt_is, mt_pop, g_nil, g_const, g_null, g_iload, g_aload, g_istore, g_astore, g_iinc, g_add, g_sub, g_mul, g_and, g_xor, g_div, g_rem, g_dup, g_dup2, g_pop, g_get, g_putI, g_putZ, g_putA, g_iald, g_zald, g_iast, g_zast, g_aald, g_aast, g_alen, g_new, g_newI, g_newA, g_objinit, l_fall, l_ifeq, l_ifne, l_iflt, l_ifge, l_ifgt, l_ifle, l_iceq, l_icne, l_iclt, l_icge, l_icgt, l_icle, l_nullN, l_nullS, l_nonnullN, l_nonnullS, l_acne, l_callV, l_callI, l_callS, l_ret, l_iret, l_zret, l_aret, l_after, List.length_cons, List.length_nil, Nat.reduceAdd, Nat.reduceLT, Nat.reduceLeDiff, Nat.reduceEqDiff, and_self, and_true, true_and, if_true, if_false, reduceIte, ite_true, ite_false, beq_self_eq_true, Nat.zero_add, Option.toList_some, Option.toList_none, List.cons_append, List.nil_append, if_0, if_63, j2, eq_true (show nI 0 ≤ nI 0 by decide)]
    refine ⟨V, rfl, ?_, ch_0⟩
    unfold z_fl
    rw [hz]
    obtain ⟨a1, a2, a3, a4, a5, a6⟩ := h
    rw [hz] at a4
    exact ⟨a1, a2, a3, a4, a5, a6⟩
  | some y =>
    rw [hz] at j2
    have j2 : V 63 2 = nI 1 := j2.1
    simp only [k_TC_doAllRecords_0, k_TC_doAllRecords_10, k_TC_doAllRecords_15, mt_kk, mt_l0, lget, lput, fnth, fset, gf, gi, ga, mt_is, mt_pop, g_nil, g_const, g_null, g_iload, g_aload, g_istore, g_astore, g_iinc, g_add, g_sub, g_mul, g_and, g_xor, g_div, g_rem, g_dup, g_dup2, g_pop, g_get, g_putI, g_putZ, g_putA, g_iald, g_zald, g_iast, g_zast, g_aald, g_aast, g_alen, g_new, g_newI, g_newA, g_objinit, l_fall, l_ifeq, l_ifne, l_iflt, l_ifge, l_ifgt, l_ifle, l_iceq, l_icne, l_iclt, l_icge, l_icgt, l_icle, l_nullN, l_nullS, l_nonnullN, l_nonnullS, l_acne, l_callV, l_callI, l_callS, l_ret, l_iret, l_zret, l_aret, l_after, List.length_cons, List.length_nil, Nat.reduceAdd, Nat.reduceLT, Nat.reduceLeDiff, Nat.reduceEqDiff, and_self, and_true, true_and, if_true, if_false, reduceIte, ite_true, ite_false, beq_self_eq_true, Nat.zero_add, Option.toList_some, Option.toList_none, List.cons_append, List.nil_append, if_0, if_63, j2, eq_false (show ¬ nI 1 ≤ nI 0 by decide)]
    refine mt_call (x_doOldest h) ?_
    rintro r ⟨V1, rfl, h1, h2⟩
    simp only [k_TC_doAllRecords_19, k_TC_doAllRecords_10, k_TC_doAllRecords_25, mt_kk, mt_l0, lget, lput, fnth, fset, gf, gi, ga, mt_is, mt_pop, g_nil, g_const, g_null, g_iload, g_aload, g_istore, g_astore, g_iinc, g_add, g_sub, g_mul, g_and, g_xor, g_div, g_rem, g_dup, g_dup2, g_pop, g_get, g_putI, g_putZ, g_putA, g_iald, g_zald, g_iast, g_zast, g_aald, g_aast, g_alen, g_new, g_newI, g_newA, g_objinit, l_fall, l_ifeq, l_ifne, l_iflt, l_ifge, l_ifgt, l_ifle, l_iceq, l_icne, l_iclt, l_icge, l_icgt, l_icle, l_nullN, l_nullS, l_nonnullN, l_nonnullS, l_acne, l_callV, l_callI, l_callS, l_ret, l_iret, l_zret, l_aret, l_after, List.length_cons, List.length_nil, Nat.reduceAdd, Nat.reduceLT, Nat.reduceLeDiff, Nat.reduceEqDiff, and_self, and_true, true_and, if_true, if_false, reduceIte, ite_true, ite_false, beq_self_eq_true, Nat.zero_add, Option.toList_some, Option.toList_none, List.cons_append, List.nil_append, nI_add, eq_true (show nI 1 ≤ nI 1 by decide)]
    exact ⟨V1, rfl, h1, h2⟩
end TC
