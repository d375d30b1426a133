/-! The class: the entries that a beginning sends; begin. -/
theorem en_len {fs : Nat → a_F} {rl : a_R} : ∀ (i : Nat), (a_en fs rl i).length ≤ i
  | 0 => Nat.le_refl _
  | i + 1 => by
    have h := en_len (fs := fs) (rl := rl) i
    simp only [a_en, List.length_append]
    cases fs i with
    | none => simp only [List.length_nil]; omega
    | some y =>
      simp only []
      split
      · simp only [List.length_cons, List.length_nil]; omega
      · simp only [List.length_nil]; omega
section TC
variable {n w b : Nat} {f : Nat → Option m_E}
/-- a message of a kind that is all told by kind and name, or by a few fields more, behind the others -/
theorem lR_new {V V1 : v_N} {o p : Nat} {ls : List a_M} {m : a_M} (h : lP V o p ls) (hl : ls.length < 13) (h1 : V1 o 1 = V o 1) (h2 : V1 o 2 = nI (ls.length + 1)) (hk : ∀ q, o + 1 < q → q < o + 28 → q ≠ o + 1 + 1 + 2 * ((p + ls.length) % 13) → q ≠ o + 1 + 1 + 2 * ((p + ls.length) % 13) + 1 → V1 q = V q) (hm : mR V1 (o + 1 + 1 + 2 * ((p + ls.length) % 13)) m) : lR V1 o (ls ++ [m]) :=
  lR_of (lP_add (lP_keep h hl h1 hk) hl hm) (by rw [h2, List.length_append]; rfl)
theorem lp_send {V0 : v_N} {fs : Nat → a_F} {rl : a_R} (hu : uR V0 rl) (hf : ∀ i, i < 24 → fR V0 (104 + 3 * i) (fs i)) (Q : m_R → Prop) (hq : ∀ V1, lR V1 34 (a_en fs rl 12 ++ [a_end]) → ch V0 V1 (fun q => 34 ≤ q ∧ q < 62) → Q (none, (n, w, img b V1 f))) (d : Nat) : ∀ (i : Nat) (V : v_N) (j2 j3 : Option m_V), i + d = 12 → lR V 34 (a_en fs rl i) → ch V0 V (fun q => 34 ≤ q ∧ q < 62) → mt_T cd_TC_sendEntries 2 ([some (.inr (some b)), some (.inl (nI i)), j2, j3], [], (n, w, img b V f)) Q := by
  induction d with
  | zero =>
    intro i V j2 j3 hd h1 h2
    have hd : i = 12 := hd
    subst hd
    have hlen := en_len (fs := fs) (rl := rl) 12
    obtain ⟨p, hP, hc⟩ := lP_of h1
    have hpm := Nat.mod_lt (p + (a_en fs rl 12).length) (show 0 < 13 by decide)
    simp only [k_TC_sendEntries_2, k_TC_sendEntries_65, k_TC_sendEntries_74, mt_kk, mt_l0, lget, lput, fnth, fset, gf, gi, ga, mt_is, mt_pop, g_nil, g_const, g_null, g_iload, g_aload, g_istore, g_astore, g_iinc, g_add, g_sub, g_mul, g_and, g_xor, g_div, g_rem, g_dup, g_dup2, g_pop, g_get, g_putI, g_putZ, g_putA, g_iald, g_zald, g_iast, g_zast, g_aald, g_aast, g_alen, g_new, g_newI, g_newA, g_objinit, l_fall, l_ifeq, l_ifne, l_iflt, l_ifge, l_ifgt, l_ifle, l_iceq, l_icne, l_iclt, l_icge, l_icgt, l_icle, l_nullN, l_nullS, l_nonnullN, l_nonnullS, l_acne, l_callV, l_callI, l_callS, l_ret, l_iret, l_zret, l_aret, l_after, List.length_cons, List.length_nil, Nat.reduceAdd, Nat.reduceLT, Nat.reduceLeDiff, Nat.reduceEqDiff, and_self, and_true, true_and, if_true, if_false, reduceIte, ite_true, ite_false, beq_self_eq_true, Nat.zero_add, Option.toList_some, Option.toList_none, List.cons_append, List.nil_append, nI_leE (a := 12) (b := 12) (by decide) (by decide), Nat.le_refl, if_0, if_34, x_Li_append (Or.inr rfl) hP.1 (show (a_en fs rl 12).length < 13 by omega) hP.2.1 hc]
    refine hq _ ?_ ?_
    · refine lR_new (m := a_end) hP (by omega) ?_ vu_same ?_ ?_
      · rw [vu_slot (by decide), up_ne (by omega), up_ne (by omega), up_ne (by omega)]
      · intro q q1 q2 q3 q4
        rw [vu_off (by omega), vu_off q3, vu_off q3, vu_off q3]
      · refine ⟨?_, ?_, fun e => (by cases e), fun e => (by rcases e with e | e <;> cases e), fun e => (by cases e)⟩
        · rw [up_ne (by omega), vu_slot (by decide), vu_slot (by decide), vu_same]; rfl
        · rw [up_ne (by omega), vu_slot (by decide), vu_same]; rfl
    · exact ch_u (ch_u (ch_u (ch_u h2 (by omega)) (by omega)) (by omega)) (by omega)
  | succ d ih =>
    intro i V j2 j3 hd h1 h2
    have hi : i < 12 := by omega
    obtain ⟨k1, k2, k3, k4, -⟩ := kd_file i (by omega)
    have hfi : fR V (104 + 3 * i) (fs i) := fR_congr (fun q q1 q2 => h2 q (by omega)) (hf i (by omega))
    have hu2 : uR V rl := uR_congr (fun q q1 q2 => h2 q (by omega)) hu
    have hlen := en_len (fs := fs) (rl := rl) i
    rw [k_TC_sendEntries_2]
    cases hx : fs i with
    | none =>
      rw [hx] at hfi
      simp only [k_TC_sendEntries_8, k_TC_sendEntries_14, k_TC_sendEntries_59, mt_kk, mt_l0, lget, lput, fnth, fset, gf, gi, ga, mt_is, mt_pop, g_nil, g_const, g_null, g_iload, g_aload, g_istore, g_astore, g_iinc, g_add, g_sub, g_mul, g_and, g_xor, g_div, g_rem, g_dup, g_dup2, g_pop, g_get, g_putI, g_putZ, g_putA, g_iald, g_zald, g_iast, g_zast, g_aald, g_aast, g_alen, g_new, g_newI, g_newA, g_objinit, l_fall, l_ifeq, l_ifne, l_iflt, l_ifge, l_ifgt, l_ifle, l_iceq, l_icne, l_iclt, l_icge, l_icgt, l_icle, l_nullN, l_nullS, l_nonnullN, l_nonnullS, l_acne, l_callV, l_callI, l_callS, l_ret, l_iret, l_zret, l_aret, l_after, List.length_cons, List.length_nil, Nat.reduceAdd, Nat.reduceLT, Nat.reduceLeDiff, Nat.reduceEqDiff, and_self, and_true, true_and, if_true, if_false, reduceIte, ite_true, ite_false, beq_self_eq_true, Nat.zero_add, Option.toList_some, Option.toList_none, List.cons_append, List.nil_append, eq_false (nI_ge hi (show 12 < 2 ^ 31 by decide)), if_0, x_file0z hi hfi.1, nI_add]
      refine ih (i + 1) V _ _ (by omega) ?_ h2
      simp only [a_en, hx, List.append_nil]
      exact h1
    | some y =>
      rw [hx] at hfi
      cases hs : a_sl rl i with
      | false =>
        simp only [k_TC_sendEntries_8, k_TC_sendEntries_14, k_TC_sendEntries_19, k_TC_sendEntries_27, k_TC_sendEntries_59, mt_kk, mt_l0, lget, lput, fnth, fset, gf, gi, ga, mt_is, mt_pop, g_nil, g_const, g_null, g_iload, g_aload, g_istore, g_astore, g_iinc, g_add, g_sub, g_mul, g_and, g_xor, g_div, g_rem, g_dup, g_dup2, g_pop, g_get, g_putI, g_putZ, g_putA, g_iald, g_zald, g_iast, g_zast, g_aald, g_aast, g_alen, g_new, g_newI, g_newA, g_objinit, l_fall, l_ifeq, l_ifne, l_iflt, l_ifge, l_ifgt, l_ifle, l_iceq, l_icne, l_iclt, l_icge, l_icgt, l_icle, l_nullN, l_nullS, l_nonnullN, l_nonnullS, l_acne, l_callV, l_callI, l_callS, l_ret, l_iret, l_zret, l_aret, l_after, List.length_cons, List.length_nil, Nat.reduceAdd, Nat.reduceLT, Nat.reduceLeDiff, Nat.reduceEqDiff, and_self, and_true, true_and, if_true, if_false, reduceIte, ite_true, ite_false, beq_self_eq_true, Nat.zero_add, Option.toList_some, Option.toList_none, List.cons_append, List.nil_append, eq_false (nI_ge hi (show 12 < 2 ^ 31 by decide)), if_0, if_2, x_file0 hi hfi.1, x_select hu2, hs, bI_f, e_0, nI_add]
        refine ih (i + 1) V _ _ (by omega) ?_ h2
        simp only [a_en, hx, hs, Bool.false_eq_true, if_false, List.append_nil]
        exact h1
      | true =>
        obtain ⟨p, hP, hc⟩ := lP_of h1
        have hpm := Nat.mod_lt (p + (a_en fs rl i).length) (show 0 < 13 by decide)
        obtain ⟨m1, m2, -⟩ := iL_ms (o := 34) (Or.inr rfl) hpm
        simp only [k_TC_sendEntries_8, k_TC_sendEntries_14, k_TC_sendEntries_19, k_TC_sendEntries_27, k_TC_sendEntries_30, k_TC_sendEntries_39, k_TC_sendEntries_59, mt_kk, mt_l0, lget, lput, fnth, fset, gf, gi, ga, mt_is, mt_pop, g_nil, g_const, g_null, g_iload, g_aload, g_istore, g_astore, g_iinc, g_add, g_sub, g_mul, g_and, g_xor, g_div, g_rem, g_dup, g_dup2, g_pop, g_get, g_putI, g_putZ, g_putA, g_iald, g_zald, g_iast, g_zast, g_aald, g_aast, g_alen, g_new, g_newI, g_newA, g_objinit, l_fall, l_ifeq, l_ifne, l_iflt, l_ifge, l_ifgt, l_ifle, l_iceq, l_icne, l_iclt, l_icge, l_icgt, l_icle, l_nullN, l_nullS, l_nonnullN, l_nonnullS, l_acne, l_callV, l_callI, l_callS, l_ret, l_iret, l_zret, l_aret, l_after, List.length_cons, List.length_nil, Nat.reduceAdd, Nat.reduceLT, Nat.reduceLeDiff, Nat.reduceEqDiff, and_self, and_true, true_and, if_true, if_false, reduceIte, ite_true, ite_false, beq_self_eq_true, Nat.zero_add, Option.toList_some, Option.toList_none, List.cons_append, List.nil_append, eq_false (nI_ge hi (show 12 < 2 ^ 31 by decide)), if_0, if_2, if_34, x_file0 hi hfi.1, x_select hu2, hs, bI_t, e_1, nI_add, x_Li_append (Or.inr rfl) hP.1 (show (a_en fs rl i).length < 13 by omega) hP.2.1 hc, im_Sf k2 k1, im_Ro k4 k3, pf_Ms_2 m2 m1, pf_Ms_3 m2 m1]
        refine ih (i + 1) _ _ _ (by omega) ?_ (ch_u (ch_u (ch_u (ch_u (ch_u (ch_u h2 (by omega)) (by omega)) (by omega)) (by omega)) (by omega)) (by omega))
        simp only [a_en, hx, hs, if_true]
        refine lR_new hP (by omega) ?_ ?_ ?_ ?_
        · rw [up_ne (by omega), up_ne (by omega), vu_slot (by decide), up_ne (by omega), up_ne (by omega), up_ne (by omega)]
        · rw [up_ne (by omega), up_ne (by omega), vu_same]
        · intro q q1 q2 q3 q4
          rw [vu_off q3, vu_off q3, vu_off (by omega), vu_off q3, vu_off q3, vu_off q3]
        · refine ⟨?_, ?_, fun _ => ⟨?_, ?_⟩, fun e => (by rcases e with e | e <;> cases e), fun e => (by cases e)⟩
          · rw [vu_slot (by decide), vu_slot (by decide), up_ne (by omega), vu_slot (by decide), vu_slot (by decide), vu_same]
          · rw [vu_slot (by decide), vu_slot (by decide), up_ne (by omega), vu_slot (by decide), vu_same]
          · rw [vu_slot (by decide), vu_same, up_ne (by omega), up_ne (by omega), up_ne (by omega), up_ne (by omega)]
            exact hfi.2.2.1.1
          · rw [vu_same, up_ne (by omega), up_ne (by omega), up_ne (by omega), up_ne (by omega), up_ne (by omega)]
            exact hfi.2.1
theorem x_send {V : v_N} {fs : Nat → a_F} {rl : a_R} (hu : uR V rl) (hf : ∀ i, i < 24 → fR V (104 + 3 * i) (fs i)) (hl : lR V 34 []) : mt_P sm_TC_sendEntries [.inr (some b)] (n, w, img b V f) (fun r => ∃ V1, r = (none, (n, w, img b V1 f)) ∧ lR V1 34 (a_en fs rl 12 ++ [a_end]) ∧ ch V V1 (fun q => 34 ≤ q ∧ q < 62)) := by
  refine mt_P_of ?_
  simp only [k_TC_sendEntries_0, mt_kk, mt_l0, lget, lput, fnth, fset, gf, gi, ga, mt_is, mt_pop, g_nil, g_const, g_null, g_iload, g_aload, g_istore, g_astore, g_iinc, g_add, g_sub, g_mul, g_and, g_xor, g_div, g_rem, g_dup, g_dup2, g_pop, g_get, g_putI, g_putZ, g_putA, g_iald, g_zald, g_iast, g_zast, g_aald, g_aast, g_alen, g_new, g_newI, g_newA, g_objinit, l_fall, l_ifeq, l_ifne, l_iflt, l_ifge, l_ifgt, l_ifle, l_iceq, l_icne, l_iclt, l_icge, l_icgt, l_icle, l_nullN, l_nullS, l_nonnullN, l_nonnullS, l_acne, l_callV, l_callI, l_callS, l_ret, l_iret, l_zret, l_aret, l_after, List.length_cons, List.length_nil, Nat.reduceAdd, Nat.reduceLT, Nat.reduceLeDiff, Nat.reduceEqDiff, and_self, and_true, true_and, if_true, if_false, reduceIte, ite_true, ite_false, beq_self_eq_true, Nat.zero_add, Option.toList_some, Option.toList_none, List.cons_append, List.nil_append]
  exact lp_send hu hf _ (fun V1 h1 h2 => ⟨V1, rfl, h1, h2⟩) 12 0 V none none (by omega) hl ch_0
def s_begin (z : a_Z) (bk : Int32) (del : Bool) : Int32 × a_Z := match z.2.2.2.2.2 with
  | some _ => (nI 0, z)
  | none => if bk < nI 1 ∨ ¬ bk ≤ nI 8 then (nI 0, z) else (nI 1, (z.1, z.2.1, (z_fl z).2.2.1, none, (z_fl z).2.2.2.2.1, some (bk.toNatClampNeg, del, false, fun _ => none, fun _ => false, [], a_en (z_fl z).2.2.1 z.2.1 12 ++ [a_end])))
theorem p_begin {V : v_N} {z : a_Z} {bk : Int32} {del : Bool} (h : cR V z) : mt_P sm_TC_begin [.inr (some b), .inl bk, .inl (bI del)] (n, w, img b V f) (c_Q (s_begin z bk del).1 n w b f (s_begin z bk del).2) := by
  refine mt_P_of ?_
  have ho := sR_on h
  cases hz : z.2.2.2.2.2 with
  | some y =>
    simp only [q_on, hz] at ho
    simp only [k_TC_begin_0, k_TC_begin_18, mt_kk, mt_l0, lget, lput, fnth, fset, gf, gi, ga, mt_is, mt_pop, g_nil, g_const, g_null, g_iload, g_aload, g_istore, g_astore, g_iinc, g_add, g_sub, g_mul, g_and, g_xor, g_div, g_rem, g_dup, g_dup2, g_pop, g_get, g_putI, g_putZ, g_putA, g_iald, g_zald, g_iast, g_zast, g_aald, g_aast, g_alen, g_new, g_newI, g_newA, g_objinit, l_fall, l_ifeq, l_ifne, l_iflt, l_ifge, l_ifgt, l_ifle, l_iceq, l_icne, l_iclt, l_icge, l_icgt, l_icle, l_nullN, l_nullS, l_nonnullN, l_nonnullS, l_acne, l_callV, l_callI, l_callS, l_ret, l_iret, l_zret, l_aret, l_after, List.length_cons, List.length_nil, Nat.reduceAdd, Nat.reduceLT, Nat.reduceLeDiff, Nat.reduceEqDiff, and_self, and_true, true_and, if_true, if_false, reduceIte, ite_true, ite_false, beq_self_eq_true, Nat.zero_add, Option.toList_some, Option.toList_none, List.cons_append, List.nil_append, if_0, ho, e_1, z_0, s_begin, hz]
    exact ⟨V, rfl, h⟩
  | none =>
    simp only [q_on, hz] at ho
    by_cases hb : bk < nI 1
    · simp only [k_TC_begin_0, k_TC_begin_7, k_TC_begin_18, mt_kk, mt_l0, lget, lput, fnth, fset, gf, gi, ga, mt_is, mt_pop, g_nil, g_const, g_null, g_iload, g_aload, g_istore, g_astore, g_iinc, g_add, g_sub, g_mul, g_and, g_xor, g_div, g_rem, g_dup, g_dup2, g_pop, g_get, g_putI, g_putZ, g_putA, g_iald, g_zald, g_iast, g_zast, g_aald, g_aast, g_alen, g_new, g_newI, g_newA, g_objinit, l_fall, l_ifeq, l_ifne, l_iflt, l_ifge, l_ifgt, l_ifle, l_iceq, l_icne, l_iclt, l_icge, l_icgt, l_icle, l_nullN, l_nullS, l_nonnullN, l_nonnullS, l_acne, l_callV, l_callI, l_callS, l_ret, l_iret, l_zret, l_aret, l_after, List.length_cons, List.length_nil, Nat.reduceAdd, Nat.reduceLT, Nat.reduceLeDiff, Nat.reduceEqDiff, and_self, and_true, true_and, if_true, if_false, reduceIte, ite_true, ite_false, beq_self_eq_true, Nat.zero_add, Option.toList_some, Option.toList_none, List.cons_append, List.nil_append, if_0, ho, e_0, z_0, s_begin, hz, hb, true_or]
      exact ⟨V, rfl, h⟩
    · by_cases hb2 : bk ≤ nI 8
      · have hbx : ∃ j : Nat, 1 ≤ j ∧ j ≤ 8 ∧ bk = nI j := by
          rcases pk_ix bk (n := 9) (by decide) with h9 | h9 | ⟨j, hj, rfl⟩
          · exfalso
            rw [Int32.lt_iff_toInt_lt] at h9 hb
            have e1 : (nI 1).toInt = 1 := by decide
            have e0 : (0 : Int32).toInt = 0 := by decide
            omega
          · exfalso
            rw [Int32.le_iff_toInt_le] at h9 hb2
            have e1 : (nI 9).toInt = 9 := by decide
            have e0 : (nI 8).toInt = 8 := by decide
            omega
          · refine ⟨j, ?_, by omega, rfl⟩
            rw [nI_ltE (by omega) (by decide)] at hb
            omega
        obtain ⟨j, hj1, hj8, rfl⟩ := hbx
        have hcl : (nI j).toNatClampNeg = j := nI_clamp (by omega)
        simp only [k_TC_begin_0, k_TC_begin_7, k_TC_begin_12, k_TC_begin_20, mt_kk, mt_l0, lget, lput, fnth, fset, gf, gi, ga, mt_is, mt_pop, g_nil, g_const, g_null, g_iload, g_aload, g_istore, g_astore, g_iinc, g_add, g_sub, g_mul, g_and, g_xor, g_div, g_rem, g_dup, g_dup2, g_pop, g_get, g_putI, g_putZ, g_putA, g_iald, g_zald, g_iast, g_zast, g_aald, g_aast, g_alen, g_new, g_newI, g_newA, g_objinit, l_fall, l_ifeq, l_ifne, l_iflt, l_ifge, l_ifgt, l_ifle, l_iceq, l_icne, l_iclt, l_icge, l_icgt, l_icle, l_nullN, l_nullS, l_nonnullN, l_nonnullS, l_acne, l_callV, l_callI, l_callS, l_ret, l_iret, l_zret, l_aret, l_after, List.length_cons, List.length_nil, Nat.reduceAdd, Nat.reduceLT, Nat.reduceLeDiff, Nat.reduceEqDiff, and_self, and_true, true_and, if_true, if_false, reduceIte, ite_true, ite_false, beq_self_eq_true, Nat.zero_add, Option.toList_some, Option.toList_none, List.cons_append, List.nil_append, if_0, ho, e_0, s_begin, hz, hb, hb2, not_true_eq_false, or_false]
        refine mt_call (x_doAll h) ?_
        rintro r ⟨V1, rfl, h1, h2⟩
        obtain ⟨a1, a2, a3, a4, a5, a6⟩ := h1
        have a6 : sR V1 none := by rw [← hz]; exact a6
        obtain ⟨s1, s2, s3, s4⟩ := a6
        simp only [k_TC_begin_24, mt_kk, mt_l0, lget, lput, fnth, fset, gf, gi, ga, mt_is, mt_pop, g_nil, g_const, g_null, g_iload, g_aload, g_istore, g_astore, g_iinc, g_add, g_sub, g_mul, g_and, g_xor, g_div, g_rem, g_dup, g_dup2, g_pop, g_get, g_putI, g_putZ, g_putA, g_iald, g_zald, g_iast, g_zast, g_aald, g_aast, g_alen, g_new, g_newI, g_newA, g_objinit, l_fall, l_ifeq, l_ifne, l_iflt, l_ifge, l_ifgt, l_ifle, l_iceq, l_icne, l_iclt, l_icge, l_icgt, l_icle, l_nullN, l_nullS, l_nonnullN, l_nonnullS, l_acne, l_callV, l_callI, l_callS, l_ret, l_iret, l_zret, l_aret, l_after, List.length_cons, List.length_nil, Nat.reduceAdd, Nat.reduceLT, Nat.reduceLeDiff, Nat.reduceEqDiff, and_self, and_true, true_and, if_true, if_false, reduceIte, ite_true, ite_false, beq_self_eq_true, Nat.zero_add, Option.toList_some, Option.toList_none, List.cons_append, List.nil_append, if_0, pf_0_9, pf_0_10, pf_0_11, z_1, bI_z]
        have gg : ∀ q, q ≠ 0 → vu (vu (vu V1 0 9 (nI 1)) 0 10 (bI del)) 0 11 (nI j) q = V1 q := fun q hq => by rw [vu_off hq, vu_off hq, vu_off hq]
        refine mt_call (x_send (uR_congr (fun q q1 q2 => gg q (by omega)) a2) (fun i hi => fR_congr (fun q q1 q2 => gg q (by omega)) (a3 i hi)) (lR_congr (fun q q1 q2 => gg q (by omega)) s3)) ?_
        rintro r ⟨V2, rfl, g1, g2⟩
        simp only [k_TC_begin_43, mt_kk, mt_l0, lget, lput, fnth, fset, gf, gi, ga, mt_is, mt_pop, g_nil, g_const, g_null, g_iload, g_aload, g_istore, g_astore, g_iinc, g_add, g_sub, g_mul, g_and, g_xor, g_div, g_rem, g_dup, g_dup2, g_pop, g_get, g_putI, g_putZ, g_putA, g_iald, g_zald, g_iast, g_zast, g_aald, g_aast, g_alen, g_new, g_newI, g_newA, g_objinit, l_fall, l_ifeq, l_ifne, l_iflt, l_ifge, l_ifgt, l_ifle, l_iceq, l_icne, l_iclt, l_icge, l_icgt, l_icle, l_nullN, l_nullS, l_nonnullN, l_nonnullS, l_acne, l_callV, l_callI, l_callS, l_ret, l_iret, l_zret, l_aret, l_after, List.length_cons, List.length_nil, Nat.reduceAdd, Nat.reduceLT, Nat.reduceLeDiff, Nat.reduceEqDiff, and_self, and_true, true_and, if_true, if_false, reduceIte, ite_true, ite_false, beq_self_eq_true, Nat.zero_add, Option.toList_some, Option.toList_none, List.cons_append, List.nil_append, z_1]
        have gh : ∀ q, q ≠ 0 → q < 34 ∨ 62 ≤ q → V2 q = V1 q := fun q hq hq2 => by rw [g2 q (by omega), gg q hq]
        have g0 : V2 0 = vu (vu (vu V1 0 9 (nI 1)) 0 10 (bI del)) 0 11 (nI j) 0 := g2 0 (by omega)
        refine ⟨V2, rfl, ?_, uR_congr (fun q q1 q2 => gh q (by omega) (by omega)) a2, fun i hi => fR_congr (fun q q1 q2 => gh q (by omega) (by omega)) (a3 i hi), jR_congr (fun q q1 q2 => gh q (by omega) (by omega)) a4, fun k hk => ?_, ?_, ?_, ?_, ?_, ?_, ?_, ?_, fun k hk => ?_⟩
        · rw [g0, vu_slot (by decide), vu_slot (by decide), vu_slot (by decide)]; exact a1
        · rw [gh 103 (by decide) (by decide)]; exact a5 k hk
        · rw [g0, vu_slot (by decide), vu_slot (by decide), vu_same]
        · rw [g0, vu_same]; show nI j = nI (nI j).toNatClampNeg; rw [hcl]
        · show 1 ≤ (nI j).toNatClampNeg; rw [hcl]; exact hj1
        · show (nI j).toNatClampNeg ≤ 8; rw [hcl]; exact hj8
        · rw [g0, vu_slot (by decide), vu_same]
        · exact lR_congr (fun q q1 q2 => gh q (by omega) (by omega)) s2
        · exact g1
        · have h9 := s4 k hk
          rw [← gh (176 + k) (by omega) (by omega)] at h9
          exact ⟨h9.1, h9.2, fun y hy => by cases hy⟩
      · simp only [k_TC_begin_0, k_TC_begin_7, k_TC_begin_12, k_TC_begin_18, mt_kk, mt_l0, lget, lput, fnth, fset, gf, gi, ga, mt_is, mt_pop, g_nil, g_const, g_null, g_iload, g_aload, g_istore, g_astore, g_iinc, g_add, g_sub, g_mul, g_and, g_xor, g_div, g_rem, g_dup, g_dup2, g_pop, g_get, g_putI, g_putZ, g_putA, g_iald, g_zald, g_iast, g_zast, g_aald, g_aast, g_alen, g_new, g_newI, g_newA, g_objinit, l_fall, l_ifeq, l_ifne, l_iflt, l_ifge, l_ifgt, l_ifle, l_iceq, l_icne, l_iclt, l_icge, l_icgt, l_icle, l_nullN, l_nullS, l_nonnullN, l_nonnullS, l_acne, l_callV, l_callI, l_callS, l_ret, l_iret, l_zret, l_aret, l_after, List.length_cons, List.length_nil, Nat.reduceAdd, Nat.reduceLT, Nat.reduceLeDiff, Nat.reduceEqDiff, and_self, and_true, true_and, if_true, if_false, reduceIte, ite_true, ite_false, beq_self_eq_true, Nat.zero_add, Option.toList_some, Option.toList_none, List.cons_append, List.nil_append, if_0, ho, e_0, z_0, s_begin, hz, hb, hb2, not_false_eq_true, or_true]
        exact ⟨V, rfl, h⟩
end TC
