/-! The class: entries opened, files rebuilt, unlisted files deleted, a session concluded. -/
theorem op_len {fs : Nat → a_F} {blk : Nat} {nt : Nat → Option (Int32 × Int32)} {s : (Nat → Bool) × List a_M × (Nat → Int32)} : ∀ (i : Nat), (a_op fs blk nt s i).2.1.length ≤ s.2.1.length + i
  | 0 => Nat.le_refl _
  | i + 1 => by
    have h := op_len (fs := fs) (blk := blk) (nt := nt) (s := s) i
    simp only [a_op]
    cases nt i with
    | none => exact Nat.le_succ_of_le h
    | some y =>
      simp only []
      split
      · exact Nat.le_succ_of_le h
      · simp only [List.length_append, List.length_cons, List.length_nil]; omega
theorem rb1_len {old : List Nat} {p : Nat} : ∀ (m : Nat), (a_rb1 old p m).length ≤ m
  | 0 => Nat.le_refl _
  | m + 1 => by
    have h := rb1_len (old := old) (p := p) m
    simp only [a_rb1, List.length_append]
    split
    · simp only [List.length_cons, List.length_nil]; omega
    · simp only [List.length_nil]; omega
section TC
variable {n w b : Nat} {f : Nat → Option m_E}
theorem lp_oe {V0 : v_N} {fs : Nat → a_F} {blk : Nat} {nt : Nat → Option (Int32 × Int32)} {s : (Nat → Bool) × List a_M × (Nat → Int32)} (hf : ∀ i, i < 24 → fR V0 (104 + 3 * i) (fs i)) (hb0 : V0 0 11 = nI blk) (hb1 : 1 ≤ blk) (hb8 : blk ≤ 8) (hs0 : s.2.1.length = 0) (Q : m_R → Prop) (hq : ∀ V1, (∀ k, k < 12 → eR V1 (176 + k) (nt k) ((a_op fs blk nt s 12).1 k)) → lR V1 6 (a_op fs blk nt s 12).2.1 → (∀ k, k < 8 → V1 103 k = (a_op fs blk nt s 12).2.2 k) → ch V0 V1 (fun q => 6 ≤ q ∧ q < 34 ∨ q = 103 ∨ 176 ≤ q ∧ q < 188) → Q (none, (n, w, img b V1 f))) (d : Nat) : ∀ (i : Nat) (V : v_N) (j2 : Option m_V), i + d = 12 → (∀ k, k < 12 → eR V (176 + k) (nt k) ((a_op fs blk nt s i).1 k)) → lR V 6 (a_op fs blk nt s i).2.1 → (∀ k, k < 8 → V 103 k = (a_op fs blk nt s i).2.2 k) → ch V0 V (fun q => 6 ≤ q ∧ q < 34 ∨ q = 103 ∨ 176 ≤ q ∧ q < 188) → mt_T cd_TC_openEntries 2 ([some (.inr (some b)), some (.inl (nI i)), j2], [], (n, w, img b V f)) Q := by
  induction d with
  | zero =>
    intro i V j2 hd h1 h2 h3 h4
    have hd : i = 12 := hd
    subst hd
    simp only [k_TC_openEntries_2, k_TC_openEntries_68, mt_kk, mt_l0, lget, lput, fnth, fset, gf, gi, ga, mt_is, mt_pop, g_nil, g_const, g_null, g_iload, g_aload, g_istore, g_astore, g_iinc, g_add, g_sub, g_mul, g_and, g_xor, g_div, g_rem, g_dup, g_dup2, g_pop, g_get, g_putI, g_putZ, g_putA, g_iald, g_zald, g_iast, g_zast, g_aald, g_aast, g_alen, g_new, g_newI, g_newA, g_objinit, l_fall, l_ifeq, l_ifne, l_iflt, l_ifge, l_ifgt, l_ifle, l_iceq, l_icne, l_iclt, l_icge, l_icgt, l_icle, l_nullN, l_nullS, l_nonnullN, l_nonnullS, l_acne, l_callV, l_callI, l_callS, l_ret, l_iret, l_zret, l_aret, l_after, List.length_cons, List.length_nil, Nat.reduceAdd, Nat.reduceLT, Nat.reduceLeDiff, Nat.reduceEqDiff, and_self, and_true, true_and, if_true, if_false, reduceIte, ite_true, ite_false, beq_self_eq_true, Nat.zero_add, Option.toList_some, Option.toList_none, List.cons_append, List.nil_append, eq_true (Int32.le_refl (nI 12))]
    exact hq V h1 h2 h3 h4
  | succ d ih =>
    intro i V j2 hd h1 h2 h3 h4
    have hi : i < 12 := by omega
    obtain ⟨k1, k2⟩ := kd_entry i hi
    have hx := mt_ix_nI (j := i) (n := 12) hi (by decide)
    have hx5 := mt_ix_nI (j := 5) (n := 8) (by decide) (by decide)
    have hol := op_len (fs := fs) (blk := blk) (nt := nt) (s := s) i
    have he := h1 i hi
    have hfi : fR V (104 + 3 * (12 + i)) (fs (12 + i)) := fR_congr (fun q q1 q2 => h4 q (by omega)) (hf (12 + i) (by omega))
    have hb : V 0 11 = nI blk := by rw [h4 0 (by omega)]; exact hb0
    rw [k_TC_openEntries_2]
    cases hn : nt i with
    | none =>
      have he0 : V (176 + i) 0 = nI 0 := by have := he.1; rw [hn] at this; exact this
      simp only [k_TC_openEntries_8, k_TC_openEntries_22, k_TC_openEntries_62, mt_kk, mt_l0, lget, lput, fnth, fset, gf, gi, ga, mt_is, mt_pop, g_nil, g_const, g_null, g_iload, g_aload, g_istore, g_astore, g_iinc, g_add, g_sub, g_mul, g_and, g_xor, g_div, g_rem, g_dup, g_dup2, g_pop, g_get, g_putI, g_putZ, g_putA, g_iald, g_zald, g_iast, g_zast, g_aald, g_aast, g_alen, g_new, g_newI, g_newA, g_objinit, l_fall, l_ifeq, l_ifne, l_iflt, l_ifge, l_ifgt, l_ifle, l_iceq, l_icne, l_iclt, l_icge, l_icgt, l_icle, l_nullN, l_nullS, l_nonnullN, l_nonnullS, l_acne, l_callV, l_callI, l_callS, l_ret, l_iret, l_zret, l_aret, l_after, List.length_cons, List.length_nil, Nat.reduceAdd, Nat.reduceLT, Nat.reduceLeDiff, Nat.reduceEqDiff, and_self, and_true, true_and, if_true, if_false, reduceIte, ite_true, ite_false, beq_self_eq_true, Nat.zero_add, Option.toList_some, Option.toList_none, List.cons_append, List.nil_append, eq_false (nI_ge hi (show 12 < 2 ^ 31 by decide)), if_0, if_62, hx, hi, im_En k2 k1, he0, e_0, nI_add]
      have e : a_op fs blk nt s (i + 1) = a_op fs blk nt s i := by simp only [a_op, hn]
      exact ih (i + 1) V _ (by omega) (by rw [e]; exact h1) (by rw [e]; exact h2) (by rw [e]; exact h3) h4
    | some y =>
      have he0 : V (176 + i) 0 = nI 1 := by have := he.1; rw [hn] at this; exact this
      obtain ⟨hy2, hy3⟩ := he.2.2 y hn
      have hag : mt_P sm_TC_fileOf [.inr (some b), .inl (nI 1), .inl (nI i)] (n, w, img b V f) (fun r => ∃ x : Option Nat, r = (some (.inr x), (n, w, img b V f)) ∧ sm_En_agreesWith [.inr (some (b + (176 + i))), .inr x] (n, w, img b V f) = some (some (.inl (bI (a_ag (fs (12 + i)) y))), (n, w, img b V f))) := by
        cases hfx : fs (12 + i) with
        | none =>
          rw [hfx] at hfi
          exact ⟨_, x_file1z hi hfi.1, none, rfl, x_ag0⟩
        | some u =>
          rw [hfx] at hfi
          obtain ⟨q1, q2, q3, q4, q5, q6⟩ := kd_file (12 + i) (by omega)
          exact ⟨_, x_file1 hi hfi.1, _, rfl, x_ag1 (st := u.2) (sz := y.1) (tm := y.2) k1 k2 q1 (iR_file (by omega)) hfi.2.2.1 hfi.2.1 hy2 hy3⟩
      simp only [k_TC_openEntries_8, k_TC_openEntries_25, mt_kk, mt_l0, lget, lput, fnth, fset, gf, gi, ga, mt_is, mt_pop, g_nil, g_const, g_null, g_iload, g_aload, g_istore, g_astore, g_iinc, g_add, g_sub, g_mul, g_and, g_xor, g_div, g_rem, g_dup, g_dup2, g_pop, g_get, g_putI, g_putZ, g_putA, g_iald, g_zald, g_iast, g_zast, g_aald, g_aast, g_alen, g_new, g_newI, g_newA, g_objinit, l_fall, l_ifeq, l_ifne, l_iflt, l_ifge, l_ifgt, l_ifle, l_iceq, l_icne, l_iclt, l_icge, l_icgt, l_icle, l_nullN, l_nullS, l_nonnullN, l_nonnullS, l_acne, l_callV, l_callI, l_callS, l_ret, l_iret, l_zret, l_aret, l_after, List.length_cons, List.length_nil, Nat.reduceAdd, Nat.reduceLT, Nat.reduceLeDiff, Nat.reduceEqDiff, and_self, and_true, true_and, if_true, if_false, reduceIte, ite_true, ite_false, beq_self_eq_true, Nat.zero_add, Option.toList_some, Option.toList_none, List.cons_append, List.nil_append, eq_false (nI_ge hi (show 12 < 2 ^ 31 by decide)), if_0, if_62, hx, hi, im_En k2 k1, he0, e_1]
      refine mt_call hag ?_
      rintro r ⟨x, rfl, hagr⟩
      cases ha : a_ag (fs (12 + i)) y with
      | true =>
        rw [ha] at hagr
        simp only [k_TC_openEntries_32, k_TC_openEntries_35, k_TC_openEntries_38, k_TC_openEntries_62, mt_kk, mt_l0, lget, lput, fnth, fset, gf, gi, ga, mt_is, mt_pop, g_nil, g_const, g_null, g_iload, g_aload, g_istore, g_astore, g_iinc, g_add, g_sub, g_mul, g_and, g_xor, g_div, g_rem, g_dup, g_dup2, g_pop, g_get, g_putI, g_putZ, g_putA, g_iald, g_zald, g_iast, g_zast, g_aald, g_aast, g_alen, g_new, g_newI, g_newA, g_objinit, l_fall, l_ifeq, l_ifne, l_iflt, l_ifge, l_ifgt, l_ifle, l_iceq, l_icne, l_iclt, l_icge, l_icgt, l_icle, l_nullN, l_nullS, l_nonnullN, l_nonnullS, l_acne, l_callV, l_callI, l_callS, l_ret, l_iret, l_zret, l_aret, l_after, List.length_cons, List.length_nil, Nat.reduceAdd, Nat.reduceLT, Nat.reduceLeDiff, Nat.reduceEqDiff, and_self, and_true, true_and, if_true, if_false, reduceIte, ite_true, ite_false, beq_self_eq_true, Nat.zero_add, Option.toList_some, Option.toList_none, List.cons_append, List.nil_append, im_En k2 k1, hagr, bI_t, e_1, if_0, if_103, hx5, uf_103, nI_add]
        have e : a_op fs blk nt s (i + 1) = ((a_op fs blk nt s i).1, (a_op fs blk nt s i).2.1, a_bp (a_op fs blk nt s i).2.2 5) := by simp only [a_op, hn, ha, if_true]
        refine ih (i + 1) _ _ (by omega) ?_ ?_ ?_ (ch_u h4 (by omega))
        · rw [e]; exact fun k hk => eR_congr (vu_off (by omega)) (h1 k hk)
        · rw [e]; exact lR_congr (fun q q1 q2 => vu_off (by omega)) h2
        · rw [e]; exact ct_bp (by decide) h3
      | false =>
        rw [ha] at hagr
        simp only [k_TC_openEntries_32, k_TC_openEntries_35, k_TC_openEntries_51, mt_kk, mt_l0, lget, lput, fnth, fset, gf, gi, ga, mt_is, mt_pop, g_nil, g_const, g_null, g_iload, g_aload, g_istore, g_astore, g_iinc, g_add, g_sub, g_mul, g_and, g_xor, g_div, g_rem, g_dup, g_dup2, g_pop, g_get, g_putI, g_putZ, g_putA, g_iald, g_zald, g_iast, g_zast, g_aald, g_aast, g_alen, g_new, g_newI, g_newA, g_objinit, l_fall, l_ifeq, l_ifne, l_iflt, l_ifge, l_ifgt, l_ifle, l_iceq, l_icne, l_iclt, l_icge, l_icgt, l_icle, l_nullN, l_nullS, l_nonnullN, l_nonnullS, l_acne, l_callV, l_callI, l_callS, l_ret, l_iret, l_zret, l_aret, l_after, List.length_cons, List.length_nil, Nat.reduceAdd, Nat.reduceLT, Nat.reduceLeDiff, Nat.reduceEqDiff, and_self, and_true, true_and, if_true, if_false, reduceIte, ite_true, ite_false, beq_self_eq_true, Nat.zero_add, Option.toList_some, Option.toList_none, List.cons_append, List.nil_append, im_En k2 k1, hagr, bI_f, e_0, if_0, pf_En_1 k2 k1, z_1]
        have e : a_op fs blk nt s (i + 1) = (va_up (a_op fs blk nt s i).1 i true, (a_op fs blk nt s i).2.1 ++ [a_sm fs blk i 1], (a_op fs blk nt s i).2.2) := by simp only [a_op, hn, ha, Bool.false_eq_true, if_false]
        refine mt_call (x_sig (fs := fs) (blk := blk) (att := 1) hi (fR_congr (fun q q1 q2 => vu_off (by omega)) hfi) (by rw [up_ne (by omega)]; exact hb) hb1 hb8 (by decide) (lR_congr (fun q q1 q2 => vu_off (by omega)) h2) (by omega)) ?_
        rintro r ⟨V1, rfl, g1, g2⟩
        simp only [k_TC_openEntries_62, mt_kk, mt_l0, lget, lput, fnth, fset, gf, gi, ga, mt_is, mt_pop, g_nil, g_const, g_null, g_iload, g_aload, g_istore, g_astore, g_iinc, g_add, g_sub, g_mul, g_and, g_xor, g_div, g_rem, g_dup, g_dup2, g_pop, g_get, g_putI, g_putZ, g_putA, g_iald, g_zald, g_iast, g_zast, g_aald, g_aast, g_alen, g_new, g_newI, g_newA, g_objinit, l_fall, l_ifeq, l_ifne, l_iflt, l_ifge, l_ifgt, l_ifle, l_iceq, l_icne, l_iclt, l_icge, l_icgt, l_icle, l_nullN, l_nullS, l_nonnullN, l_nonnullS, l_acne, l_callV, l_callI, l_callS, l_ret, l_iret, l_zret, l_aret, l_after, List.length_cons, List.length_nil, Nat.reduceAdd, Nat.reduceLT, Nat.reduceLeDiff, Nat.reduceEqDiff, and_self, and_true, true_and, if_true, if_false, reduceIte, ite_true, ite_false, beq_self_eq_true, Nat.zero_add, Option.toList_some, Option.toList_none, List.cons_append, List.nil_append, nI_add]
        refine ih (i + 1) V1 _ (by omega) ?_ ?_ ?_ ?_
        · rw [e]
          intro k hk
          show eR V1 (176 + k) (nt k) (va_up (a_op fs blk nt s i).1 i true k)
          unfold va_up
          by_cases hki : k = i
          · subst hki
            rw [if_pos rfl]
            refine eR_congr (g2 _ (by omega)) ⟨?_, ?_, fun u hu => ?_⟩
            · rw [vu_slot (by decide)]; exact he.1
            · rw [vu_same]; rfl
            · rw [vu_slot (by decide), vu_slot (by decide)]; exact he.2.2 u hu
          · rw [if_neg hki]
            refine eR_congr ?_ (h1 k hk)
            rw [g2 _ (by omega), vu_off (by omega)]
        · rw [e]; exact g1
        · rw [e]
          intro k hk
          rw [g2 103 (by omega), up_ne (by omega)]
          exact h3 k hk
        · exact ch_2 (ch_u h4 (by omega)) (ch_w g2 (fun q hq => Or.inl hq))
theorem x_openE {V : v_N} {fs : Nat → a_F} {blk : Nat} {nt : Nat → Option (Int32 × Int32)} {s : (Nat → Bool) × List a_M × (Nat → Int32)} (hf : ∀ i, i < 24 → fR V (104 + 3 * i) (fs i)) (hb0 : V 0 11 = nI blk) (hb1 : 1 ≤ blk) (hb8 : blk ≤ 8) (hs0 : s.2.1.length = 0) (h1 : ∀ k, k < 12 → eR V (176 + k) (nt k) (s.1 k)) (h2 : lR V 6 s.2.1) (h3 : ∀ k, k < 8 → V 103 k = s.2.2 k) : mt_P sm_TC_openEntries [.inr (some b)] (n, w, img b V f) (fun r => ∃ V1, r = (none, (n, w, img b V1 f)) ∧ (∀ k, k < 12 → eR V1 (176 + k) (nt k) ((a_op fs blk nt s 12).1 k)) ∧ lR V1 6 (a_op fs blk nt s 12).2.1 ∧ (∀ k, k < 8 → V1 103 k = (a_op fs blk nt s 12).2.2 k) ∧ ch V V1 (fun q => 6 ≤ q ∧ q < 34 ∨ q = 103 ∨ 176 ≤ q ∧ q < 188)) := by
  refine mt_P_of ?_
  simp only [k_TC_openEntries_0, mt_kk, mt_l0, lget, lput, fnth, fset, gf, gi, ga, mt_is, mt_pop, g_nil, g_const, g_null, g_iload, g_aload, g_istore, g_astore, g_iinc, g_add, g_sub, g_mul, g_and, g_xor, g_div, g_rem, g_dup, g_dup2, g_pop, g_get, g_putI, g_putZ, g_putA, g_iald, g_zald, g_iast, g_zast, g_aald, g_aast, g_alen, g_new, g_newI, g_newA, g_objinit, l_fall, l_ifeq, l_ifne, l_iflt, l_ifge, l_ifgt, l_ifle, l_iceq, l_icne, l_iclt, l_icge, l_icgt, l_icle, l_nullN, l_nullS, l_nonnullN, l_nonnullS, l_acne, l_callV, l_callI, l_callS, l_ret, l_iret, l_zret, l_aret, l_after, List.length_cons, List.length_nil, Nat.reduceAdd, Nat.reduceLT, Nat.reduceLeDiff, Nat.reduceEqDiff, and_self, and_true, true_and, if_true, if_false, reduceIte, ite_true, ite_false, beq_self_eq_true, Nat.zero_add, Option.toList_some, Option.toList_none, List.cons_append, List.nil_append]
  exact lp_oe hf hb0 hb1 hb8 hs0 _ (fun V1 g1 g2 g3 g4 => ⟨V1, rfl, g1, g2, g3, g4⟩) 12 0 V none (by omega) h1 h2 h3 ch_0
theorem lp_rb {V0 : v_N} {mo o2 blk : Nat} {items old R : List Nat} (hm : kd mo = 8) (hm1 : kd (mo + 1) = 9) (hmo : mo + 1 < 101) (hi2 : iR o2) (ho2 : 103 < o2) (hit : iT V0 mo items) (hr : rR V0 o2 old) (hold : old.length ≤ 40) (hb0 : V0 0 11 = nI blk) (hb8 : blk ≤ 8) (hl40 : items.length ≤ 40) (hx : ∀ x ∈ items, x < 1000) (Q : m_R → Prop) (hq : ∀ V1, rR V1 101 R → ch V0 V1 (fun q => q = 101 ∨ q = 102) → Q (none, (n, w, img b V1 f))) (d : Nat) : ∀ (i : Nat) (V : v_N) (acc : List Nat) (j4 : Option m_V), i + d = items.length → rR V 101 acc → acc.length + a_sz blk (items.drop i) ≤ 40 → a_rb old blk acc (items.drop i) = R → ch V0 V (fun q => q = 101 ∨ q = 102) → mt_T cd_TC_rebuild 9 ([some (.inr (some b)), some (.inr (some (b + o2))), some (.inr (some (b + mo))), some (.inl (nI i)), j4], [], (n, w, img b V f)) Q := by
  induction d with
  | zero =>
    intro i V acc j4 hd h1 h2 h3 h4
    have hd : i = items.length := hd
    subst hd
    rw [List.drop_length] at h3
    have h3 : acc = R := h3
    subst h3
    have e6 : V mo 6 = nI items.length := by rw [h4 mo (by omega)]; exact hit.1
    simp only [k_TC_rebuild_9, k_TC_rebuild_74, mt_kk, mt_l0, lget, lput, fnth, fset, gf, gi, ga, mt_is, mt_pop, g_nil, g_const, g_null, g_iload, g_aload, g_istore, g_astore, g_iinc, g_add, g_sub, g_mul, g_and, g_xor, g_div, g_rem, g_dup, g_dup2, g_pop, g_get, g_putI, g_putZ, g_putA, g_iald, g_zald, g_iast, g_zast, g_aald, g_aast, g_alen, g_new, g_newI, g_newA, g_objinit, l_fall, l_ifeq, l_ifne, l_iflt, l_ifge, l_ifgt, l_ifle, l_iceq, l_icne, l_iclt, l_icge, l_icgt, l_icle, l_nullN, l_nullS, l_nonnullN, l_nonnullS, l_acne, l_callV, l_callI, l_callS, l_ret, l_iret, l_zret, l_aret, l_after, List.length_cons, List.length_nil, Nat.reduceAdd, Nat.reduceLT, Nat.reduceLeDiff, Nat.reduceEqDiff, and_self, and_true, true_and, if_true, if_false, reduceIte, ite_true, ite_false, beq_self_eq_true, Nat.zero_add, Option.toList_some, Option.toList_none, List.cons_append, List.nil_append, im_Ms (show mo < 188 by omega) hm, e6, eq_true (Int32.le_refl (nI items.length))]
    exact hq V h1 h4
  | succ d ih =>
    intro i V acc j4 hd h1 h2 h3 h4
    have hil : i < items.length := by omega
    have e6 : V mo 6 = nI items.length := by rw [h4 mo (by omega)]; exact hit.1
    have e7 : V (mo + 1) i = nI (items.getD i 0) := by rw [h4 _ (by omega)]; exact hit.2 i hil
    have hb : V 0 11 = nI blk := by rw [h4 0 (by omega)]; exact hb0
    have hix := mt_ix_nI (j := i) (n := 40) (by omega) (by decide)
    have hdr : items.drop i = items.getD i 0 :: items.drop (i + 1) := by
      rw [List.drop_eq_getElem_cons hil]
      congr 1
      rw [List.getD_eq_getElem?_getD, List.getElem?_eq_getElem hil]
      rfl
    have hxb : items.getD i 0 < 1000 := by
      rw [List.getD_eq_getElem?_getD, List.getElem?_eq_getElem hil]
      exact hx _ (List.getElem_mem _)
    rw [hdr] at h2 h3
    generalize items.getD i 0 = x at hxb h2 h3 e7
    have e1 : (nI items.length ≤ nI i) = False := eq_false (nI_ge hil (by omega))
    have e2 := nI_leE (a := 256) (b := x) (by decide) (by omega)
    simp only [a_sz] at h2
    simp only [a_rb] at h3
    rw [k_TC_rebuild_9]
    by_cases hc : x < 256
    · rw [if_pos hc] at h2 h3
      have hc2 : ¬ 256 ≤ x := by omega
      simp only [k_TC_rebuild_17, k_TC_rebuild_33, k_TC_rebuild_42, k_TC_rebuild_68, mt_kk, mt_l0, lget, lput, fnth, fset, gf, gi, ga, mt_is, mt_pop, g_nil, g_const, g_null, g_iload, g_aload, g_istore, g_astore, g_iinc, g_add, g_sub, g_mul, g_and, g_xor, g_div, g_rem, g_dup, g_dup2, g_pop, g_get, g_putI, g_putZ, g_putA, g_iald, g_zald, g_iast, g_zast, g_aald, g_aast, g_alen, g_new, g_newI, g_newA, g_objinit, l_fall, l_ifeq, l_ifne, l_iflt, l_ifge, l_ifgt, l_ifle, l_iceq, l_icne, l_iclt, l_icge, l_icgt, l_icle, l_nullN, l_nullS, l_nonnullN, l_nonnullS, l_acne, l_callV, l_callI, l_callS, l_ret, l_iret, l_zret, l_aret, l_after, List.length_cons, List.length_nil, Nat.reduceAdd, Nat.reduceLT, Nat.reduceLeDiff, Nat.reduceEqDiff, and_self, and_true, true_and, if_true, if_false, reduceIte, ite_true, ite_false, beq_self_eq_true, Nat.zero_add, Option.toList_some, Option.toList_none, List.cons_append, List.nil_append, im_Ms (show mo < 188 by omega) hm, im_i40 (show mo + 1 < 188 by omega) hm1, e6, e1, hix, e7, e2, hc2, if_0, if_101, x_append iR_rb h1 (show acc.length < 40 by omega), nI_add]
      refine ih (i + 1) _ (acc ++ [x]) _ (by omega) (rR_app h1) ?_ h3 (ch_u (ch_u h4 (Or.inr rfl)) (Or.inl rfl))
      rw [List.length_append, List.length_cons, List.length_nil]
      omega
    · rw [if_neg hc] at h2 h3
      have hc2 : 256 ≤ x := by omega
      have e3 : nI x - nI 256 = nI (x - 256) := pk_sub hc2
      have hlen := rb1_len (old := old) (p := (x - 256) * blk) blk
      have hmul : (x - 256) * blk ≤ 1000 * 8 := Nat.mul_le_mul (by omega) hb8
      simp only [k_TC_rebuild_17, k_TC_rebuild_45, mt_kk, mt_l0, lget, lput, fnth, fset, gf, gi, ga, mt_is, mt_pop, g_nil, g_const, g_null, g_iload, g_aload, g_istore, g_astore, g_iinc, g_add, g_sub, g_mul, g_and, g_xor, g_div, g_rem, g_dup, g_dup2, g_pop, g_get, g_putI, g_putZ, g_putA, g_iald, g_zald, g_iast, g_zast, g_aald, g_aast, g_alen, g_new, g_newI, g_newA, g_objinit, l_fall, l_ifeq, l_ifne, l_iflt, l_ifge, l_ifgt, l_ifle, l_iceq, l_icne, l_iclt, l_icge, l_icgt, l_icle, l_nullN, l_nullS, l_nonnullN, l_nonnullS, l_acne, l_callV, l_callI, l_callS, l_ret, l_iret, l_zret, l_aret, l_after, List.length_cons, List.length_nil, Nat.reduceAdd, Nat.reduceLT, Nat.reduceLeDiff, Nat.reduceEqDiff, and_self, and_true, true_and, if_true, if_false, reduceIte, ite_true, ite_false, beq_self_eq_true, Nat.zero_add, Option.toList_some, Option.toList_none, List.cons_append, List.nil_append, im_Ms (show mo < 188 by omega) hm, im_i40 (show mo + 1 < 188 by omega) hm1, e6, e1, hix, e7, e2, hc2, if_0, if_101, e3, hb, pk_mul]
      refine mt_call (x_part (l := acc) (old := old) iR_rb hi2 ⟨by omega, by omega, by omega⟩ hold (by omega) (by rw [List.length_append]; omega) h1 (rR_congr (h4 _ (by omega)) (h4 _ (by omega)) hr)) ?_
      rintro r ⟨V1, rfl, g1, g2⟩
      simp only [k_TC_rebuild_68, mt_kk, mt_l0, lget, lput, fnth, fset, gf, gi, ga, mt_is, mt_pop, g_nil, g_const, g_null, g_iload, g_aload, g_istore, g_astore, g_iinc, g_add, g_sub, g_mul, g_and, g_xor, g_div, g_rem, g_dup, g_dup2, g_pop, g_get, g_putI, g_putZ, g_putA, g_iald, g_zald, g_iast, g_zast, g_aald, g_aast, g_alen, g_new, g_newI, g_newA, g_objinit, l_fall, l_ifeq, l_ifne, l_iflt, l_ifge, l_ifgt, l_ifle, l_iceq, l_icne, l_iclt, l_icge, l_icgt, l_icle, l_nullN, l_nullS, l_nonnullN, l_nonnullS, l_acne, l_callV, l_callI, l_callS, l_ret, l_iret, l_zret, l_aret, l_after, List.length_cons, List.length_nil, Nat.reduceAdd, Nat.reduceLT, Nat.reduceLeDiff, Nat.reduceEqDiff, and_self, and_true, true_and, if_true, if_false, reduceIte, ite_true, ite_false, beq_self_eq_true, Nat.zero_add, Option.toList_some, Option.toList_none, List.cons_append, List.nil_append, nI_add]
      refine ih (i + 1) V1 _ _ (by omega) g1 ?_ h3 (ch_2 h4 (ch_fr2 g2))
      rw [List.length_append]
      omega
theorem x_rebuild {V : v_N} {mo o2 blk : Nat} {items old : List Nat} (hm : kd mo = 8) (hm1 : kd (mo + 1) = 9) (hmo : mo + 1 < 101) (hi2 : iR o2) (ho2 : 103 < o2) (hit : iT V mo items) (hr : rR V o2 old) (hold : old.length ≤ 40) (hb0 : V 0 11 = nI blk) (hb8 : blk ≤ 8) (hl40 : items.length ≤ 40) (hx : ∀ x ∈ items, x < 1000) (hsz : a_sz blk items ≤ 40) : mt_P sm_TC_rebuild [.inr (some b), .inr (some (b + o2)), .inr (some (b + mo))] (n, w, img b V f) (fun r => ∃ V1, r = (none, (n, w, img b V1 f)) ∧ rR V1 101 (a_rb old blk [] items) ∧ ch V V1 (fun q => q = 101 ∨ q = 102)) := by
  refine mt_P_of ?_
  simp only [k_TC_rebuild_0, k_TC_rebuild_7, mt_kk, mt_l0, lget, lput, fnth, fset, gf, gi, ga, mt_is, mt_pop, g_nil, g_const, g_null, g_iload, g_aload, g_istore, g_astore, g_iinc, g_add, g_sub, g_mul, g_and, g_xor, g_div, g_rem, g_dup, g_dup2, g_pop, g_get, g_putI, g_putZ, g_putA, g_iald, g_zald, g_iast, g_zast, g_aald, g_aast, g_alen, g_new, g_newI, g_newA, g_objinit, l_fall, l_ifeq, l_ifne, l_iflt, l_ifge, l_ifgt, l_ifle, l_iceq, l_icne, l_iclt, l_icge, l_icgt, l_icle, l_nullN, l_nullS, l_nonnullN, l_nonnullS, l_acne, l_callV, l_callI, l_callS, l_ret, l_iret, l_zret, l_aret, l_after, List.length_cons, List.length_nil, Nat.reduceAdd, Nat.reduceLT, Nat.reduceLeDiff, Nat.reduceEqDiff, and_self, and_true, true_and, if_true, if_false, reduceIte, ite_true, ite_false, beq_self_eq_true, Nat.zero_add, Option.toList_some, Option.toList_none, List.cons_append, List.nil_append, if_0, if_101, x_clear iR_rb]
  have gg : ∀ q, q ≠ 101 → vu V 101 1 (nI 0) q = V q := fun q hq => vu_off hq
  refine lp_rb (V0 := vu V 101 1 (nI 0)) (R := a_rb old blk [] items) hm hm1 hmo hi2 ho2 ⟨?_, ?_⟩ (rR_congr (gg _ (by omega)) (gg _ (by omega)) hr) hold ?_ hb8 hl40 hx _ (fun V1 g1 g2 => ⟨V1, rfl, g1, ?_⟩) items.length 0 _ [] none (by omega) rR_nil ?_ rfl ch_0
  · rw [gg mo (by omega)]; exact hit.1
  · rw [gg (mo + 1) (by omega)]; exact hit.2
  · rw [gg 0 (by omega)]; exact hb0
  · rw [List.drop_zero, List.length_nil]; omega
  · intro q hq
    rw [g2 q hq, gg q (by omega)]
theorem lp_del {V0 : v_N} {rl : a_R} {nt : Nat → Option (Int32 × Int32)} {s : (Nat → a_F) × (Nat → Int32)} (hu : uR V0 rl) (he : ∀ k, k < 12 → V0 (176 + k) 0 = bI (nt k).isSome) (Q : m_R → Prop) (hq : ∀ V1, (∀ i, i < 24 → fR V1 (104 + 3 * i) ((a_de rl nt s 12).1 i)) → (∀ k, k < 8 → V1 103 k = (a_de rl nt s 12).2 k) → ch V0 V1 (fun q => 103 ≤ q ∧ q < 176) → Q (none, (n, w, img b V1 f))) (d : Nat) : ∀ (i : Nat) (V : v_N) (j2 : Option m_V), i + d = 12 → (∀ j, j < 24 → fR V (104 + 3 * j) ((a_de rl nt s i).1 j)) → (∀ k, k < 8 → V 103 k = (a_de rl nt s i).2 k) → ch V0 V (fun q => 103 ≤ q ∧ q < 176) → mt_T cd_TC_deleteUnlisted 2 ([some (.inr (some b)), some (.inl (nI i)), j2], [], (n, w, img b V f)) Q := by
  induction d with
  | zero =>
    intro i V j2 hd h1 h2 h3
    have hd : i = 12 := hd
    subst hd
    simp only [k_TC_deleteUnlisted_2, k_TC_deleteUnlisted_63, mt_kk, mt_l0, lget, lput, fnth, fset, gf, gi, ga, mt_is, mt_pop, g_nil, g_const, g_null, g_iload, g_aload, g_istore, g_astore, g_iinc, g_add, g_sub, g_mul, g_and, g_xor, g_div, g_rem, g_dup, g_dup2, g_pop, g_get, g_putI, g_putZ, g_putA, g_iald, g_zald, g_iast, g_zast, g_aald, g_aast, g_alen, g_new, g_newI, g_newA, g_objinit, l_fall, l_ifeq, l_ifne, l_iflt, l_ifge, l_ifgt, l_ifle, l_iceq, l_icne, l_iclt, l_icge, l_icgt, l_icle, l_nullN, l_nullS, l_nonnullN, l_nonnullS, l_acne, l_callV, l_callI, l_callS, l_ret, l_iret, l_zret, l_aret, l_after, List.length_cons, List.length_nil, Nat.reduceAdd, Nat.reduceLT, Nat.reduceLeDiff, Nat.reduceEqDiff, and_self, and_true, true_and, if_true, if_false, reduceIte, ite_true, ite_false, beq_self_eq_true, Nat.zero_add, Option.toList_some, Option.toList_none, List.cons_append, List.nil_append, eq_true (Int32.le_refl (nI 12))]
    exact hq V h1 h2 h3
  | succ d ih =>
    intro i V j2 hd h1 h2 h3
    have hi : i < 12 := by omega
    obtain ⟨k1, k2⟩ := kd_entry i hi
    obtain ⟨q1, q2, q3, q4, q5, q6⟩ := kd_file (12 + i) (by omega)
    have hx := mt_ix_nI (j := i) (n := 12) hi (by decide)
    have hx6 := mt_ix_nI (j := 6) (n := 8) (by decide) (by decide)
    have hfi := h1 (12 + i) (by omega)
    have hu2 : uR V rl := uR_congr (fun q g1 g2 => h3 q (by omega)) hu
    have hei : V (176 + i) 0 = bI (nt i).isSome := by rw [h3 _ (by omega)]; exact he i hi
    have hno : ¬ (((a_de rl nt s i).1 (12 + i)).isSome = true ∧ a_sl rl i = true ∧ nt i = none) → a_de rl nt s (i + 1) = a_de rl nt s i := fun h => by simp only [a_de, if_neg h]
    rw [k_TC_deleteUnlisted_2]
    cases hfx : (a_de rl nt s i).1 (12 + i) with
    | none =>
      rw [hfx] at hfi
      simp only [k_TC_deleteUnlisted_8, k_TC_deleteUnlisted_14, k_TC_deleteUnlisted_57, mt_kk, mt_l0, lget, lput, fnth, fset, gf, gi, ga, mt_is, mt_pop, g_nil, g_const, g_null, g_iload, g_aload, g_istore, g_astore, g_iinc, g_add, g_sub, g_mul, g_and, g_xor, g_div, g_rem, g_dup, g_dup2, g_pop, g_get, g_putI, g_putZ, g_putA, g_iald, g_zald, g_iast, g_zast, g_aald, g_aast, g_alen, g_new, g_newI, g_newA, g_objinit, l_fall, l_ifeq, l_ifne, l_iflt, l_ifge, l_ifgt, l_ifle, l_iceq, l_icne, l_iclt, l_icge, l_icgt, l_icle, l_nullN, l_nullS, l_nonnullN, l_nonnullS, l_acne, l_callV, l_callI, l_callS, l_ret, l_iret, l_zret, l_aret, l_after, List.length_cons, List.length_nil, Nat.reduceAdd, Nat.reduceLT, Nat.reduceLeDiff, Nat.reduceEqDiff, and_self, and_true, true_and, if_true, if_false, reduceIte, ite_true, ite_false, beq_self_eq_true, Nat.zero_add, Option.toList_some, Option.toList_none, List.cons_append, List.nil_append, eq_false (nI_ge hi (show 12 < 2 ^ 31 by decide)), if_0, x_file1z hi hfi.1, nI_add]
      have e := hno (by rw [hfx]; exact fun h => by cases h.1)
      exact ih (i + 1) V _ (by omega) (by rw [e]; exact h1) (by rw [e]; exact h2) h3
    | some u =>
      rw [hfx] at hfi
      cases hs : a_sl rl i with
      | false =>
        simp only [k_TC_deleteUnlisted_8, k_TC_deleteUnlisted_14, k_TC_deleteUnlisted_19, k_TC_deleteUnlisted_27, k_TC_deleteUnlisted_57, mt_kk, mt_l0, lget, lput, fnth, fset, gf, gi, ga, mt_is, mt_pop, g_nil, g_const, g_null, g_iload, g_aload, g_istore, g_astore, g_iinc, g_add, g_sub, g_mul, g_and, g_xor, g_div, g_rem, g_dup, g_dup2, g_pop, g_get, g_putI, g_putZ, g_putA, g_iald, g_zald, g_iast, g_zast, g_aald, g_aast, g_alen, g_new, g_newI, g_newA, g_objinit, l_fall, l_ifeq, l_ifne, l_iflt, l_ifge, l_ifgt, l_ifle, l_iceq, l_icne, l_iclt, l_icge, l_icgt, l_icle, l_nullN, l_nullS, l_nonnullN, l_nonnullS, l_acne, l_callV, l_callI, l_callS, l_ret, l_iret, l_zret, l_aret, l_after, List.length_cons, List.length_nil, Nat.reduceAdd, Nat.reduceLT, Nat.reduceLeDiff, Nat.reduceEqDiff, and_self, and_true, true_and, if_true, if_false, reduceIte, ite_true, ite_false, beq_self_eq_true, Nat.zero_add, Option.toList_some, Option.toList_none, List.cons_append, List.nil_append, eq_false (nI_ge hi (show 12 < 2 ^ 31 by decide)), if_0, if_2, x_file1 hi hfi.1, x_select hu2, hs, bI_f, e_0, nI_add]
        have e := hno (by rw [hs]; exact fun h => by cases h.2.1)
        exact ih (i + 1) V _ (by omega) (by rw [e]; exact h1) (by rw [e]; exact h2) h3
      | true =>
        cases hn : nt i with
        | some y =>
          rw [hn] at hei
          have hei : V (176 + i) 0 = nI 1 := hei
          simp only [k_TC_deleteUnlisted_8, k_TC_deleteUnlisted_14, k_TC_deleteUnlisted_19, k_TC_deleteUnlisted_27, k_TC_deleteUnlisted_30, k_TC_deleteUnlisted_57, mt_kk, mt_l0, lget, lput, fnth, fset, gf, gi, ga, mt_is, mt_pop, g_nil, g_const, g_null, g_iload, g_aload, g_istore, g_astore, g_iinc, g_add, g_sub, g_mul, g_and, g_xor, g_div, g_rem, g_dup, g_dup2, g_pop, g_get, g_putI, g_putZ, g_putA, g_iald, g_zald, g_iast, g_zast, g_aald, g_aast, g_alen, g_new, g_newI, g_newA, g_objinit, l_fall, l_ifeq, l_ifne, l_iflt, l_ifge, l_ifgt, l_ifle, l_iceq, l_icne, l_iclt, l_icge, l_icgt, l_icle, l_nullN, l_nullS, l_nonnullN, l_nonnullS, l_acne, l_callV, l_callI, l_callS, l_ret, l_iret, l_zret, l_aret, l_after, List.length_cons, List.length_nil, Nat.reduceAdd, Nat.reduceLT, Nat.reduceLeDiff, Nat.reduceEqDiff, and_self, and_true, true_and, if_true, if_false, reduceIte, ite_true, ite_false, beq_self_eq_true, Nat.zero_add, Option.toList_some, Option.toList_none, List.cons_append, List.nil_append, eq_false (nI_ge hi (show 12 < 2 ^ 31 by decide)), if_0, if_2, if_62, hx, hi, im_En k2 k1, x_file1 hi hfi.1, x_select hu2, hs, bI_t, e_1, hei, nI_add]
          have e := hno (by rw [hn]; exact fun h => by cases h.2.2)
          exact ih (i + 1) V _ (by omega) (by rw [e]; exact h1) (by rw [e]; exact h2) h3
        | none =>
          rw [hn] at hei
          have hei : V (176 + i) 0 = nI 0 := hei
          simp only [k_TC_deleteUnlisted_8, k_TC_deleteUnlisted_14, k_TC_deleteUnlisted_19, k_TC_deleteUnlisted_27, k_TC_deleteUnlisted_30, k_TC_deleteUnlisted_42, k_TC_deleteUnlisted_46, k_TC_deleteUnlisted_57, mt_kk, mt_l0, lget, lput, fnth, fset, gf, gi, ga, mt_is, mt_pop, g_nil, g_const, g_null, g_iload, g_aload, g_istore, g_astore, g_iinc, g_add, g_sub, g_mul, g_and, g_xor, g_div, g_rem, g_dup, g_dup2, g_pop, g_get, g_putI, g_putZ, g_putA, g_iald, g_zald, g_iast, g_zast, g_aald, g_aast, g_alen, g_new, g_newI, g_newA, g_objinit, l_fall, l_ifeq, l_ifne, l_iflt, l_ifge, l_ifgt, l_ifle, l_iceq, l_icne, l_iclt, l_icge, l_icgt, l_icle, l_nullN, l_nullS, l_nonnullN, l_nonnullS, l_acne, l_callV, l_callI, l_callS, l_ret, l_iret, l_zret, l_aret, l_after, List.length_cons, List.length_nil, Nat.reduceAdd, Nat.reduceLT, Nat.reduceLeDiff, Nat.reduceEqDiff, and_self, and_true, true_and, if_true, if_false, reduceIte, ite_true, ite_false, beq_self_eq_true, Nat.zero_add, Option.toList_some, Option.toList_none, List.cons_append, List.nil_append, eq_false (nI_ge hi (show 12 < 2 ^ 31 by decide)), if_0, if_2, if_62, if_103, hx, hi, im_En k2 k1, im_Sf q2 q1, x_file1 hi hfi.1, x_select hu2, hs, bI_t, e_1, hei, e_0, x_erase q1 (iR_file (show 12 + i < 24 by omega)), hx6, uf_103, nI_add]
          have e : a_de rl nt s (i + 1) = (va_up (a_de rl nt s i).1 (12 + i) none, a_bp (a_de rl nt s i).2 6) := by
            simp only [a_de]
            rw [if_pos ⟨by rw [hfx]; rfl, hs, hn⟩]
          refine ih (i + 1) _ _ (by omega) ?_ ?_ (ch_u (ch_u (ch_u h3 (by omega)) (by omega)) (by omega))
          · rw [e]
            intro j hj
            show fR _ (104 + 3 * j) (va_up (a_de rl nt s i).1 (12 + i) none j)
            unfold va_up
            by_cases hji : j = 12 + i
            · subst hji
              rw [if_pos rfl]
              refine ⟨?_, ?_⟩
              · rw [up_ne (by omega), up_ne (by omega), vu_same]
              · exact rR_congr (by rw [vu_off (by omega)]) (by rw [vu_off (by omega)]) rR_nil
            · rw [if_neg hji]
              exact fR_congr (fun q g1 g2 => by rw [vu_off (by omega), vu_off (by omega), vu_off (by omega)]) (h1 j hj)
          · rw [e]
            refine ct_bp (by decide) (fun k hk => ?_)
            rw [up_ne (by omega), up_ne (by omega)]
            exact h2 k hk
theorem x_delete {V : v_N} {rl : a_R} {nt : Nat → Option (Int32 × Int32)} {s : (Nat → a_F) × (Nat → Int32)} (hu : uR V rl) (he : ∀ k, k < 12 → V (176 + k) 0 = bI (nt k).isSome) (h1 : ∀ i, i < 24 → fR V (104 + 3 * i) (s.1 i)) (h2 : ∀ k, k < 8 → V 103 k = s.2 k) : mt_P sm_TC_deleteUnlisted [.inr (some b)] (n, w, img b V f) (fun r => ∃ V1, r = (none, (n, w, img b V1 f)) ∧ (∀ i, i < 24 → fR V1 (104 + 3 * i) ((a_de rl nt s 12).1 i)) ∧ (∀ k, k < 8 → V1 103 k = (a_de rl nt s 12).2 k) ∧ ch V V1 (fun q => 103 ≤ q ∧ q < 176)) := by
  refine mt_P_of ?_
  simp only [k_TC_deleteUnlisted_0, mt_kk, mt_l0, lget, lput, fnth, fset, gf, gi, ga, mt_is, mt_pop, g_nil, g_const, g_null, g_iload, g_aload, g_istore, g_astore, g_iinc, g_add, g_sub, g_mul, g_and, g_xor, g_div, g_rem, g_dup, g_dup2, g_pop, g_get, g_putI, g_putZ, g_putA, g_iald, g_zald, g_iast, g_zast, g_aald, g_aast, g_alen, g_new, g_newI, g_newA, g_objinit, l_fall, l_ifeq, l_ifne, l_iflt, l_ifge, l_ifgt, l_ifle, l_iceq, l_icne, l_iclt, l_icge, l_icgt, l_icle, l_nullN, l_nullS, l_nonnullN, l_nonnullS, l_acne, l_callV, l_callI, l_callS, l_ret, l_iret, l_zret, l_aret, l_after, List.length_cons, List.length_nil, Nat.reduceAdd, Nat.reduceLT, Nat.reduceLeDiff, Nat.reduceEqDiff, and_self, and_true, true_and, if_true, if_false, reduceIte, ite_true, ite_false, beq_self_eq_true, Nat.zero_add, Option.toList_some, Option.toList_none, List.cons_append, List.nil_append]
  exact lp_del hu he _ (fun V1 g1 g2 g3 => ⟨V1, rfl, g1, g2, g3⟩) 12 0 V none (by omega) h1 h2 ch_0
def z_de (z : a_Z) (y : a_S) : (Nat → a_F) × (Nat → Int32) := if y.2.1 = true then a_de z.2.1 y.2.2.2.1 ((z_fl z).2.2.1, (z_fl z).2.2.2.2.1) 12 else ((z_fl z).2.2.1, (z_fl z).2.2.2.2.1)
def z_cc (z : a_Z) (y : a_S) : a_Z := (z.1, z.2.1, (z_de z y).1, none, a_bp (z_de z y).2 4, none)
theorem x_conclude {V : v_N} {z : a_Z} {y : a_S} (h : cR V z) (hy : z.2.2.2.2.2 = some y) : mt_P sm_TC_concludeSession [.inr (some b)] (n, w, img b V f) (c_Qv n w b f (z_cc z y) V (fun _ => True)) := by
  have hx4 := mt_ix_nI (j := 4) (n := 8) (by decide) (by decide)
  refine mt_P_of ?_
  simp only [k_TC_concludeSession_0, mt_kk, mt_l0, lget, lput, fnth, fset, gf, gi, ga, mt_is, mt_pop, g_nil, g_const, g_null, g_iload, g_aload, g_istore, g_astore, g_iinc, g_add, g_sub, g_mul, g_and, g_xor, g_div, g_rem, g_dup, g_dup2, g_pop, g_get, g_putI, g_putZ, g_putA, g_iald, g_zald, g_iast, g_zast, g_aald, g_aast, g_alen, g_new, g_newI, g_newA, g_objinit, l_fall, l_ifeq, l_ifne, l_iflt, l_ifge, l_ifgt, l_ifle, l_iceq, l_icne, l_iclt, l_icge, l_icgt, l_icle, l_nullN, l_nullS, l_nonnullN, l_nonnullS, l_acne, l_callV, l_callI, l_callS, l_ret, l_iret, l_zret, l_aret, l_after, List.length_cons, List.length_nil, Nat.reduceAdd, Nat.reduceLT, Nat.reduceLeDiff, Nat.reduceEqDiff, and_self, and_true, true_and, if_true, if_false, reduceIte, ite_true, ite_false, beq_self_eq_true, Nat.zero_add, Option.toList_some, Option.toList_none, List.cons_append, List.nil_append, if_0]
  refine mt_call (x_doAll h) ?_
  rintro r ⟨V1, rfl, h1, -⟩
  have hfin : ∀ (V2 : v_N) (z2 : a_Z), cR V2 z2 → z2.1 = z.1 → z2.2.1 = z.2.1 → z2.2.2.1 = (z_de z y).1 → z2.2.2.2.1 = none → z2.2.2.2.2.1 = (z_de z y).2 → mt_T cd_TC_concludeSession 15 ([some (.inr (some b))], [], (n, w, img b V2 f)) (c_Qv n w b f (z_cc z y) V (fun _ => True)) := by
    intro V2 z2 h2 e1 e2 e3 e4 e5
    simp only [k_TC_concludeSession_15, mt_kk, mt_l0, lget, lput, fnth, fset, gf, gi, ga, mt_is, mt_pop, g_nil, g_const, g_null, g_iload, g_aload, g_istore, g_astore, g_iinc, g_add, g_sub, g_mul, g_and, g_xor, g_div, g_rem, g_dup, g_dup2, g_pop, g_get, g_putI, g_putZ, g_putA, g_iald, g_zald, g_iast, g_zast, g_aald, g_aast, g_alen, g_new, g_newI, g_newA, g_objinit, l_fall, l_ifeq, l_ifne, l_iflt, l_ifge, l_ifgt, l_ifle, l_iceq, l_icne, l_iclt, l_icge, l_icgt, l_icle, l_nullN, l_nullS, l_nonnullN, l_nonnullS, l_acne, l_callV, l_callI, l_callS, l_ret, l_iret, l_zret, l_aret, l_after, List.length_cons, List.length_nil, Nat.reduceAdd, Nat.reduceLT, Nat.reduceLeDiff, Nat.reduceEqDiff, and_self, and_true, true_and, if_true, if_false, reduceIte, ite_true, ite_false, beq_self_eq_true, Nat.zero_add, Option.toList_some, Option.toList_none, List.cons_append, List.nil_append, if_0]
    refine mt_call (x_endSession h2) ?_
    rintro r ⟨V3, rfl, h3, -⟩
    simp only [k_TC_concludeSession_19, mt_kk, mt_l0, lget, lput, fnth, fset, gf, gi, ga, mt_is, mt_pop, g_nil, g_const, g_null, g_iload, g_aload, g_istore, g_astore, g_iinc, g_add, g_sub, g_mul, g_and, g_xor, g_div, g_rem, g_dup, g_dup2, g_pop, g_get, g_putI, g_putZ, g_putA, g_iald, g_zald, g_iast, g_zast, g_aald, g_aast, g_alen, g_new, g_newI, g_newA, g_objinit, l_fall, l_ifeq, l_ifne, l_iflt, l_ifge, l_ifgt, l_ifle, l_iceq, l_icne, l_iclt, l_icge, l_icgt, l_icle, l_nullN, l_nullS, l_nonnullN, l_nonnullS, l_acne, l_callV, l_callI, l_callS, l_ret, l_iret, l_zret, l_aret, l_after, List.length_cons, List.length_nil, Nat.reduceAdd, Nat.reduceLT, Nat.reduceLeDiff, Nat.reduceEqDiff, and_self, and_true, true_and, if_true, if_false, reduceIte, ite_true, ite_false, beq_self_eq_true, Nat.zero_add, Option.toList_some, Option.toList_none, List.cons_append, List.nil_append, if_0, if_103, hx4, uf_103]
    obtain ⟨c1, c2, c3, c4, c5, c6⟩ := h3
    refine ⟨_, rfl, ⟨?_, ?_, ?_, ?_, ?_, ?_⟩, fun o ho => absurd trivial ho⟩
    · rw [up_ne (by decide), c1]; exact e1
    · exact uR_congr (fun q q1 q2 => vu_off (by omega)) (by show uR V3 z.2.1; rw [← e2]; exact c2)
    · intro i hi
      refine fR_congr (fun q q1 q2 => vu_off (by omega)) ?_
      show fR V3 (104 + 3 * i) ((z_de z y).1 i)
      rw [← e3]; exact c3 i hi
    · refine jR_congr (fun q q1 q2 => vu_off (by omega)) ?_
      show jR V3 none
      rw [← e4]; exact c4
    · show ∀ k, k < 8 → _ = a_bp (z_de z y).2 4 k
      rw [← e5]; exact ct_bp (by decide) c5
    · exact sR_congr (fun k _ => up_ne (by decide)) (fun q q1 q2 => vu_off (by omega)) (fun q q1 q2 => vu_off (by omega)) c6
  have hs := h1.2.2.2.2.2
  have hs : sR V1 (some y) := by rw [← hy]; exact hs
  obtain ⟨s1, s2, s3, s4, s5, s6, s7, s8⟩ := hs
  cases hd : y.2.1 with
  | false =>
    rw [hd] at s5
    simp only [k_TC_concludeSession_4, mt_kk, mt_l0, lget, lput, fnth, fset, gf, gi, ga, mt_is, mt_pop, g_nil, g_const, g_null, g_iload, g_aload, g_istore, g_astore, g_iinc, g_add, g_sub, g_mul, g_and, g_xor, g_div, g_rem, g_dup, g_dup2, g_pop, g_get, g_putI, g_putZ, g_putA, g_iald, g_zald, g_iast, g_zast, g_aald, g_aast, g_alen, g_new, g_newI, g_newA, g_objinit, l_fall, l_ifeq, l_ifne, l_iflt, l_ifge, l_ifgt, l_ifle, l_iceq, l_icne, l_iclt, l_icge, l_icgt, l_icle, l_nullN, l_nullS, l_nonnullN, l_nonnullS, l_acne, l_callV, l_callI, l_callS, l_ret, l_iret, l_zret, l_aret, l_after, List.length_cons, List.length_nil, Nat.reduceAdd, Nat.reduceLT, Nat.reduceLeDiff, Nat.reduceEqDiff, and_self, and_true, true_and, if_true, if_false, reduceIte, ite_true, ite_false, beq_self_eq_true, Nat.zero_add, Option.toList_some, Option.toList_none, List.cons_append, List.nil_append, if_0, s5, bI_f, e_0]
    refine hfin V1 (z_fl z) h1 rfl rfl ?_ rfl ?_
    · unfold z_de; rw [hd]; rfl
    · unfold z_de; rw [hd]; rfl
  | true =>
    rw [hd] at s5
    simp only [k_TC_concludeSession_4, k_TC_concludeSession_11, mt_kk, mt_l0, lget, lput, fnth, fset, gf, gi, ga, mt_is, mt_pop, g_nil, g_const, g_null, g_iload, g_aload, g_istore, g_astore, g_iinc, g_add, g_sub, g_mul, g_and, g_xor, g_div, g_rem, g_dup, g_dup2, g_pop, g_get, g_putI, g_putZ, g_putA, g_iald, g_zald, g_iast, g_zast, g_aald, g_aast, g_alen, g_new, g_newI, g_newA, g_objinit, l_fall, l_ifeq, l_ifne, l_iflt, l_ifge, l_ifgt, l_ifle, l_iceq, l_icne, l_iclt, l_icge, l_icgt, l_icle, l_nullN, l_nullS, l_nonnullN, l_nonnullS, l_acne, l_callV, l_callI, l_callS, l_ret, l_iret, l_zret, l_aret, l_after, List.length_cons, List.length_nil, Nat.reduceAdd, Nat.reduceLT, Nat.reduceLeDiff, Nat.reduceEqDiff, and_self, and_true, true_and, if_true, if_false, reduceIte, ite_true, ite_false, beq_self_eq_true, Nat.zero_add, Option.toList_some, Option.toList_none, List.cons_append, List.nil_append, if_0, s5, bI_t, e_1]
    obtain ⟨c1, c2, c3, c4, c5, c6⟩ := h1
    refine mt_call (x_delete (nt := y.2.2.2.1) (s := ((z_fl z).2.2.1, (z_fl z).2.2.2.2.1)) c2 (fun k hk => (s8 k hk).1) c3 c5) ?_
    rintro r ⟨V2, rfl, g1, g2, g3⟩
    refine hfin V2 (z.1, z.2.1, (z_de z y).1, none, (z_de z y).2, z.2.2.2.2.2) ⟨?_, ?_, ?_, ?_, ?_, ?_⟩ rfl rfl rfl rfl rfl
    · rw [g3 0 (by omega)]; exact c1
    · exact uR_congr (fun q q1 q2 => g3 q (by omega)) c2
    · show ∀ i, i < 24 → fR V2 (104 + 3 * i) ((z_de z y).1 i)
      unfold z_de; rw [hd]; exact g1
    · exact jR_congr (fun q q1 q2 => g3 q (by omega)) c4
    · show ∀ k, k < 8 → V2 103 k = (z_de z y).2 k
      unfold z_de; rw [hd]; exact g2
    · exact sR_congr (fun k _ => by rw [g3 0 (by omega)]) (fun q q1 q2 => g3 q (by omega)) (fun q q1 q2 => g3 q (by omega)) c6
end TC
