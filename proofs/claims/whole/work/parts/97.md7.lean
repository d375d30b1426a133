/-! The reference: end, note, take. -/
theorem op_skip {fs : Nat → a_F} {blk : Nat} {nt : Nat → Option (Int32 × Int32)} {s : (Nat → Bool) × List a_M × (Nat → Int32)} {k : Nat} : ∀ (d : Nat), (∀ j, k ≤ j → j < k + d → nt j = none) → a_op fs blk nt s (k + d) = a_op fs blk nt s k
  | 0, _ => rfl
  | d + 1, h => by
    have e := op_skip (fs := fs) (blk := blk) (nt := nt) (s := s) (k := k) d (fun j h1 h2 => h j h1 (by omega))
    have e2 := h (k + d) (by omega) (by omega)
    show a_op fs blk nt s ((k + d) + 1) = _
    simp only [a_op, e2]
    exact e
theorem op_keep {fs : Nat → a_F} {blk : Nat} {nt : Nat → Option (Int32 × Int32)} {s : (Nat → Bool) × List a_M × (Nat → Int32)} {x : Nat} : ∀ (k : Nat), k ≤ x → (a_op fs blk nt s k).1 x = s.1 x
  | 0, _ => rfl
  | k + 1, h => by
    have e := op_keep (fs := fs) (blk := blk) (nt := nt) (s := s) (x := x) k (by omega)
    simp only [a_op]
    cases nt k with
    | none => exact e
    | some u =>
      simp only []
      split
      · exact e
      · show va_up _ k true x = _
        unfold va_up
        rw [if_neg (by omega)]
        exact e
theorem cM_move {U U1 : v_N} {a a1 : Nat} {m : a_M} (h : ∀ i, i < 90 → U1 13 (a1 + i) = U 13 (a + i)) (hm : cM U a m) : cM U1 a1 m := by
  obtain ⟨h0, h1, h2, h3, h4, h5, h6⟩ := hm
  refine ⟨(h 0 (by decide)).trans h0, (h 1 (by decide)).trans h1, (h 2 (by decide)).trans h2, (h 3 (by decide)).trans h3, (h 4 (by decide)).trans h4, fun e => ?_, fun e => ?_⟩
  · obtain ⟨g1, g2, g3⟩ := h5 e
    refine ⟨(h 5 (by decide)).trans g1, g2, fun j hj => ⟨?_, ?_⟩⟩
    · have := h (6 + 2 * j) (by omega)
      rw [← Nat.add_assoc, ← Nat.add_assoc] at this
      exact this.trans (g3 j hj).1
    · have := h (7 + 2 * j) (by omega)
      rw [← Nat.add_assoc, ← Nat.add_assoc] at this
      exact this.trans (g3 j hj).2
  · obtain ⟨g1, g2, g3⟩ := h6 e
    refine ⟨(h 5 (by decide)).trans g1, g2, fun j hj => ?_⟩
    have := h (6 + j) (by omega)
    rw [← Nat.add_assoc, ← Nat.add_assoc] at this
    exact this.trans (g3 j hj)
def fE (U0 U : v_N) : Prop := (∀ q, q ≠ 0 → q ≠ 11 → q ≠ 12 → q ≠ 13 → q ≠ 19 → U q = U0 q) ∧ (∀ k, k ≠ 19 → U 0 k = U0 0 k) ∧ U 12 1 = U0 12 1 ∧ ∀ i, 1440 ≤ i → U 13 i = U0 13 i
section MD
variable {n w c : Nat} {f : Nat → Option m_E}
theorem lp_mend {U0 : v_N} {z : a_Z} {y : a_S} (h : dR U0 z) (hy : z.2.2.2.2.2 = some y) (hl0 : y.2.2.2.2.2.1 = []) (hop : ∀ k, y.2.2.2.2.1 k = false) (Q : m_R → Prop) (hq : ∀ U1, dR U1 (z_s z z.2.2.2.1 (s_e2 z y).2.2 (y.1, y.2.1, true, y.2.2.2.1, (s_e2 z y).1, (s_e2 z y).2.1, y.2.2.2.2.2.2)) → ∀ (a b : Option m_V), mt_T cd_MD_end 106 ([some (.inr (some c)), some (.inl (nI (a_nl y.2.2.2.1 12).length)), a, b], [], (n, w, imr c U1 f)) Q) (d : Nat) : ∀ (e k : Nat) (U : v_N) (j2 j3 : Option m_V), e + d = (a_nl y.2.2.2.1 12).length → k ≤ 12 → (a_nl y.2.2.2.1 k).length = e → nR U 0 (a_op z.2.2.1 y.1 y.2.2.2.1 (y.2.2.2.2.1, y.2.2.2.2.2.1, z.2.2.2.2.1) k).2.1 → (∀ j, j < 8 → U 19 j = (a_op z.2.2.1 y.1 y.2.2.2.1 (y.2.2.2.2.1, y.2.2.2.2.2.1, z.2.2.2.2.1) k).2.2 j) → (∀ e1 x, e1 < e → (a_nl y.2.2.2.1 12)[e1]? = some x → U 11 e1 = bI ((a_op z.2.2.1 y.1 y.2.2.2.1 (y.2.2.2.2.1, y.2.2.2.2.2.1, z.2.2.2.2.1) k).1 x)) → fE U0 U → mt_T cd_MD_end 2 ([some (.inr (some c)), some (.inl (nI e)), j2, j3], [], (n, w, imr c U f)) Q := by
  obtain ⟨a1, a2, a3, a4, a5, a6⟩ := id h
  rw [hy] at a6
  obtain ⟨s1, s2, s3, s4, s5, s6, s7, s8, s9⟩ := a6
  have hlen := nl_len (nt := y.2.2.2.1) 12
  have h12 : ∀ U, fE U0 U → U 0 12 = nI (a_nl y.2.2.2.1 12).length := fun U g => by rw [g.2.1 12 (by decide)]; exact s6.1
  induction d with
  | zero =>
    intro e k U j2 j3 hd hk hke h1 h2 h3 h4
    have hd : e = (a_nl y.2.2.2.1 12).length := hd
    subst hd
    have hskip := op_skip (fs := z.2.2.1) (blk := y.1) (nt := y.2.2.2.1) (s := (y.2.2.2.2.1, y.2.2.2.2.2.1, z.2.2.2.2.1)) (k := k) (12 - k) (fun j g1 g2 => nl_end (12 - k) (by omega) hke j g1 (by omega))
    rw [show k + (12 - k) = 12 by omega] at hskip
    rw [← hskip] at h1 h2 h3
    rw [k_MD_end_2]
    simp only [mt_kk, mt_l0, lget, lput, mt_pop, g_nil, g_const, g_null, g_iload, g_aload, g_istore, g_astore, g_iinc, g_add, g_sub, g_mul, g_and, g_xor, g_div, g_rem, g_dup, g_dup2, g_pop, g_get, g_putI, g_putZ, g_putA, g_iald, g_zald, g_iast, g_zast, g_aald, g_aast, g_alen, g_new, g_newI, g_newA, g_objinit, l_fall, l_ifeq, l_ifne, l_iflt, l_ifge, l_ifgt, l_ifle, l_iceq, l_icne, l_iclt, l_icge, l_icgt, l_icle, l_nullN, l_nullS, l_nonnullN, l_nonnullS, l_acne, l_callV, l_callI, l_callS, l_ret, l_iret, l_zret, l_aret, l_after, List.length_cons, List.length_nil, Nat.reduceAdd, Nat.reduceLT, Nat.reduceLeDiff, Nat.reduceEqDiff, and_self, and_true, true_and, if_true, if_false, reduceIte, ite_true, ite_false, beq_self_eq_true, Nat.zero_add, Option.toList_some, Option.toList_none, List.cons_append, List.nil_append, gj_0, gj_1, gj_2, gj_3, gj_4, gj_5, gj_6, gj_7, gj_8, gj_9, gj_10, gj_11, gj_12, gj_13, gj_14, gj_15, gj_16, gj_17, gj_18, gj_19, gj_20, gj_21, gj_22, gj_23, gj_24, gj_25, gj_26, gj_27, pj_4, pj_5, pj_9, pj_10, pj_11, pj_12, pj_19, pj_20, pj_26, ij_1, ij_2, ij_3, ij_4, ij_5, ij_6, ij_7, ij_8, ij_9, ij_10, ij_11, ij_12, ij_13, ij_14, ij_15, ij_16, ij_17, ij_18, ij_19, vf_1, vf_2, vf_3, vf_4, vf_5, vf_6, vf_7, vf_8, vf_9, vf_10, vf_11, vf_12, vf_13, vf_14, vf_15, vf_16, vf_17, vf_18, vf_19, sj, h12 U h4, eq_true (Int32.le_refl (nI (a_nl y.2.2.2.1 12).length))]
    refine hq U ?_ _ _
    exact dR_new h hy (fun k hk => h4.2.1 k (by omega)) (fun q q1 q2 => h4.1 q (by omega) (by omega) (by omega) (by omega) (by omega)) (hR_congr (h4.2.1 20 (by decide)) (fun q q1 q2 => h4.1 q (by omega) (by omega) (by omega) (by omega) (by omega)) a4) h2 (oR_congr (h4.2.1 12 (by decide)) (fun q q1 q2 => h4.1 q (by omega) (by omega) (by omega) (by omega) (by omega)) s6) (fun _ e1 x he1 => h3 e1 x (List.getElem?_eq_some_iff.mp he1).1 he1) h1 (nR_congr h4.2.2.1 (fun i _ => h4.2.2.2 _ (by omega)) s9)
  | succ d ih =>
    intro e k U j2 j3 hd hk hke h1 h2 h3 h4
    have hel : e < (a_nl y.2.2.2.1 12).length := by omega
    obtain ⟨x, x1, x2, x3, x4, x5, x6⟩ := nl_step (nt := y.2.2.2.1) (12 - k) (by omega) hke hel
    have hskip := op_skip (fs := z.2.2.1) (blk := y.1) (nt := y.2.2.2.1) (s := (y.2.2.2.2.1, y.2.2.2.2.2.1, z.2.2.2.2.1)) (k := k) (x - k) (fun j g1 g2 => x4 j g1 (by omega))
    rw [show k + (x - k) = x by omega] at hskip
    rw [← hskip] at h1 h2 h3
    obtain ⟨u, hu⟩ := Option.isSome_iff_exists.mp x3
    obtain ⟨l8, l9⟩ := s6.2 e x x5
    obtain ⟨l9, l10⟩ := l9 u hu
    have l8 : U 8 e = nI x := by rw [h4.1 8 (by decide) (by decide) (by decide) (by decide) (by decide)]; exact l8
    have l9 : U 9 e = u.1 := by rw [h4.1 9 (by decide) (by decide) (by decide) (by decide) (by decide)]; exact l9
    have l10 : U 10 e = u.2 := by rw [h4.1 10 (by decide) (by decide) (by decide) (by decide) (by decide)]; exact l10
    have hfi : gR U (12 + x) (z.2.2.1 (12 + x)) := gR_same (fun q q1 q2 => h4.1 q (by omega) (by omega) (by omega) (by omega) (by omega)) (a3 (12 + x) (by omega))
    have hxe := mt_ix_nI (j := e) (n := 12) (by omega) (by decide)
    have hxf := mt_ix_nI (j := 12 + x) (n := 24) (by omega) (by decide)
    have hkx := op_keep (fs := z.2.2.1) (blk := y.1) (nt := y.2.2.2.1) (s := (y.2.2.2.2.1, y.2.2.2.2.2.1, z.2.2.2.2.1)) (x := x) x (Nat.le_refl _)
    have hkx : (a_op z.2.2.1 y.1 y.2.2.2.1 (y.2.2.2.2.1, y.2.2.2.2.2.1, z.2.2.2.2.1) x).1 x = false := hkx.trans (hop x)
    have hol := op_len (fs := z.2.2.1) (blk := y.1) (nt := y.2.2.2.1) (s := (y.2.2.2.2.1, y.2.2.2.2.2.1, z.2.2.2.2.1)) x
    have hol : (a_op z.2.2.1 y.1 y.2.2.2.1 (y.2.2.2.2.1, y.2.2.2.2.2.1, z.2.2.2.2.1) x).2.1.length ≤ x := by rw [hl0] at hol ⊢; exact Nat.le_trans hol (by simp)
    have hb : U 0 10 = nI y.1 := by rw [h4.2.1 10 (by decide)]; exact s2
    have hold : ∀ (U1 : v_N) (s1 : (Nat → Bool) × List a_M × (Nat → Int32)), (∀ x1, x1 ≠ x → s1.1 x1 = (a_op z.2.2.1 y.1 y.2.2.2.1 (y.2.2.2.2.1, y.2.2.2.2.2.1, z.2.2.2.2.1) x).1 x1) → (∀ e1, e1 ≠ e → U1 11 e1 = U 11 e1) → U1 11 e = bI (s1.1 x) → ∀ e1 x1, e1 < e + 1 → (a_nl y.2.2.2.1 12)[e1]? = some x1 → U1 11 e1 = bI (s1.1 x1) := by
      intro U1 s1 g1 g2 g3 e1 y1 he1 hy1
      by_cases hee : e1 = e
      · subst hee
        rw [x5] at hy1
        cases hy1
        exact g3
      · rw [g2 e1 hee, g1 y1 (fun e9 => hee (nl_inj (by rw [← e9]; exact hy1) x5))]
        exact h3 e1 y1 (by omega) hy1
    have hgo : mt_T cd_MD_end 61 ([some (.inr (some c)), some (.inl (nI e)), some (.inl (match z.2.2.1 (12 + x) with | none => (-1 : Int32) | some _ => nI (12 + x))), j3], [.inl (bI (a_ag (z.2.2.1 (12 + x)) u))], (n, w, imr c U f)) Q := by
      cases hag : a_ag (z.2.2.1 (12 + x)) u with
      | true =>
        have eop : a_op z.2.2.1 y.1 y.2.2.2.1 (y.2.2.2.2.1, y.2.2.2.2.2.1, z.2.2.2.2.1) (x + 1) = ((a_op z.2.2.1 y.1 y.2.2.2.1 (y.2.2.2.2.1, y.2.2.2.2.2.1, z.2.2.2.2.1) x).1, (a_op z.2.2.1 y.1 y.2.2.2.1 (y.2.2.2.2.1, y.2.2.2.2.2.1, z.2.2.2.2.1) x).2.1, a_bp (a_op z.2.2.1 y.1 y.2.2.2.1 (y.2.2.2.2.1, y.2.2.2.2.2.1, z.2.2.2.2.1) x).2.2 5) := by simp only [a_op, hu, hag, if_true]
        simp only [k_MD_end_61, k_MD_end_75, k_MD_end_76, k_MD_end_81, k_MD_end_86, k_MD_end_100, mt_kk, mt_l0, lget, lput, mt_pop, g_nil, g_const, g_null, g_iload, g_aload, g_istore, g_astore, g_iinc, g_add, g_sub, g_mul, g_and, g_xor, g_div, g_rem, g_dup, g_dup2, g_pop, g_get, g_putI, g_putZ, g_putA, g_iald, g_zald, g_iast, g_zast, g_aald, g_aast, g_alen, g_new, g_newI, g_newA, g_objinit, l_fall, l_ifeq, l_ifne, l_iflt, l_ifge, l_ifgt, l_ifle, l_iceq, l_icne, l_iclt, l_icge, l_icgt, l_icle, l_nullN, l_nullS, l_nonnullN, l_nonnullS, l_acne, l_callV, l_callI, l_callS, l_ret, l_iret, l_zret, l_aret, l_after, List.length_cons, List.length_nil, Nat.reduceAdd, Nat.reduceLT, Nat.reduceLeDiff, Nat.reduceEqDiff, and_self, and_true, true_and, if_true, if_false, reduceIte, ite_true, ite_false, beq_self_eq_true, Nat.zero_add, Option.toList_some, Option.toList_none, List.cons_append, List.nil_append, gj_0, gj_1, gj_2, gj_3, gj_4, gj_5, gj_6, gj_7, gj_8, gj_9, gj_10, gj_11, gj_12, gj_13, gj_14, gj_15, gj_16, gj_17, gj_18, gj_19, gj_20, gj_21, gj_22, gj_23, gj_24, gj_25, gj_26, gj_27, pj_4, pj_5, pj_9, pj_10, pj_11, pj_12, pj_19, pj_20, pj_26, ij_1, ij_2, ij_3, ij_4, ij_5, ij_6, ij_7, ij_8, ij_9, ij_10, ij_11, ij_12, ij_13, ij_14, ij_15, ij_16, ij_17, ij_18, ij_19, vf_1, vf_2, vf_3, vf_4, vf_5, vf_6, vf_7, vf_8, vf_9, vf_10, vf_11, vf_12, vf_13, vf_14, vf_15, vf_16, vf_17, vf_18, vf_19, sj, bI_t, e_1, hxe, z_0, x_add (show 5 < 8 by decide), nI_add, up_ne (show 19 ≠ 11 by decide)]
        have hih := ih (e + 1) (x + 1) (vu (vu U 11 e (nI 0)) 19 5 (U 19 5 + nI 1)) (some (.inl (match z.2.2.1 (12 + x) with | none => (-1 : Int32) | some _ => nI (12 + x)))) (some (.inl (nI 1))) (by omega) (by omega) x6
        rw [eop] at hih
        refine hih ?_ ?_ ?_ ?_
        · exact nR_congr (by rw [up_ne (by decide), up_ne (by decide)]) (fun i _ => by rw [up_ne (by decide), up_ne (by decide)]) h1
        · have h8 := ct_bpM (U1 := vu U 11 e (nI 0)) (ct := (a_op z.2.2.1 y.1 y.2.2.2.1 (y.2.2.2.2.1, y.2.2.2.2.2.1, z.2.2.2.2.1) x).2.2) (j := 5) (fun j hj => by rw [up_ne (by decide)]; exact h2 j hj) (by decide)
          rw [up_ne (by decide)] at h8
          exact h8
        · exact hold _ _ (fun _ _ => rfl) (fun e1 he1 => by rw [up_ne (by decide), vu_slot he1]) (by rw [up_ne (by decide), vu_same]; show nI 0 = bI _; rw [hkx]; rfl)
        · exact ⟨fun q q0 q1 q2 q3 q4 => by rw [vu_off q4, vu_off q1]; exact h4.1 q q0 q1 q2 q3 q4, fun k hk => by rw [up_ne (by decide), up_ne (by decide)]; exact h4.2.1 k hk, by rw [up_ne (by decide), up_ne (by decide)]; exact h4.2.2.1, fun i hi => by rw [up_ne (by decide), up_ne (by decide)]; exact h4.2.2.2 i hi⟩
      | false =>
        have eop : a_op z.2.2.1 y.1 y.2.2.2.1 (y.2.2.2.2.1, y.2.2.2.2.2.1, z.2.2.2.2.1) (x + 1) = (va_up (a_op z.2.2.1 y.1 y.2.2.2.1 (y.2.2.2.2.1, y.2.2.2.2.2.1, z.2.2.2.2.1) x).1 x true, (a_op z.2.2.1 y.1 y.2.2.2.1 (y.2.2.2.2.1, y.2.2.2.2.2.1, z.2.2.2.2.1) x).2.1 ++ [a_sm z.2.2.1 y.1 x 1], (a_op z.2.2.1 y.1 y.2.2.2.1 (y.2.2.2.2.1, y.2.2.2.2.2.1, z.2.2.2.2.1) x).2.2) := by simp only [a_op, hu, hag, Bool.false_eq_true, if_false]
        have hms := x_msig (n := n) (w := w) (c := c) (f := f) (U := vu U 11 e (nI 1)) (fs := z.2.2.1) (blk := y.1) (att := 1) x2 (gR_same (fun q q1 q2 => vu_off (by omega)) hfi) (by rw [up_ne (by decide)]; exact hb) s3 s4 (by decide) (nR_congr (by rw [up_ne (by decide)]) (fun i _ => by rw [up_ne (by decide)]) h1) (by omega)
        have l8' : vu U 11 e (nI 1) 8 e = nI x := by rw [up_ne (by decide)]; exact l8
        simp only [k_MD_end_61, k_MD_end_71, k_MD_end_76, k_MD_end_89, mt_kk, mt_l0, lget, lput, mt_pop, g_nil, g_const, g_null, g_iload, g_aload, g_istore, g_astore, g_iinc, g_add, g_sub, g_mul, g_and, g_xor, g_div, g_rem, g_dup, g_dup2, g_pop, g_get, g_putI, g_putZ, g_putA, g_iald, g_zald, g_iast, g_zast, g_aald, g_aast, g_alen, g_new, g_newI, g_newA, g_objinit, l_fall, l_ifeq, l_ifne, l_iflt, l_ifge, l_ifgt, l_ifle, l_iceq, l_icne, l_iclt, l_icge, l_icgt, l_icle, l_nullN, l_nullS, l_nonnullN, l_nonnullS, l_acne, l_callV, l_callI, l_callS, l_ret, l_iret, l_zret, l_aret, l_after, List.length_cons, List.length_nil, Nat.reduceAdd, Nat.reduceLT, Nat.reduceLeDiff, Nat.reduceEqDiff, and_self, and_true, true_and, if_true, if_false, reduceIte, ite_true, ite_false, beq_self_eq_true, Nat.zero_add, Option.toList_some, Option.toList_none, List.cons_append, List.nil_append, gj_0, gj_1, gj_2, gj_3, gj_4, gj_5, gj_6, gj_7, gj_8, gj_9, gj_10, gj_11, gj_12, gj_13, gj_14, gj_15, gj_16, gj_17, gj_18, gj_19, gj_20, gj_21, gj_22, gj_23, gj_24, gj_25, gj_26, gj_27, pj_4, pj_5, pj_9, pj_10, pj_11, pj_12, pj_19, pj_20, pj_26, ij_1, ij_2, ij_3, ij_4, ij_5, ij_6, ij_7, ij_8, ij_9, ij_10, ij_11, ij_12, ij_13, ij_14, ij_15, ij_16, ij_17, ij_18, ij_19, vf_1, vf_2, vf_3, vf_4, vf_5, vf_6, vf_7, vf_8, vf_9, vf_10, vf_11, vf_12, vf_13, vf_14, vf_15, vf_16, vf_17, vf_18, vf_19, sj, bI_f, e_0, hxe, z_1, l8']
        refine mt_call hms ?_
        rintro r ⟨U1, rfl, g1, g2⟩
        simp only [k_MD_end_100, mt_kk, mt_l0, lget, lput, mt_pop, g_nil, g_const, g_null, g_iload, g_aload, g_istore, g_astore, g_iinc, g_add, g_sub, g_mul, g_and, g_xor, g_div, g_rem, g_dup, g_dup2, g_pop, g_get, g_putI, g_putZ, g_putA, g_iald, g_zald, g_iast, g_zast, g_aald, g_aast, g_alen, g_new, g_newI, g_newA, g_objinit, l_fall, l_ifeq, l_ifne, l_iflt, l_ifge, l_ifgt, l_ifle, l_iceq, l_icne, l_iclt, l_icge, l_icgt, l_icle, l_nullN, l_nullS, l_nonnullN, l_nonnullS, l_acne, l_callV, l_callI, l_callS, l_ret, l_iret, l_zret, l_aret, l_after, List.length_cons, List.length_nil, Nat.reduceAdd, Nat.reduceLT, Nat.reduceLeDiff, Nat.reduceEqDiff, and_self, and_true, true_and, if_true, if_false, reduceIte, ite_true, ite_false, beq_self_eq_true, Nat.zero_add, Option.toList_some, Option.toList_none, List.cons_append, List.nil_append, gj_0, gj_1, gj_2, gj_3, gj_4, gj_5, gj_6, gj_7, gj_8, gj_9, gj_10, gj_11, gj_12, gj_13, gj_14, gj_15, gj_16, gj_17, gj_18, gj_19, gj_20, gj_21, gj_22, gj_23, gj_24, gj_25, gj_26, gj_27, pj_4, pj_5, pj_9, pj_10, pj_11, pj_12, pj_19, pj_20, pj_26, ij_1, ij_2, ij_3, ij_4, ij_5, ij_6, ij_7, ij_8, ij_9, ij_10, ij_11, ij_12, ij_13, ij_14, ij_15, ij_16, ij_17, ij_18, ij_19, vf_1, vf_2, vf_3, vf_4, vf_5, vf_6, vf_7, vf_8, vf_9, vf_10, vf_11, vf_12, vf_13, vf_14, vf_15, vf_16, vf_17, vf_18, vf_19, sj, nI_add]
        have hih := ih (e + 1) (x + 1) U1 (some (.inl (match z.2.2.1 (12 + x) with | none => (-1 : Int32) | some _ => nI (12 + x)))) (some (.inl (nI 0))) (by omega) (by omega) x6
        rw [eop] at hih
        refine hih g1 ?_ ?_ ?_
        · intro j hj
          rw [g2.1 19 (by decide) (by decide) (by decide), up_ne (by decide)]
          exact h2 j hj
        · refine hold _ _ (fun x1 hx1 => ?_) (fun e1 he1 => by rw [g2.1 11 (by decide) (by decide) (by decide), vu_slot he1]) ?_
          · show va_up _ x true x1 = _
            unfold va_up
            rw [if_neg hx1]
          · rw [g2.1 11 (by decide) (by decide) (by decide), vu_same]
            show nI 1 = bI (va_up _ x true x)
            unfold va_up
            rw [if_pos rfl]; rfl
        · exact ⟨fun q q0 q1 q2 q3 q4 => by rw [g2.1 q q0 q2 q3, vu_off q1]; exact h4.1 q q0 q1 q2 q3 q4, fun k hk => by rw [g2.2.1 k hk, up_ne (by decide)]; exact h4.2.1 k hk, by rw [g2.2.2.1 1 (by decide), up_ne (by decide)]; exact h4.2.2.1, fun i hi => by rw [g2.2.2.2 i (by omega), up_ne (by decide)]; exact h4.2.2.2 i hi⟩
    rw [k_MD_end_2]
    cases hfx : z.2.2.1 (12 + x) with
    | none =>
      rw [hfx] at hfi hgo
      have hfi : U 1 (12 + x) = nI 0 := hfi
      have hfl := x_mfile0 (n := n) (w := w) (c := c) (f := f) (U := U) (t := 1) (k := x) (by decide) x2 hfi
      simp only [k_MD_end_10, k_MD_end_21, k_MD_end_60, mt_kk, mt_l0, lget, lput, mt_pop, g_nil, g_const, g_null, g_iload, g_aload, g_istore, g_astore, g_iinc, g_add, g_sub, g_mul, g_and, g_xor, g_div, g_rem, g_dup, g_dup2, g_pop, g_get, g_putI, g_putZ, g_putA, g_iald, g_zald, g_iast, g_zast, g_aald, g_aast, g_alen, g_new, g_newI, g_newA, g_objinit, l_fall, l_ifeq, l_ifne, l_iflt, l_ifge, l_ifgt, l_ifle, l_iceq, l_icne, l_iclt, l_icge, l_icgt, l_icle, l_nullN, l_nullS, l_nonnullN, l_nonnullS, l_acne, l_callV, l_callI, l_callS, l_ret, l_iret, l_zret, l_aret, l_after, List.length_cons, List.length_nil, Nat.reduceAdd, Nat.reduceLT, Nat.reduceLeDiff, Nat.reduceEqDiff, and_self, and_true, true_and, if_true, if_false, reduceIte, ite_true, ite_false, beq_self_eq_true, Nat.zero_add, Option.toList_some, Option.toList_none, List.cons_append, List.nil_append, gj_0, gj_1, gj_2, gj_3, gj_4, gj_5, gj_6, gj_7, gj_8, gj_9, gj_10, gj_11, gj_12, gj_13, gj_14, gj_15, gj_16, gj_17, gj_18, gj_19, gj_20, gj_21, gj_22, gj_23, gj_24, gj_25, gj_26, gj_27, pj_4, pj_5, pj_9, pj_10, pj_11, pj_12, pj_19, pj_20, pj_26, ij_1, ij_2, ij_3, ij_4, ij_5, ij_6, ij_7, ij_8, ij_9, ij_10, ij_11, ij_12, ij_13, ij_14, ij_15, ij_16, ij_17, ij_18, ij_19, vf_1, vf_2, vf_3, vf_4, vf_5, vf_6, vf_7, vf_8, vf_9, vf_10, vf_11, vf_12, vf_13, vf_14, vf_15, vf_16, vf_17, vf_18, vf_19, sj, h12 U h4, eq_false (nI_ge hel (show (a_nl y.2.2.2.1 12).length < 2 ^ 31 by omega)), hxe, l8, hfl, m1_neg]
      exact hgo
    | some v =>
      rw [hfx] at hfi hgo
      obtain ⟨f1, f2, f3, f4, f5⟩ := hfi
      have hfl := x_mfile (n := n) (w := w) (c := c) (f := f) (U := U) (t := 1) (k := x) (by decide) x2 f1
      by_cases g3 : nI v.1.length = u.1
      · by_cases g4 : v.2 = u.2
        · simp only [a_ag, beq_iff_eq.mpr g3, beq_iff_eq.mpr g4, Bool.and_self] at hgo
          simp only [k_MD_end_10, k_MD_end_21, k_MD_end_26, k_MD_end_41, k_MD_end_56, mt_kk, mt_l0, lget, lput, mt_pop, g_nil, g_const, g_null, g_iload, g_aload, g_istore, g_astore, g_iinc, g_add, g_sub, g_mul, g_and, g_xor, g_div, g_rem, g_dup, g_dup2, g_pop, g_get, g_putI, g_putZ, g_putA, g_iald, g_zald, g_iast, g_zast, g_aald, g_aast, g_alen, g_new, g_newI, g_newA, g_objinit, l_fall, l_ifeq, l_ifne, l_iflt, l_ifge, l_ifgt, l_ifle, l_iceq, l_icne, l_iclt, l_icge, l_icgt, l_icle, l_nullN, l_nullS, l_nonnullN, l_nonnullS, l_acne, l_callV, l_callI, l_callS, l_ret, l_iret, l_zret, l_aret, l_after, List.length_cons, List.length_nil, Nat.reduceAdd, Nat.reduceLT, Nat.reduceLeDiff, Nat.reduceEqDiff, and_self, and_true, true_and, if_true, if_false, reduceIte, ite_true, ite_false, beq_self_eq_true, Nat.zero_add, Option.toList_some, Option.toList_none, List.cons_append, List.nil_append, gj_0, gj_1, gj_2, gj_3, gj_4, gj_5, gj_6, gj_7, gj_8, gj_9, gj_10, gj_11, gj_12, gj_13, gj_14, gj_15, gj_16, gj_17, gj_18, gj_19, gj_20, gj_21, gj_22, gj_23, gj_24, gj_25, gj_26, gj_27, pj_4, pj_5, pj_9, pj_10, pj_11, pj_12, pj_19, pj_20, pj_26, ij_1, ij_2, ij_3, ij_4, ij_5, ij_6, ij_7, ij_8, ij_9, ij_10, ij_11, ij_12, ij_13, ij_14, ij_15, ij_16, ij_17, ij_18, ij_19, vf_1, vf_2, vf_3, vf_4, vf_5, vf_6, vf_7, vf_8, vf_9, vf_10, vf_11, vf_12, vf_13, vf_14, vf_15, vf_16, vf_17, vf_18, vf_19, sj, h12 U h4, eq_false (nI_ge hel (show (a_nl y.2.2.2.1 12).length < 2 ^ 31 by omega)), hxe, l8, hfl, (show 1 * 12 + x = 12 + x by omega), nI_neg (j := 12 + x) (by omega), hxf, f2, f3, l9, l10, g3, g4]
          exact hgo
        · simp only [a_ag, beq_eq_false_iff_ne.mpr g4, Bool.and_false] at hgo
          simp only [k_MD_end_10, k_MD_end_21, k_MD_end_26, k_MD_end_41, k_MD_end_60, mt_kk, mt_l0, lget, lput, mt_pop, g_nil, g_const, g_null, g_iload, g_aload, g_istore, g_astore, g_iinc, g_add, g_sub, g_mul, g_and, g_xor, g_div, g_rem, g_dup, g_dup2, g_pop, g_get, g_putI, g_putZ, g_putA, g_iald, g_zald, g_iast, g_zast, g_aald, g_aast, g_alen, g_new, g_newI, g_newA, g_objinit, l_fall, l_ifeq, l_ifne, l_iflt, l_ifge, l_ifgt, l_ifle, l_iceq, l_icne, l_iclt, l_icge, l_icgt, l_icle, l_nullN, l_nullS, l_nonnullN, l_nonnullS, l_acne, l_callV, l_callI, l_callS, l_ret, l_iret, l_zret, l_aret, l_after, List.length_cons, List.length_nil, Nat.reduceAdd, Nat.reduceLT, Nat.reduceLeDiff, Nat.reduceEqDiff, and_self, and_true, true_and, if_true, if_false, reduceIte, ite_true, ite_false, beq_self_eq_true, Nat.zero_add, Option.toList_some, Option.toList_none, List.cons_append, List.nil_append, gj_0, gj_1, gj_2, gj_3, gj_4, gj_5, gj_6, gj_7, gj_8, gj_9, gj_10, gj_11, gj_12, gj_13, gj_14, gj_15, gj_16, gj_17, gj_18, gj_19, gj_20, gj_21, gj_22, gj_23, gj_24, gj_25, gj_26, gj_27, pj_4, pj_5, pj_9, pj_10, pj_11, pj_12, pj_19, pj_20, pj_26, ij_1, ij_2, ij_3, ij_4, ij_5, ij_6, ij_7, ij_8, ij_9, ij_10, ij_11, ij_12, ij_13, ij_14, ij_15, ij_16, ij_17, ij_18, ij_19, vf_1, vf_2, vf_3, vf_4, vf_5, vf_6, vf_7, vf_8, vf_9, vf_10, vf_11, vf_12, vf_13, vf_14, vf_15, vf_16, vf_17, vf_18, vf_19, sj, h12 U h4, eq_false (nI_ge hel (show (a_nl y.2.2.2.1 12).length < 2 ^ 31 by omega)), hxe, l8, hfl, (show 1 * 12 + x = 12 + x by omega), nI_neg (j := 12 + x) (by omega), hxf, f2, f3, l9, l10, g3, g4]
          exact hgo
      · simp only [a_ag, beq_eq_false_iff_ne.mpr g3, Bool.false_and] at hgo
        simp only [k_MD_end_10, k_MD_end_21, k_MD_end_26, k_MD_end_60, mt_kk, mt_l0, lget, lput, mt_pop, g_nil, g_const, g_null, g_iload, g_aload, g_istore, g_astore, g_iinc, g_add, g_sub, g_mul, g_and, g_xor, g_div, g_rem, g_dup, g_dup2, g_pop, g_get, g_putI, g_putZ, g_putA, g_iald, g_zald, g_iast, g_zast, g_aald, g_aast, g_alen, g_new, g_newI, g_newA, g_objinit, l_fall, l_ifeq, l_ifne, l_iflt, l_ifge, l_ifgt, l_ifle, l_iceq, l_icne, l_iclt, l_icge, l_icgt, l_icle, l_nullN, l_nullS, l_nonnullN, l_nonnullS, l_acne, l_callV, l_callI, l_callS, l_ret, l_iret, l_zret, l_aret, l_after, List.length_cons, List.length_nil, Nat.reduceAdd, Nat.reduceLT, Nat.reduceLeDiff, Nat.reduceEqDiff, and_self, and_true, true_and, if_true, if_false, reduceIte, ite_true, ite_false, beq_self_eq_true, Nat.zero_add, Option.toList_some, Option.toList_none, List.cons_append, List.nil_append, gj_0, gj_1, gj_2, gj_3, gj_4, gj_5, gj_6, gj_7, gj_8, gj_9, gj_10, gj_11, gj_12, gj_13, gj_14, gj_15, gj_16, gj_17, gj_18, gj_19, gj_20, gj_21, gj_22, gj_23, gj_24, gj_25, gj_26, gj_27, pj_4, pj_5, pj_9, pj_10, pj_11, pj_12, pj_19, pj_20, pj_26, ij_1, ij_2, ij_3, ij_4, ij_5, ij_6, ij_7, ij_8, ij_9, ij_10, ij_11, ij_12, ij_13, ij_14, ij_15, ij_16, ij_17, ij_18, ij_19, vf_1, vf_2, vf_3, vf_4, vf_5, vf_6, vf_7, vf_8, vf_9, vf_10, vf_11, vf_12, vf_13, vf_14, vf_15, vf_16, vf_17, vf_18, vf_19, sj, h12 U h4, eq_false (nI_ge hel (show (a_nl y.2.2.2.1 12).length < 2 ^ 31 by omega)), hxe, l8, hfl, (show 1 * 12 + x = 12 + x by omega), nI_neg (j := 12 + x) (by omega), hxf, f2, l9, g3]
        exact hgo
theorem op_nt {fs : Nat → a_F} {blk : Nat} {nt : Nat → Option (Int32 × Int32)} {s : (Nat → Bool) × List a_M × (Nat → Int32)} {x : Nat} : ∀ (k : Nat), (a_op fs blk nt s k).1 x = true → s.1 x = true ∨ (nt x).isSome = true
  | 0, h => Or.inl h
  | k + 1, h => by
    simp only [a_op] at h
    cases hn : nt k with
    | none => rw [hn] at h; exact op_nt k h
    | some u =>
      rw [hn] at h
      simp only [] at h
      split at h
      · exact op_nt k h
      · have h : va_up (a_op fs blk nt s k).1 k true x = true := h
        unfold va_up at h
        by_cases e : x = k
        · rw [e, hn]; exact Or.inr rfl
        · rw [if_neg e] at h
          exact op_nt k h
theorem x_mend {U : v_N} {z : a_Z} {y : a_S} (h : dR U z) (hy : z.2.2.2.2.2 = some y) (hl0 : y.2.2.2.2.2.1 = []) (hop : ∀ k, y.2.2.2.2.1 k = false) (h2 : ∀ k, (y.2.2.2.1 k).isSome = true → k < 12) : mt_P sm_MD_end [.inr (some c)] (n, w, imr c U f) (d_Qv n w c f (z_co (z_s z z.2.2.2.1 (s_e2 z y).2.2 (y.1, y.2.1, true, y.2.2.2.1, (s_e2 z y).1, (s_e2 z y).2.1, y.2.2.2.2.2.2)) (y.1, y.2.1, true, y.2.2.2.1, (s_e2 z y).1, (s_e2 z y).2.1, y.2.2.2.2.2.2))) := by
  obtain ⟨a1, a2, a3, a4, a5, a6⟩ := id h
  rw [hy] at a6
  obtain ⟨s1, s2, s3, s4, s5, s6, s7, s8, s9⟩ := a6
  have hfin : ∀ (U1 : v_N) (p q : Option m_V), dR U1 (z_s z z.2.2.2.1 (s_e2 z y).2.2 (y.1, y.2.1, true, y.2.2.2.1, (s_e2 z y).1, (s_e2 z y).2.1, y.2.2.2.2.2.2)) → mt_T cd_MD_end 106 ([some (.inr (some c)), some (.inl (nI (a_nl y.2.2.2.1 12).length)), p, q], [], (n, w, imr c U1 f)) (d_Qv n w c f (z_co (z_s z z.2.2.2.1 (s_e2 z y).2.2 (y.1, y.2.1, true, y.2.2.2.1, (s_e2 z y).1, (s_e2 z y).2.1, y.2.2.2.2.2.2)) (y.1, y.2.1, true, y.2.2.2.1, (s_e2 z y).1, (s_e2 z y).2.1, y.2.2.2.2.2.2))) := by
    intro U1 p q h1
    simp only [k_MD_end_106, mt_kk, mt_l0, lget, lput, mt_pop, g_nil, g_const, g_null, g_iload, g_aload, g_istore, g_astore, g_iinc, g_add, g_sub, g_mul, g_and, g_xor, g_div, g_rem, g_dup, g_dup2, g_pop, g_get, g_putI, g_putZ, g_putA, g_iald, g_zald, g_iast, g_zast, g_aald, g_aast, g_alen, g_new, g_newI, g_newA, g_objinit, l_fall, l_ifeq, l_ifne, l_iflt, l_ifge, l_ifgt, l_ifle, l_iceq, l_icne, l_iclt, l_icge, l_icgt, l_icle, l_nullN, l_nullS, l_nonnullN, l_nonnullS, l_acne, l_callV, l_callI, l_callS, l_ret, l_iret, l_zret, l_aret, l_after, List.length_cons, List.length_nil, Nat.reduceAdd, Nat.reduceLT, Nat.reduceLeDiff, Nat.reduceEqDiff, and_self, and_true, true_and, if_true, if_false, reduceIte, ite_true, ite_false, beq_self_eq_true, Nat.zero_add, Option.toList_some, Option.toList_none, List.cons_append, List.nil_append, gj_0, gj_1, gj_2, gj_3, gj_4, gj_5, gj_6, gj_7, gj_8, gj_9, gj_10, gj_11, gj_12, gj_13, gj_14, gj_15, gj_16, gj_17, gj_18, gj_19, gj_20, gj_21, gj_22, gj_23, gj_24, gj_25, gj_26, gj_27, pj_4, pj_5, pj_9, pj_10, pj_11, pj_12, pj_19, pj_20, pj_26, ij_1, ij_2, ij_3, ij_4, ij_5, ij_6, ij_7, ij_8, ij_9, ij_10, ij_11, ij_12, ij_13, ij_14, ij_15, ij_16, ij_17, ij_18, ij_19, vf_1, vf_2, vf_3, vf_4, vf_5, vf_6, vf_7, vf_8, vf_9, vf_10, vf_11, vf_12, vf_13, vf_14, vf_15, vf_16, vf_17, vf_18, vf_19, sj]
    refine mt_call (x_mcon (y := (y.1, y.2.1, true, y.2.2.2.1, (s_e2 z y).1, (s_e2 z y).2.1, y.2.2.2.2.2.2)) h1 rfl rfl (fun k hk => ?_) h2) ?_
    · have hk : (a_op z.2.2.1 y.1 y.2.2.2.1 (y.2.2.2.2.1, y.2.2.2.2.2.1, z.2.2.2.2.1) 12).1 k = true := hk
      rcases op_nt 12 hk with h9 | h9
      · have h9 : y.2.2.2.2.1 k = true := h9
        rw [hop k] at h9; cases h9
      · exact h9
    · rintro r ⟨U2, rfl, h3⟩
      simp only [k_MD_end_110, mt_kk, mt_l0, lget, lput, mt_pop, g_nil, g_const, g_null, g_iload, g_aload, g_istore, g_astore, g_iinc, g_add, g_sub, g_mul, g_and, g_xor, g_div, g_rem, g_dup, g_dup2, g_pop, g_get, g_putI, g_putZ, g_putA, g_iald, g_zald, g_iast, g_zast, g_aald, g_aast, g_alen, g_new, g_newI, g_newA, g_objinit, l_fall, l_ifeq, l_ifne, l_iflt, l_ifge, l_ifgt, l_ifle, l_iceq, l_icne, l_iclt, l_icge, l_icgt, l_icle, l_nullN, l_nullS, l_nonnullN, l_nonnullS, l_acne, l_callV, l_callI, l_callS, l_ret, l_iret, l_zret, l_aret, l_after, List.length_cons, List.length_nil, Nat.reduceAdd, Nat.reduceLT, Nat.reduceLeDiff, Nat.reduceEqDiff, and_self, and_true, true_and, if_true, if_false, reduceIte, ite_true, ite_false, beq_self_eq_true, Nat.zero_add, Option.toList_some, Option.toList_none, List.cons_append, List.nil_append, gj_0, gj_1, gj_2, gj_3, gj_4, gj_5, gj_6, gj_7, gj_8, gj_9, gj_10, gj_11, gj_12, gj_13, gj_14, gj_15, gj_16, gj_17, gj_18, gj_19, gj_20, gj_21, gj_22, gj_23, gj_24, gj_25, gj_26, gj_27, pj_4, pj_5, pj_9, pj_10, pj_11, pj_12, pj_19, pj_20, pj_26, ij_1, ij_2, ij_3, ij_4, ij_5, ij_6, ij_7, ij_8, ij_9, ij_10, ij_11, ij_12, ij_13, ij_14, ij_15, ij_16, ij_17, ij_18, ij_19, vf_1, vf_2, vf_3, vf_4, vf_5, vf_6, vf_7, vf_8, vf_9, vf_10, vf_11, vf_12, vf_13, vf_14, vf_15, vf_16, vf_17, vf_18, vf_19, sj]
      exact ⟨U2, rfl, h3⟩
  refine mt_P_of ?_
  simp only [k_MD_end_0, mt_kk, mt_l0, lget, lput, mt_pop, g_nil, g_const, g_null, g_iload, g_aload, g_istore, g_astore, g_iinc, g_add, g_sub, g_mul, g_and, g_xor, g_div, g_rem, g_dup, g_dup2, g_pop, g_get, g_putI, g_putZ, g_putA, g_iald, g_zald, g_iast, g_zast, g_aald, g_aast, g_alen, g_new, g_newI, g_newA, g_objinit, l_fall, l_ifeq, l_ifne, l_iflt, l_ifge, l_ifgt, l_ifle, l_iceq, l_icne, l_iclt, l_icge, l_icgt, l_icle, l_nullN, l_nullS, l_nonnullN, l_nonnullS, l_acne, l_callV, l_callI, l_callS, l_ret, l_iret, l_zret, l_aret, l_after, List.length_cons, List.length_nil, Nat.reduceAdd, Nat.reduceLT, Nat.reduceLeDiff, Nat.reduceEqDiff, and_self, and_true, true_and, if_true, if_false, reduceIte, ite_true, ite_false, beq_self_eq_true, Nat.zero_add, Option.toList_some, Option.toList_none, List.cons_append, List.nil_append, gj_0, gj_1, gj_2, gj_3, gj_4, gj_5, gj_6, gj_7, gj_8, gj_9, gj_10, gj_11, gj_12, gj_13, gj_14, gj_15, gj_16, gj_17, gj_18, gj_19, gj_20, gj_21, gj_22, gj_23, gj_24, gj_25, gj_26, gj_27, pj_4, pj_5, pj_9, pj_10, pj_11, pj_12, pj_19, pj_20, pj_26, ij_1, ij_2, ij_3, ij_4, ij_5, ij_6, ij_7, ij_8, ij_9, ij_10, ij_11, ij_12, ij_13, ij_14, ij_15, ij_16, ij_17, ij_18, ij_19, vf_1, vf_2, vf_3, vf_4, vf_5, vf_6, vf_7, vf_8, vf_9, vf_10, vf_11, vf_12, vf_13, vf_14, vf_15, vf_16, vf_17, vf_18, vf_19, sj]
  have hlp := lp_mend (n := n) (w := w) (c := c) (f := f) h hy hl0 hop (d_Qv n w c f (z_co (z_s z z.2.2.2.1 (s_e2 z y).2.2 (y.1, y.2.1, true, y.2.2.2.1, (s_e2 z y).1, (s_e2 z y).2.1, y.2.2.2.2.2.2)) (y.1, y.2.1, true, y.2.2.2.1, (s_e2 z y).1, (s_e2 z y).2.1, y.2.2.2.2.2.2)))
  refine hlp (fun U1 h1 p q => hfin U1 p q h1) (a_nl y.2.2.2.1 12).length 0 0 U none none (by omega) (by decide) rfl s8 a5 (fun e1 x he1 _ => by omega) ⟨fun _ _ _ _ _ _ => rfl, fun _ _ => rfl, rfl, fun _ _ => rfl⟩
theorem nl_note {nt : Nat → Option (Int32 × Int32)} {k : Nat} {u : Int32 × Int32} (h : ∀ j, (nt j).isSome = true → j < k) : ∀ (m : Nat), a_nl (va_up nt k (some u)) m = if k < m then a_nl nt m ++ [k] else a_nl nt m
  | 0 => by rw [if_neg (by omega)]; rfl
  | m + 1 => by
    have ih := nl_note h (u := u) m
    simp only [a_nl]
    rw [ih]
    by_cases hk : k < m
    · have h1 : va_up nt k (some u) m = nt m := by unfold va_up; rw [if_neg (by omega)]
      have h2 : ¬ (nt m).isSome = true := fun e => by have := h m e; omega
      have h3 : k < m + 1 := by omega
      simp only [if_pos hk, if_pos h3, h1, if_neg h2, List.append_nil]
    · rw [if_neg hk]
      by_cases he : k = m
      · subst he
        have h1 : va_up nt k (some u) k = some u := by unfold va_up; rw [if_pos rfl]
        have h2 : ¬ (nt k).isSome = true := fun e => by have := h k e; omega
        have h3 : k < k + 1 := by omega
        simp only [h1, Option.isSome_some, if_true, if_pos h3, if_neg h2, List.append_nil]
      · have h1 : va_up nt k (some u) m = nt m := by unfold va_up; rw [if_neg (by omega)]
        have h3 : ¬ k < m + 1 := by omega
        simp only [h1, if_neg h3]
theorem x_mnote {U : v_N} {z : a_Z} {y : a_S} {m : a_M} (h : dR U z) (hy : z.2.2.2.2.2 = some y) (hen : y.2.2.1 = false) (hm : cM U 2790 m) (hk : m.2.1 < 12) (hgt : ∀ j, (y.2.2.2.1 j).isSome = true → j < m.2.1) : mt_P sm_MD_note [.inr (some c), .inl (nI 2790)] (n, w, imr c U f) (d_Qv n w c f (z_s z z.2.2.2.1 z.2.2.2.2.1 (y.1, y.2.1, y.2.2.1, va_up y.2.2.2.1 m.2.1 (some (m.2.2.2.1, m.2.2.2.2.1)), y.2.2.2.2))) := by
  obtain ⟨a1, a2, a3, a4, a5, a6⟩ := id h
  rw [hy] at a6
  obtain ⟨s1, s2, s3, s4, s5, s6, s7, s8, s9⟩ := a6
  have hnl := nl_note (u := (m.2.2.2.1, m.2.2.2.2.1)) hgt 12
  rw [if_pos hk] at hnl
  have hL : (a_nl y.2.2.2.1 12).length < 12 := by
    have h9 := nl_len (nt := va_up y.2.2.2.1 m.2.1 (some (m.2.2.2.1, m.2.2.2.2.1))) 12
    rw [hnl, List.length_append] at h9
    simp only [List.length_cons, List.length_nil] at h9
    omega
  obtain ⟨g1, g2⟩ := s6
  generalize hLe : (a_nl y.2.2.2.1 12).length = L at hL g1
  have hx := mt_ix_nI (j := L) (n := 12) hL (by decide)
  have hx1 := mt_ix_nI (j := 2790 + 1) (n := 2880) (by decide) (by decide)
  have hx3 := mt_ix_nI (j := 2790 + 3) (n := 2880) (by decide) (by decide)
  have hx4 := mt_ix_nI (j := 2790 + 4) (n := 2880) (by decide) (by decide)
  obtain ⟨m0, m1, m2, m3, m4, -⟩ := hm
  simp only [Nat.reduceAdd] at hx1 hx3 hx4 m1 m3 m4
  refine mt_P_of ?_
  simp only [k_MD_note_0, mt_kk, mt_l0, lget, lput, mt_pop, g_nil, g_const, g_null, g_iload, g_aload, g_istore, g_astore, g_iinc, g_add, g_sub, g_mul, g_and, g_xor, g_div, g_rem, g_dup, g_dup2, g_pop, g_get, g_putI, g_putZ, g_putA, g_iald, g_zald, g_iast, g_zast, g_aald, g_aast, g_alen, g_new, g_newI, g_newA, g_objinit, l_fall, l_ifeq, l_ifne, l_iflt, l_ifge, l_ifgt, l_ifle, l_iceq, l_icne, l_iclt, l_icge, l_icgt, l_icle, l_nullN, l_nullS, l_nonnullN, l_nonnullS, l_acne, l_callV, l_callI, l_callS, l_ret, l_iret, l_zret, l_aret, l_after, List.length_cons, List.length_nil, Nat.reduceAdd, Nat.reduceLT, Nat.reduceLeDiff, Nat.reduceEqDiff, and_self, and_true, true_and, if_true, if_false, reduceIte, ite_true, ite_false, beq_self_eq_true, Nat.zero_add, Option.toList_some, Option.toList_none, List.cons_append, List.nil_append, gj_0, gj_1, gj_2, gj_3, gj_4, gj_5, gj_6, gj_7, gj_8, gj_9, gj_10, gj_11, gj_12, gj_13, gj_14, gj_15, gj_16, gj_17, gj_18, gj_19, gj_20, gj_21, gj_22, gj_23, gj_24, gj_25, gj_26, gj_27, pj_4, pj_5, pj_9, pj_10, pj_11, pj_12, pj_19, pj_20, pj_26, ij_1, ij_2, ij_3, ij_4, ij_5, ij_6, ij_7, ij_8, ij_9, ij_10, ij_11, ij_12, ij_13, ij_14, ij_15, ij_16, ij_17, ij_18, ij_19, vf_1, vf_2, vf_3, vf_4, vf_5, vf_6, vf_7, vf_8, vf_9, vf_10, vf_11, vf_12, vf_13, vf_14, vf_15, vf_16, vf_17, vf_18, vf_19, sj, g1, hx, nI_add, hx1, hx3, hx4, m1, up_ne (show 0 ≠ 8 by decide), up_ne (show 0 ≠ 9 by decide), up_ne (show 0 ≠ 10 by decide), up_ne (show 0 ≠ 11 by decide), up_ne (show 13 ≠ 8 by decide), up_ne (show 13 ≠ 9 by decide), m3, m4, z_1]
  generalize hUa : vu (vu (vu (vu (vu U 8 L (nI m.2.1)) 9 L m.2.2.2.1) 10 L m.2.2.2.2.1) 11 L (nI 1)) 0 12 (nI (L + 1)) = Ua
  have g : ∀ q, q ≠ 0 → q < 8 ∨ 11 < q → Ua q = U q := fun q e e2 => by rw [← hUa, vu_off e, vu_off (by omega), vu_off (by omega), vu_off (by omega), vu_off (by omega)]
  have g0 : ∀ k, k ≠ 12 → Ua 0 k = U 0 k := fun k e => by rw [← hUa, vu_slot e, up_ne (by decide), up_ne (by decide), up_ne (by decide), up_ne (by decide)]
  refine ⟨Ua, rfl, dR_new h hy (fun k hk => g0 k (by omega)) (fun q q1 q2 => g q (by omega) (by omega)) (hR_congr (g0 20 (by decide)) (fun q q1 q2 => g q (by omega) (by omega)) a4) (fun k hk => by rw [g 19 (by decide) (by decide)]; exact a5 k hk) ⟨?_, ?_⟩ (fun e => by rw [hen] at e; cases e) (nR_congr (by rw [g 12 (by decide) (by decide)]) (fun i _ => by rw [g 13 (by decide) (by decide)]) s8) (nR_congr (by rw [g 12 (by decide) (by decide)]) (fun i _ => by rw [g 13 (by decide) (by decide)]) s9)⟩
  · rw [hnl, List.length_append, hLe, ← hUa, vu_same]; rfl
  · intro e k he
    rw [hnl] at he
    by_cases hel : e < L
    · rw [List.getElem?_append_left (by omega)] at he
      obtain ⟨b1, b2⟩ := g2 e k he
      have hkn : k ≠ m.2.1 := by
        have := (nl_mem.mp (List.mem_of_getElem? he)).2
        have := hgt k this
        omega
      refine ⟨?_, fun u hu => ?_⟩
      · rw [← hUa, up_ne (by decide), up_ne (by decide), up_ne (by decide), up_ne (by decide), vu_slot (by omega)]; exact b1
      · unfold va_up at hu
        rw [if_neg hkn] at hu
        obtain ⟨b3, b4⟩ := b2 u hu
        refine ⟨?_, ?_⟩
        · rw [← hUa, up_ne (by decide), up_ne (by decide), up_ne (by decide), vu_slot (by omega), up_ne (by decide)]; exact b3
        · rw [← hUa, up_ne (by decide), up_ne (by decide), vu_slot (by omega), up_ne (by decide), up_ne (by decide)]; exact b4
    · rw [List.getElem?_append_right (by omega), hLe] at he
      have hz : e - L < 1 := (List.getElem?_eq_some_iff.mp he).1
      have hee : e = L := by omega
      subst hee
      rw [Nat.sub_self] at he
      cases he
      refine ⟨?_, fun u hu => ?_⟩
      · rw [← hUa, up_ne (by decide), up_ne (by decide), up_ne (by decide), up_ne (by decide), vu_same]
      · unfold va_up at hu
        rw [if_pos rfl] at hu
        cases hu
        refine ⟨?_, ?_⟩
        · rw [← hUa, up_ne (by decide), up_ne (by decide), up_ne (by decide), vu_same]
        · rw [← hUa, up_ne (by decide), up_ne (by decide), vu_same]
theorem lp_tk1 {U0 : v_N} {p ln : Nat} (hp : p + 90 ≤ 2790) (Q : m_R → Prop) (hq : ∀ U1, (∀ q, q ≠ 13 → U1 q = U0 q) → (∀ i, i < 90 → U1 13 (2790 + i) = U0 13 (p + i)) → (∀ i, i < 2790 → U1 13 i = U0 13 i) → mt_T cd_MD_take 58 ([some (.inr (some c)), some (.inl (nI ln)), some (.inl (nI p)), some (.inl (nI 2790)), some (.inl (nI 90))], [], (n, w, imr c U1 f)) Q) (d : Nat) : ∀ (k : Nat) (U : v_N), k + d = 90 → (∀ q, q ≠ 13 → U q = U0 q) → (∀ i, i < k → U 13 (2790 + i) = U0 13 (p + i)) → (∀ i, i < 2790 → U 13 i = U0 13 i) → mt_T cd_MD_take 27 ([some (.inr (some c)), some (.inl (nI ln)), some (.inl (nI p)), some (.inl (nI 2790)), some (.inl (nI k))], [], (n, w, imr c U f)) Q := by
  induction d with
  | zero =>
    intro k U hd h1 h2 h3
    have hd : k = 90 := hd
    subst hd
    rw [k_MD_take_27]
    simp only [mt_kk, mt_l0, lget, lput, mt_pop, g_nil, g_const, g_null, g_iload, g_aload, g_istore, g_astore, g_iinc, g_add, g_sub, g_mul, g_and, g_xor, g_div, g_rem, g_dup, g_dup2, g_pop, g_get, g_putI, g_putZ, g_putA, g_iald, g_zald, g_iast, g_zast, g_aald, g_aast, g_alen, g_new, g_newI, g_newA, g_objinit, l_fall, l_ifeq, l_ifne, l_iflt, l_ifge, l_ifgt, l_ifle, l_iceq, l_icne, l_iclt, l_icge, l_icgt, l_icle, l_nullN, l_nullS, l_nonnullN, l_nonnullS, l_acne, l_callV, l_callI, l_callS, l_ret, l_iret, l_zret, l_aret, l_after, List.length_cons, List.length_nil, Nat.reduceAdd, Nat.reduceLT, Nat.reduceLeDiff, Nat.reduceEqDiff, and_self, and_true, true_and, if_true, if_false, reduceIte, ite_true, ite_false, beq_self_eq_true, Nat.zero_add, Option.toList_some, Option.toList_none, List.cons_append, List.nil_append, gj_0, gj_1, gj_2, gj_3, gj_4, gj_5, gj_6, gj_7, gj_8, gj_9, gj_10, gj_11, gj_12, gj_13, gj_14, gj_15, gj_16, gj_17, gj_18, gj_19, gj_20, gj_21, gj_22, gj_23, gj_24, gj_25, gj_26, gj_27, pj_4, pj_5, pj_9, pj_10, pj_11, pj_12, pj_19, pj_20, pj_26, ij_1, ij_2, ij_3, ij_4, ij_5, ij_6, ij_7, ij_8, ij_9, ij_10, ij_11, ij_12, ij_13, ij_14, ij_15, ij_16, ij_17, ij_18, ij_19, vf_1, vf_2, vf_3, vf_4, vf_5, vf_6, vf_7, vf_8, vf_9, vf_10, vf_11, vf_12, vf_13, vf_14, vf_15, vf_16, vf_17, vf_18, vf_19, sj, eq_true (Int32.le_refl (nI 90))]
    exact hq U h1 h2 h3
  | succ d ih =>
    intro k U hd h1 h2 h3
    have hx := mt_ix_nI (j := 2790 + k) (n := 2880) (by omega) (by decide)
    have hx2 := mt_ix_nI (j := p + k) (n := 2880) (by omega) (by decide)
    rw [k_MD_take_27]
    simp only [k_MD_take_34, mt_kk, mt_l0, lget, lput, mt_pop, g_nil, g_const, g_null, g_iload, g_aload, g_istore, g_astore, g_iinc, g_add, g_sub, g_mul, g_and, g_xor, g_div, g_rem, g_dup, g_dup2, g_pop, g_get, g_putI, g_putZ, g_putA, g_iald, g_zald, g_iast, g_zast, g_aald, g_aast, g_alen, g_new, g_newI, g_newA, g_objinit, l_fall, l_ifeq, l_ifne, l_iflt, l_ifge, l_ifgt, l_ifle, l_iceq, l_icne, l_iclt, l_icge, l_icgt, l_icle, l_nullN, l_nullS, l_nonnullN, l_nonnullS, l_acne, l_callV, l_callI, l_callS, l_ret, l_iret, l_zret, l_aret, l_after, List.length_cons, List.length_nil, Nat.reduceAdd, Nat.reduceLT, Nat.reduceLeDiff, Nat.reduceEqDiff, and_self, and_true, true_and, if_true, if_false, reduceIte, ite_true, ite_false, beq_self_eq_true, Nat.zero_add, Option.toList_some, Option.toList_none, List.cons_append, List.nil_append, gj_0, gj_1, gj_2, gj_3, gj_4, gj_5, gj_6, gj_7, gj_8, gj_9, gj_10, gj_11, gj_12, gj_13, gj_14, gj_15, gj_16, gj_17, gj_18, gj_19, gj_20, gj_21, gj_22, gj_23, gj_24, gj_25, gj_26, gj_27, pj_4, pj_5, pj_9, pj_10, pj_11, pj_12, pj_19, pj_20, pj_26, ij_1, ij_2, ij_3, ij_4, ij_5, ij_6, ij_7, ij_8, ij_9, ij_10, ij_11, ij_12, ij_13, ij_14, ij_15, ij_16, ij_17, ij_18, ij_19, vf_1, vf_2, vf_3, vf_4, vf_5, vf_6, vf_7, vf_8, vf_9, vf_10, vf_11, vf_12, vf_13, vf_14, vf_15, vf_16, vf_17, vf_18, vf_19, sj, eq_false (nI_ge (show k < 90 by omega) (show 90 < 2 ^ 31 by decide)), nI_add, hx, hx2]
    refine ih (k + 1) _ (by omega) (fun q hq2 => by rw [vu_off hq2]; exact h1 q hq2) (fun j hj => ?_) (fun i hi => by rw [vu_slot (by omega)]; exact h3 i hi)
    by_cases hjk : j = k
    · subst hjk
      rw [vu_same, h3 _ (by omega)]
    · rw [vu_slot (by omega)]
      exact h2 j (by omega)
theorem lp_tk2 {U0 : v_N} {p ln m : Nat} (hp : p + m + 90 ≤ 2790) (hln : ln < 2) (hm : U0 12 ln = nI (m / 90)) (hm9 : 90 * (m / 90) = m) (Q : m_R → Prop) (hq : ∀ U1, (∀ q, q ≠ 13 → U1 q = U0 q) → (∀ i, i < m → U1 13 (p + i) = U0 13 (p + 90 + i)) → (∀ i, i < p ∨ p + m ≤ i → U1 13 i = U0 13 i) → Q (some (.inl (nI 2790)), (n, w, imr c U1 f))) (d : Nat) : ∀ (k : Nat) (U : v_N), k + d = m → (∀ q, q ≠ 13 → U q = U0 q) → (∀ i, i < k → U 13 (p + i) = U0 13 (p + 90 + i)) → (∀ i, i < p ∨ p + k ≤ i → U 13 i = U0 13 i) → mt_T cd_MD_take 61 ([some (.inr (some c)), some (.inl (nI ln)), some (.inl (nI p)), some (.inl (nI 2790)), some (.inl (nI (p + k)))], [], (n, w, imr c U f)) Q := by
  have hxl := mt_ix_nI (j := ln) (n := 2) hln (by decide)
  induction d with
  | zero =>
    intro k U hd h1 h2 h3
    have hd : k = m := hd
    subst hd
    have hw : U 12 ln = nI (k / 90) := by rw [h1 12 (by decide)]; exact hm
    simp only [k_MD_take_61, k_MD_take_100, mt_kk, mt_l0, lget, lput, mt_pop, g_nil, g_const, g_null, g_iload, g_aload, g_istore, g_astore, g_iinc, g_add, g_sub, g_mul, g_and, g_xor, g_div, g_rem, g_dup, g_dup2, g_pop, g_get, g_putI, g_putZ, g_putA, g_iald, g_zald, g_iast, g_zast, g_aald, g_aast, g_alen, g_new, g_newI, g_newA, g_objinit, l_fall, l_ifeq, l_ifne, l_iflt, l_ifge, l_ifgt, l_ifle, l_iceq, l_icne, l_iclt, l_icge, l_icgt, l_icle, l_nullN, l_nullS, l_nonnullN, l_nonnullS, l_acne, l_callV, l_callI, l_callS, l_ret, l_iret, l_zret, l_aret, l_after, List.length_cons, List.length_nil, Nat.reduceAdd, Nat.reduceLT, Nat.reduceLeDiff, Nat.reduceEqDiff, and_self, and_true, true_and, if_true, if_false, reduceIte, ite_true, ite_false, beq_self_eq_true, Nat.zero_add, Option.toList_some, Option.toList_none, List.cons_append, List.nil_append, gj_0, gj_1, gj_2, gj_3, gj_4, gj_5, gj_6, gj_7, gj_8, gj_9, gj_10, gj_11, gj_12, gj_13, gj_14, gj_15, gj_16, gj_17, gj_18, gj_19, gj_20, gj_21, gj_22, gj_23, gj_24, gj_25, gj_26, gj_27, pj_4, pj_5, pj_9, pj_10, pj_11, pj_12, pj_19, pj_20, pj_26, ij_1, ij_2, ij_3, ij_4, ij_5, ij_6, ij_7, ij_8, ij_9, ij_10, ij_11, ij_12, ij_13, ij_14, ij_15, ij_16, ij_17, ij_18, ij_19, vf_1, vf_2, vf_3, vf_4, vf_5, vf_6, vf_7, vf_8, vf_9, vf_10, vf_11, vf_12, vf_13, vf_14, vf_15, vf_16, vf_17, vf_18, vf_19, sj, hxl, hw, pk_mul, hm9, nI_add, eq_true (Int32.le_refl (nI (p + k)))]
    exact hq U h1 h2 h3
  | succ d ih =>
    intro k U hd h1 h2 h3
    have hw : U 12 ln = nI (m / 90) := by rw [h1 12 (by decide)]; exact hm
    have hx := mt_ix_nI (j := p + k) (n := 2880) (by omega) (by decide)
    have hx2 := mt_ix_nI (j := p + k + 90) (n := 2880) (by omega) (by decide)
    rw [k_MD_take_61]
    simp only [k_MD_take_77, mt_kk, mt_l0, lget, lput, mt_pop, g_nil, g_const, g_null, g_iload, g_aload, g_istore, g_astore, g_iinc, g_add, g_sub, g_mul, g_and, g_xor, g_div, g_rem, g_dup, g_dup2, g_pop, g_get, g_putI, g_putZ, g_putA, g_iald, g_zald, g_iast, g_zast, g_aald, g_aast, g_alen, g_new, g_newI, g_newA, g_objinit, l_fall, l_ifeq, l_ifne, l_iflt, l_ifge, l_ifgt, l_ifle, l_iceq, l_icne, l_iclt, l_icge, l_icgt, l_icle, l_nullN, l_nullS, l_nonnullN, l_nonnullS, l_acne, l_callV, l_callI, l_callS, l_ret, l_iret, l_zret, l_aret, l_after, List.length_cons, List.length_nil, Nat.reduceAdd, Nat.reduceLT, Nat.reduceLeDiff, Nat.reduceEqDiff, and_self, and_true, true_and, if_true, if_false, reduceIte, ite_true, ite_false, beq_self_eq_true, Nat.zero_add, Option.toList_some, Option.toList_none, List.cons_append, List.nil_append, gj_0, gj_1, gj_2, gj_3, gj_4, gj_5, gj_6, gj_7, gj_8, gj_9, gj_10, gj_11, gj_12, gj_13, gj_14, gj_15, gj_16, gj_17, gj_18, gj_19, gj_20, gj_21, gj_22, gj_23, gj_24, gj_25, gj_26, gj_27, pj_4, pj_5, pj_9, pj_10, pj_11, pj_12, pj_19, pj_20, pj_26, ij_1, ij_2, ij_3, ij_4, ij_5, ij_6, ij_7, ij_8, ij_9, ij_10, ij_11, ij_12, ij_13, ij_14, ij_15, ij_16, ij_17, ij_18, ij_19, vf_1, vf_2, vf_3, vf_4, vf_5, vf_6, vf_7, vf_8, vf_9, vf_10, vf_11, vf_12, vf_13, vf_14, vf_15, vf_16, vf_17, vf_18, vf_19, sj, hxl, hw, pk_mul, hm9, nI_add, eq_false (nI_ge (show p + k < p + m by omega) (show p + m < 2 ^ 31 by omega)), hx, hx2]
    refine ih (k + 1) _ (by omega) (fun q hq2 => by rw [vu_off hq2]; exact h1 q hq2) (fun j hj => ?_) (fun i hi => by rw [vu_slot (by omega)]; exact h3 i (by omega))
    by_cases hjk : j = k
    · subst hjk
      rw [vu_same, h3 _ (by omega), show p + j + 90 = p + 90 + j by omega]
    · rw [vu_slot (by omega)]
      exact h2 j (by omega)
theorem x_take {U : v_N} {ln : Nat} {m : a_M} {t : List a_M} (hln : ln < 2) (h : nR U ln (m :: t)) : mt_P sm_MD_take [.inr (some c), .inl (nI ln)] (n, w, imr c U f) (fun r => ∃ U1, r = (some (.inl (nI 2790)), (n, w, imr c U1 f)) ∧ nR U1 ln t ∧ cM U1 2790 m ∧ (∀ q, q ≠ 12 → q ≠ 13 → U1 q = U q) ∧ (∀ k, k ≠ ln → U1 12 k = U 12 k) ∧ ∀ i, i < 1440 * ln ∨ 1440 * ln + 1170 ≤ i → i < 2790 → U1 13 i = U 13 i) := by
  obtain ⟨h1, h2, h3⟩ := h
  rw [List.length_cons] at h1 h2
  have hxl := mt_ix_nI (j := ln) (n := 2) hln (by decide)
  have e1 : nI (t.length + 1) - nI 1 = nI t.length := by rw [pk_sub (by omega)]; rfl
  refine mt_P_of ?_
  simp only [k_MD_take_0, mt_kk, mt_l0, lget, lput, mt_pop, g_nil, g_const, g_null, g_iload, g_aload, g_istore, g_astore, g_iinc, g_add, g_sub, g_mul, g_and, g_xor, g_div, g_rem, g_dup, g_dup2, g_pop, g_get, g_putI, g_putZ, g_putA, g_iald, g_zald, g_iast, g_zast, g_aald, g_aast, g_alen, g_new, g_newI, g_newA, g_objinit, l_fall, l_ifeq, l_ifne, l_iflt, l_ifge, l_ifgt, l_ifle, l_iceq, l_icne, l_iclt, l_icge, l_icgt, l_icle, l_nullN, l_nullS, l_nonnullN, l_nonnullS, l_acne, l_callV, l_callI, l_callS, l_ret, l_iret, l_zret, l_aret, l_after, List.length_cons, List.length_nil, Nat.reduceAdd, Nat.reduceLT, Nat.reduceLeDiff, Nat.reduceEqDiff, and_self, and_true, true_and, if_true, if_false, reduceIte, ite_true, ite_false, beq_self_eq_true, Nat.zero_add, Option.toList_some, Option.toList_none, List.cons_append, List.nil_append, gj_0, gj_1, gj_2, gj_3, gj_4, gj_5, gj_6, gj_7, gj_8, gj_9, gj_10, gj_11, gj_12, gj_13, gj_14, gj_15, gj_16, gj_17, gj_18, gj_19, gj_20, gj_21, gj_22, gj_23, gj_24, gj_25, gj_26, gj_27, pj_4, pj_5, pj_9, pj_10, pj_11, pj_12, pj_19, pj_20, pj_26, ij_1, ij_2, ij_3, ij_4, ij_5, ij_6, ij_7, ij_8, ij_9, ij_10, ij_11, ij_12, ij_13, ij_14, ij_15, ij_16, ij_17, ij_18, ij_19, vf_1, vf_2, vf_3, vf_4, vf_5, vf_6, vf_7, vf_8, vf_9, vf_10, vf_11, vf_12, vf_13, vf_14, vf_15, vf_16, vf_17, vf_18, vf_19, sj, pk_mul, hxl, h1, e1]
  refine lp_tk1 (U0 := vu U 12 ln (nI t.length)) (p := 1440 * ln) (by omega) _ (fun U1 g1 g2 g3 => ?_) 90 0 _ (by omega) (fun _ _ => rfl) (fun i hi => by omega) (fun _ _ => rfl)
  simp only [k_MD_take_58, mt_kk, mt_l0, lget, lput, mt_pop, g_nil, g_const, g_null, g_iload, g_aload, g_istore, g_astore, g_iinc, g_add, g_sub, g_mul, g_and, g_xor, g_div, g_rem, g_dup, g_dup2, g_pop, g_get, g_putI, g_putZ, g_putA, g_iald, g_zald, g_iast, g_zast, g_aald, g_aast, g_alen, g_new, g_newI, g_newA, g_objinit, l_fall, l_ifeq, l_ifne, l_iflt, l_ifge, l_ifgt, l_ifle, l_iceq, l_icne, l_iclt, l_icge, l_icgt, l_icle, l_nullN, l_nullS, l_nonnullN, l_nonnullS, l_acne, l_callV, l_callI, l_callS, l_ret, l_iret, l_zret, l_aret, l_after, List.length_cons, List.length_nil, Nat.reduceAdd, Nat.reduceLT, Nat.reduceLeDiff, Nat.reduceEqDiff, and_self, and_true, true_and, if_true, if_false, reduceIte, ite_true, ite_false, beq_self_eq_true, Nat.zero_add, Option.toList_some, Option.toList_none, List.cons_append, List.nil_append, gj_0, gj_1, gj_2, gj_3, gj_4, gj_5, gj_6, gj_7, gj_8, gj_9, gj_10, gj_11, gj_12, gj_13, gj_14, gj_15, gj_16, gj_17, gj_18, gj_19, gj_20, gj_21, gj_22, gj_23, gj_24, gj_25, gj_26, gj_27, pj_4, pj_5, pj_9, pj_10, pj_11, pj_12, pj_19, pj_20, pj_26, ij_1, ij_2, ij_3, ij_4, ij_5, ij_6, ij_7, ij_8, ij_9, ij_10, ij_11, ij_12, ij_13, ij_14, ij_15, ij_16, ij_17, ij_18, ij_19, vf_1, vf_2, vf_3, vf_4, vf_5, vf_6, vf_7, vf_8, vf_9, vf_10, vf_11, vf_12, vf_13, vf_14, vf_15, vf_16, vf_17, vf_18, vf_19, sj]
  have h61 := lp_tk2 (n := n) (w := w) (c := c) (f := f) (U0 := U1) (p := 1440 * ln) (ln := ln) (m := 90 * t.length) (by omega) hln (by rw [g1 12 (by decide), vu_same, Nat.mul_div_cancel_left _ (by decide)]) (by rw [Nat.mul_div_cancel_left _ (by decide)]) (fun r => ∃ U1, r = (some (.inl (nI 2790)), (n, w, imr c U1 f)) ∧ nR U1 ln t ∧ cM U1 2790 m ∧ (∀ q, q ≠ 12 → q ≠ 13 → U1 q = U q) ∧ (∀ k, k ≠ ln → U1 12 k = U 12 k) ∧ ∀ i, i < 1440 * ln ∨ 1440 * ln + 1170 ≤ i → i < 2790 → U1 13 i = U 13 i)
  refine h61 (fun U2 k1 k2 k3 => ⟨U2, rfl, ⟨?_, by omega, fun i m1 hi => ?_⟩, ?_, ?_, ?_, ?_⟩) (90 * t.length) 0 U1 (by omega) (fun _ _ => rfl) (fun i hi => by omega) (fun _ _ => rfl)
  · rw [k1 12 (by decide), g1 12 (by decide), vu_same]
  · have hil : i < t.length := (List.getElem?_eq_some_iff.mp hi).1
    have hc := h3 (i + 1) m1 hi
    have hcell : ∀ j, j < 90 → U2 13 (1440 * ln + 90 * i + j) = U 13 (1440 * ln + 90 * (i + 1) + j) := fun j hj => by
      rw [show 1440 * ln + 90 * i + j = 1440 * ln + (90 * i + j) by omega, k2 _ (by omega), g3 _ (by omega), up_ne (by decide), show 1440 * ln + 90 + (90 * i + j) = 1440 * ln + 90 * (i + 1) + j by omega]
    exact cM_move hcell hc
  · have hc := h3 0 m rfl
    have hcell : ∀ j, j < 90 → U2 13 (2790 + j) = U 13 (1440 * ln + 90 * 0 + j) := fun j hj => by
      rw [k3 _ (by omega), g2 j hj, up_ne (by decide)]
      rfl
    exact cM_move hcell hc
  · intro q e2 e3
    rw [k1 q e3, g1 q e3, vu_off e2]
  · intro k e
    rw [k1 12 (by decide), g1 12 (by decide), vu_slot e]
  · intro i hi hi2
    rw [k3 i (by omega), g3 i hi2, up_ne (by decide)]
end MD
