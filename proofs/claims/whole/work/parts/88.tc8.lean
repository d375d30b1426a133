/-! The class: deliver. -/
section FI2
variable {code : List m_B} {Q : m_R → Prop} {lv : List (Option m_V)} {st : List m_V} {M : m_M}
theorem l_tsw {lw hi : Int} {d t : Nat} {ts : List Nat} {x : Int32} (h1 : ¬ (x.toInt < lw ∨ hi < x.toInt)) (h2 : ts[(x.toInt - lw).toNat]? = some t) : mt_fin code Q (o_tsw lw hi d ts (lv, .inl x :: st, M)) = mt_T code t (lv, st, M) Q := by
  simp only [o_tsw, h1, if_false, h2]
  exact propext Iff.rfl
end FI2
/-- what an answer to the signature m makes -/
def a_an (fs : Nat → a_F) (blk : Nat) (m : a_M) : a_M := match fs m.2.1 with
  | none => (5, m.2.1, m.2.2.1, 0, 0, [])
  | some u => (4, m.2.1, m.2.2.1, dg (fun i => u.1.getD i 0) u.1.length, 0, a_dl u.1 m.2.2.2.2.2 blk m.2.2.1 u.1.length 0)
def a_ac (fs : Nat → a_F) (ct : Nat → Int32) (blk : Nat) (m : a_M) : Nat → Int32 := match fs m.2.1 with
  | none => ct
  | some u => a_dc ct (a_dl u.1 m.2.2.2.2.2 blk m.2.2.1 u.1.length 0)
theorem dl_len {l s : List Nat} {blk att : Nat} : ∀ (d i : Nat), (a_dl l s blk att d i).length ≤ d
  | 0, i => Nat.le_refl _
  | d + 1, i => by
    simp only [a_dl]
    split
    · split
      · have := dl_len (l := l) (s := s) (blk := blk) (att := att) d (i + blk)
        rw [List.length_cons]; omega
      · have := dl_len (l := l) (s := s) (blk := blk) (att := att) d (i + 1)
        rw [List.length_cons]; omega
    · exact Nat.zero_le _
section TC
variable {n w b : Nat} {f : Nat → Option m_E}
theorem x_fill {V : v_N} {mo o so blk att : Nat} {l s : List Nat} {ct : Nat → Int32} (hi : iR o) (hr : rR V o l) (hby : a_by l) (hb0 : V 0 11 = nI blk) (hb1 : 1 ≤ blk) (hb8 : blk ≤ 8) (hat : att ≤ 2) (ha : V so 4 = nI att) (hm : kd so = 8) (hm1 : kd (so + 1) = 9) (hso : so + 1 < 188) (hit : iT V so s) (hs : s.length ≤ 40) (hx : ∀ x ∈ s, x < 2 ^ 25) (gm : kd mo = 8) (gm1 : kd (mo + 1) = 9) (gmo : mo + 1 < 103) (hne : mo ≠ 0 ∧ mo ≠ o ∧ mo ≠ o + 1 ∧ mo + 1 ≠ o ∧ mo + 1 ≠ o + 1 ∧ mo ≠ so ∧ mo ≠ so + 1 ∧ mo + 1 ≠ so ∧ 103 ≠ o ∧ 103 ≠ o + 1 ∧ 103 ≠ so ∧ 103 ≠ so + 1) (h1 : V mo 6 = nI 0) (h2 : ∀ k, k < 8 → V 103 k = ct k) : mt_P sm_TC_fillDelta [.inr (some b), .inr (some (b + mo)), .inr (some (b + o)), .inr (some (b + so))] (n, w, img b V f) (fun r => ∃ V1, r = (none, (n, w, img b V1 f)) ∧ iT V1 mo (a_dl l s blk att l.length 0) ∧ (∀ k, k < 8 → V1 103 k = a_dc ct (a_dl l s blk att l.length 0) k) ∧ (∀ k, k ≠ 6 → V1 mo k = V mo k) ∧ ch V V1 (fun q => q = mo ∨ q = mo + 1 ∨ q = 103)) := by
  refine mt_P_of ?_
  simp only [k_TC_fillDelta_0, mt_kk, mt_l0, lget, lput, fnth, fset, gf, gi, ga, mt_is, mt_pop, g_nil, g_const, g_null, g_iload, g_aload, g_istore, g_astore, g_iinc, g_add, g_sub, g_mul, g_and, g_xor, g_div, g_rem, g_dup, g_dup2, g_pop, g_get, g_putI, g_putZ, g_putA, g_iald, g_zald, g_iast, g_zast, g_aald, g_aast, g_alen, g_new, g_newI, g_newA, g_objinit, l_fall, l_ifeq, l_ifne, l_iflt, l_ifge, l_ifgt, l_ifle, l_iceq, l_icne, l_iclt, l_icge, l_icgt, l_icle, l_nullN, l_nullS, l_nonnullN, l_nonnullS, l_acne, l_callV, l_callI, l_callS, l_ret, l_iret, l_zret, l_aret, l_after, List.length_cons, List.length_nil, Nat.reduceAdd, Nat.reduceLT, Nat.reduceLeDiff, Nat.reduceEqDiff, and_self, and_true, true_and, if_true, if_false, reduceIte, ite_true, ite_false, beq_self_eq_true, Nat.zero_add, Option.toList_some, Option.toList_none, List.cons_append, List.nil_append]
  exact lp_fill (full := a_dl l s blk att l.length 0) (ctf := a_dc ct (a_dl l s blk att l.length 0)) hi hr hby hb0 hb1 hb8 hat ha hm hm1 hso hit hs hx gm gm1 gmo hne _ (fun V1 g1 g2 g3 g4 => ⟨V1, rfl, g1, g2, g3, g4⟩) l.length 0 0 0 V [] ct none (by omega) (Or.inl ⟨Nat.le_refl _, rfl⟩) (by omega) (Nat.le_refl _) ⟨h1, fun j hj => by cases hj⟩ h2 (fun _ _ => rfl) ch_0 rfl rfl
theorem x_answer {V : v_N} {so blk : Nat} {fs : Nat → a_F} {ct : Nat → Int32} {l1 : List a_M} {m : a_M} (hk3 : m.1 = 3) (hnm : m.2.1 < 12) (hat : m.2.2.1 ≤ 2) (hx : ∀ x ∈ m.2.2.2.2.2, x < 2 ^ 25) (hso : 6 < so ∧ so + 1 < 34) (hm : kd so = 8) (hm1 : kd (so + 1) = 9) (hms : mR V so m) (hf : ∀ i, i < 24 → fR V (104 + 3 * i) (fs i)) (hb0 : V 0 11 = nI blk) (hb1 : 1 ≤ blk) (hb8 : blk ≤ 8) (hl : lR V 34 l1) (hlen : l1.length < 13) (hct : ∀ k, k < 8 → V 103 k = ct k) : mt_P sm_TC_answerSignature [.inr (some b), .inr (some (b + so))] (n, w, img b V f) (fun r => ∃ V1, r = (none, (n, w, img b V1 f)) ∧ lR V1 34 (l1 ++ [a_an fs blk m]) ∧ (∀ k, k < 8 → V1 103 k = a_ac fs ct blk m k) ∧ ch V V1 (fun q => 34 ≤ q ∧ q < 62 ∨ q = 103)) := by
  obtain ⟨mk, mn, -, mb, -⟩ := hms
  obtain ⟨mb1, mb2, mb3, mb4⟩ := mb (Or.inl hk3)
  have hfi := hf m.2.1 (by omega)
  obtain ⟨q1, q2, q3, q4, q5, q6⟩ := kd_file m.2.1 (by omega)
  obtain ⟨p, hP, hc⟩ := lP_of hl
  have hpm := Nat.mod_lt (p + l1.length) (show 0 < 13 by decide)
  obtain ⟨m1, m2, m3, m4⟩ := iL_ms (o := 34) (Or.inr rfl) hpm
  have happ := fun kk => x_Li_append (n := n) (w := w) (b := b) (f := f) (k := kk) (nm := nI m.2.1) (Or.inr rfl) hP.1 hlen hP.2.1 hc
  generalize hmo : 34 + 1 + 1 + 2 * ((p + l1.length) % 13) = mo at m1 m2 m3 m4
  rw [hmo] at happ
  refine mt_P_of ?_
  cases hfx : fs m.2.1 with
  | none =>
    rw [hfx] at hfi
    simp only [k_TC_answerSignature_0, k_TC_answerSignature_9, k_TC_answerSignature_14, k_TC_answerSignature_26, mt_kk, mt_l0, lget, lput, fnth, fset, gf, gi, ga, mt_is, mt_pop, g_nil, g_const, g_null, g_iload, g_aload, g_istore, g_astore, g_iinc, g_add, g_sub, g_mul, g_and, g_xor, g_div, g_rem, g_dup, g_dup2, g_pop, g_get, g_putI, g_putZ, g_putA, g_iald, g_zald, g_iast, g_zast, g_aald, g_aast, g_alen, g_new, g_newI, g_newA, g_objinit, l_fall, l_ifeq, l_ifne, l_iflt, l_ifge, l_ifgt, l_ifle, l_iceq, l_icne, l_iclt, l_icge, l_icgt, l_icle, l_nullN, l_nullS, l_nonnullN, l_nonnullS, l_acne, l_callV, l_callI, l_callS, l_ret, l_iret, l_zret, l_aret, l_after, List.length_cons, List.length_nil, Nat.reduceAdd, Nat.reduceLT, Nat.reduceLeDiff, Nat.reduceEqDiff, and_self, and_true, true_and, if_true, if_false, reduceIte, ite_true, ite_false, beq_self_eq_true, Nat.zero_add, Option.toList_some, Option.toList_none, List.cons_append, List.nil_append, if_0, if_34, im_Ms (show so < 188 by omega) hm, mn, x_file0z hnm hfi.1, happ]
    refine ⟨_, rfl, ?_, ?_, ch_u (ch_u (ch_u (ch_u ch_0 (by omega)) (by omega)) (by omega)) (by omega)⟩
    · rw [← hmo]
      refine lR_new hP hlen ?_ vu_same ?_ ?_
      · rw [vu_slot (by decide), up_ne (by omega), up_ne (by omega), up_ne (by omega)]
      · intro q g1 g2 g3 g4
        rw [vu_off (by omega), vu_off g3, vu_off g3, vu_off g3]
      · unfold a_an
        rw [hfx]
        refine ⟨?_, ?_, fun e => (by cases e), fun e => (by rcases e with e | e <;> cases e), fun e => (by cases e)⟩
        · rw [up_ne (by omega), vu_slot (by decide), vu_slot (by decide), vu_same]
        · rw [up_ne (by omega), vu_slot (by decide), vu_same]
    · intro k hk
      rw [up_ne (by omega), up_ne (by omega), up_ne (by omega), up_ne (by omega)]
      unfold a_ac
      rw [hfx]
      exact hct k hk
  | some u =>
    rw [hfx] at hfi
    obtain ⟨f1, f2, f3, f4⟩ := hfi
    have hir := iR_file (p := m.2.1) (by omega)
    simp only [k_TC_answerSignature_0, k_TC_answerSignature_9, k_TC_answerSignature_28, mt_kk, mt_l0, lget, lput, fnth, fset, gf, gi, ga, mt_is, mt_pop, g_nil, g_const, g_null, g_iload, g_aload, g_istore, g_astore, g_iinc, g_add, g_sub, g_mul, g_and, g_xor, g_div, g_rem, g_dup, g_dup2, g_pop, g_get, g_putI, g_putZ, g_putA, g_iald, g_zald, g_iast, g_zast, g_aald, g_aast, g_alen, g_new, g_newI, g_newA, g_objinit, l_fall, l_ifeq, l_ifne, l_iflt, l_ifge, l_ifgt, l_ifle, l_iceq, l_icne, l_iclt, l_icge, l_icgt, l_icle, l_nullN, l_nullS, l_nonnullN, l_nonnullS, l_acne, l_callV, l_callI, l_callS, l_ret, l_iret, l_zret, l_aret, l_after, List.length_cons, List.length_nil, Nat.reduceAdd, Nat.reduceLT, Nat.reduceLeDiff, Nat.reduceEqDiff, and_self, and_true, true_and, if_true, if_false, reduceIte, ite_true, ite_false, beq_self_eq_true, Nat.zero_add, Option.toList_some, Option.toList_none, List.cons_append, List.nil_append, if_0, if_34, im_Ms (show so < 188 by omega) hm, mn, x_file0 hnm f1, happ]
    generalize hVa : vu (vu (vu (vu V mo 0 (nI 4)) mo 1 (nI m.2.1)) mo 6 (nI 0)) 34 2 (nI (l1.length + 1)) = Va
    have ga : ∀ q, q ≠ mo → q ≠ 34 → Va q = V q := fun q e1 e2 => by rw [← hVa, vu_off e2, vu_off e1, vu_off e1, vu_off e1]
    have a4 : Va so 4 = nI m.2.2.1 := by rw [ga so (by omega) (by omega)]; exact mb1
    have hr1 : rR (vu Va mo 4 (nI m.2.2.1)) (104 + 3 * m.2.1 + 1) u.1 := rR_congr (by rw [vu_off (by omega), ga _ (by omega) (by omega)]) (by rw [vu_off (by omega), ga _ (by omega) (by omega)]) f3
    simp only [k_TC_answerSignature_40, k_TC_answerSignature_57, mt_kk, mt_l0, lget, lput, fnth, fset, gf, gi, ga, mt_is, mt_pop, g_nil, g_const, g_null, g_iload, g_aload, g_istore, g_astore, g_iinc, g_add, g_sub, g_mul, g_and, g_xor, g_div, g_rem, g_dup, g_dup2, g_pop, g_get, g_putI, g_putZ, g_putA, g_iald, g_zald, g_iast, g_zast, g_aald, g_aast, g_alen, g_new, g_newI, g_newA, g_objinit, l_fall, l_ifeq, l_ifne, l_iflt, l_ifge, l_ifgt, l_ifle, l_iceq, l_icne, l_iclt, l_icge, l_icgt, l_icle, l_nullN, l_nullS, l_nonnullN, l_nonnullS, l_acne, l_callV, l_callI, l_callS, l_ret, l_iret, l_zret, l_aret, l_after, List.length_cons, List.length_nil, Nat.reduceAdd, Nat.reduceLT, Nat.reduceLeDiff, Nat.reduceEqDiff, and_self, and_true, true_and, if_true, if_false, reduceIte, ite_true, ite_false, beq_self_eq_true, Nat.zero_add, Option.toList_some, Option.toList_none, List.cons_append, List.nil_append, if_0, im_Ms (show so < 188 by omega) hm, im_Ms m2 m1, a4, pf_Ms_4 m2 m1, pf_Ms_5 m2 m1, im_Sf q2 q1, im_Ro q4 q3, x_digest hir hr1 f4.1]
    have gb : ∀ q, q ≠ mo → q ≠ 34 → vu (vu Va mo 4 (nI m.2.2.1)) mo 5 (dg (fun i => u.1.getD i 0) u.1.length) q = V q := fun q e1 e2 => by rw [vu_off e1, vu_off e1, ga q e1 e2]
    refine mt_call (x_fill (ct := ct) (att := m.2.2.1) (s := m.2.2.2.2.2) hir (rR_congr (gb _ (by omega) (by omega)) (gb _ (by omega) (by omega)) f3) f4 (by rw [gb 0 (by omega) (by omega)]; exact hb0) hb1 hb8 hat (by rw [gb so (by omega) (by omega)]; exact mb1) hm hm1 (by omega) ⟨by rw [gb so (by omega) (by omega)]; exact mb2, by rw [gb (so + 1) (by omega) (by omega)]; exact mb4⟩ mb3 hx m1 m3 (by omega) ⟨by omega, by omega, by omega, by omega, by omega, by omega, by omega, by omega, by omega, by omega, by omega, by omega⟩ ?_ (fun k hk => by rw [gb 103 (by omega) (by omega)]; exact hct k hk)) ?_
    · rw [vu_slot (by decide), vu_slot (by decide), ← hVa, up_ne (by omega), vu_same]
    · rintro r ⟨V1, rfl, g1, g2, g3, g4⟩
      simp only [k_TC_answerSignature_70, mt_kk, mt_l0, lget, lput, fnth, fset, gf, gi, ga, mt_is, mt_pop, g_nil, g_const, g_null, g_iload, g_aload, g_istore, g_astore, g_iinc, g_add, g_sub, g_mul, g_and, g_xor, g_div, g_rem, g_dup, g_dup2, g_pop, g_get, g_putI, g_putZ, g_putA, g_iald, g_zald, g_iast, g_zast, g_aald, g_aast, g_alen, g_new, g_newI, g_newA, g_objinit, l_fall, l_ifeq, l_ifne, l_iflt, l_ifge, l_ifgt, l_ifle, l_iceq, l_icne, l_iclt, l_icge, l_icgt, l_icle, l_nullN, l_nullS, l_nonnullN, l_nonnullS, l_acne, l_callV, l_callI, l_callS, l_ret, l_iret, l_zret, l_aret, l_after, List.length_cons, List.length_nil, Nat.reduceAdd, Nat.reduceLT, Nat.reduceLeDiff, Nat.reduceEqDiff, and_self, and_true, true_and, if_true, if_false, reduceIte, ite_true, ite_false, beq_self_eq_true, Nat.zero_add, Option.toList_some, Option.toList_none, List.cons_append, List.nil_append]
      refine ⟨V1, rfl, ?_, ?_, ?_⟩
      · rw [← hmo] at g1 g3 g4 gb hVa
        refine lR_new hP hlen ?_ ?_ ?_ ?_
        · rw [g4 34 (by omega), up_ne (by omega), up_ne (by omega), ← hVa, vu_slot (by decide), up_ne (by omega), up_ne (by omega), up_ne (by omega)]
        · rw [g4 34 (by omega), up_ne (by omega), up_ne (by omega), ← hVa, vu_same]
        · intro q e1 e2 e3 e4
          rw [g4 q (by omega), gb q e3 (by omega)]
        · unfold a_an
          rw [hfx]
          refine ⟨?_, ?_, fun e => (by cases e), fun _ => ⟨?_, g1.1, Nat.le_trans (dl_len _ _) f4.1, g1.2⟩, fun _ => ?_⟩
          · rw [g3 0 (by decide), vu_slot (by decide), vu_slot (by decide), ← hVa, up_ne (by omega), vu_slot (by decide), vu_slot (by decide), vu_same]
          · rw [g3 1 (by decide), vu_slot (by decide), vu_slot (by decide), ← hVa, up_ne (by omega), vu_slot (by decide), vu_same]
          · rw [g3 4 (by decide), vu_slot (by decide), vu_same]
          · rw [g3 5 (by decide), vu_same]
      · unfold a_ac
        rw [hfx]
        exact g2
      · intro q hq
        rw [g4 q (by omega), gb q (by omega) (by omega)]
end TC
