/-! The class: a signature is answered. -/
def a_mi (x : Option Nat) : Int32 := match x with
  | some k => nI k
  | none => -1
theorem nI_m1 {k : Nat} (h : k < 2 ^ 31) : (nI k = -1) = False := eq_false (fun e => by
  have h1 := congrArg Int32.toInt e
  rw [nI_toInt h] at h1
  have h2 : (-1 : Int32).toInt = -1 := by decide
  omega)
theorem fd_ge {W : Nat} : ∀ (s : List Nat) (k j : Nat), a_fd s W k = some j → k ≤ j ∧ j < k + s.length
  | [], k, j, h => by cases h
  | x :: t, k, j, h => by
    simp only [a_fd] at h
    split at h
    · cases h
      rw [List.length_cons]; omega
    · have := fd_ge t (k + 1) j h
      rw [List.length_cons]; omega
theorem sw_lt {g : Nat → Nat} {m a : Nat} : sw g m a < 2 ^ 25 := by
  have h1 := wk_lt (g := g) (m := m)
  have h2 := ss_lt (g := g) (m := m) (att := a)
  unfold sw
  omega
theorem dl_0 {l s : List Nat} {blk att : Nat} : ∀ (d i : Nat), l.length ≤ i → a_dl l s blk att d i = []
  | 0, i, _ => rfl
  | d + 1, i, h => by simp only [a_dl]; rw [if_neg (by omega)]
theorem dl_fuel {l s : List Nat} {blk att : Nat} (hb : 1 ≤ blk) : ∀ (d d2 i : Nat), l.length ≤ i + d → l.length ≤ i + d2 → a_dl l s blk att d i = a_dl l s blk att d2 i
  | 0, d2, i, h1, h2 => (dl_0 d2 i (by omega)).symm
  | d + 1, 0, i, h1, h2 => dl_0 (d + 1) i (by omega)
  | d + 1, d2 + 1, i, h1, h2 => by
    simp only [a_dl]
    by_cases hi : i < l.length
    · rw [if_pos hi, if_pos hi]
      cases a_mt l s blk att i with
      | none => simp only []; rw [dl_fuel hb d d2 (i + 1) (by omega) (by omega)]
      | some k => simp only []; rw [dl_fuel hb d d2 (i + blk) (by omega) (by omega)]
    · rw [if_neg hi, if_neg hi]
section TC
variable {n w b : Nat} {f : Nat → Option m_E}
theorem lp_find {V : v_N} {so : Nat} {s : List Nat} {lr : Option m_V} {fi W : Nat} (hm : kd so = 8) (hm1 : kd (so + 1) = 9) (hso : so + 1 < 188) (hit : iT V so s) (hs : s.length ≤ 40) (hx : ∀ x ∈ s, x < 2 ^ 25) (hW : W < 2 ^ 25) (Q : m_R → Prop) (hq : Q (some (.inl (a_mi (a_fd s W 0))), (n, w, img b V f))) (d : Nat) : ∀ (k : Nat), k + d = s.length → a_fd s W 0 = a_fd (s.drop k) W k → mt_T cd_TC_findBlock 33 ([some (.inr (some b)), lr, some (.inl (nI fi)), some (.inr (some (b + so))), some (.inl (nI W)), some (.inl (nI k))], [], (n, w, img b V f)) Q := by
  induction d with
  | zero =>
    intro k hd h1
    have hd : k = s.length := hd
    subst hd
    rw [List.drop_length] at h1
    have h1 : a_fd s W 0 = none := h1
    rw [h1] at hq
    simp only [k_TC_findBlock_33, k_TC_findBlock_63, mt_kk, mt_l0, lget, lput, fnth, fset, gf, gi, ga, mt_is, mt_pop, g_nil, g_const, g_null, g_iload, g_aload, g_istore, g_astore, g_iinc, g_add, g_sub, g_mul, g_and, g_xor, g_div, g_rem, g_dup, g_dup2, g_pop, g_get, g_putI, g_putZ, g_putA, g_iald, g_zald, g_iast, g_zast, g_aald, g_aast, g_alen, g_new, g_newI, g_newA, g_objinit, l_fall, l_ifeq, l_ifne, l_iflt, l_ifge, l_ifgt, l_ifle, l_iceq, l_icne, l_iclt, l_icge, l_icgt, l_icle, l_nullN, l_nullS, l_nonnullN, l_nonnullS, l_acne, l_callV, l_callI, l_callS, l_ret, l_iret, l_zret, l_aret, l_after, List.length_cons, List.length_nil, Nat.reduceAdd, Nat.reduceLT, Nat.reduceLeDiff, Nat.reduceEqDiff, and_self, and_true, true_and, if_true, if_false, reduceIte, ite_true, ite_false, beq_self_eq_true, Nat.zero_add, Option.toList_some, Option.toList_none, List.cons_append, List.nil_append, im_Ms (show so < 188 by omega) hm, hit.1, eq_true (Int32.le_refl (nI s.length))]
    exact hq
  | succ d ih =>
    intro k hd h1
    have hil : k < s.length := by omega
    have hix := mt_ix_nI (j := k) (n := 40) (by omega) (by decide)
    have hdr : s.drop k = s.getD k 0 :: s.drop (k + 1) := by
      rw [List.drop_eq_getElem_cons hil]
      congr 1
      rw [List.getD_eq_getElem?_getD, List.getElem?_eq_getElem hil]
      rfl
    have hxb : s.getD k 0 < 2 ^ 25 := by
      rw [List.getD_eq_getElem?_getD, List.getElem?_eq_getElem hil]
      exact hx _ (List.getElem_mem _)
    have e7 := hit.2 k hil
    rw [hdr] at h1
    generalize s.getD k 0 = x at hxb h1 e7
    simp only [a_fd] at h1
    have e1 : (nI s.length ≤ nI k) = False := eq_false (nI_ge hil (by omega))
    have e2 := nI_eqE (a := x) (b := W) (by omega) (by omega)
    rw [k_TC_findBlock_33]
    by_cases hc : x = W
    · rw [if_pos hc] at h1
      rw [h1] at hq
      simp only [k_TC_findBlock_42, k_TC_findBlock_54, mt_kk, mt_l0, lget, lput, fnth, fset, gf, gi, ga, mt_is, mt_pop, g_nil, g_const, g_null, g_iload, g_aload, g_istore, g_astore, g_iinc, g_add, g_sub, g_mul, g_and, g_xor, g_div, g_rem, g_dup, g_dup2, g_pop, g_get, g_putI, g_putZ, g_putA, g_iald, g_zald, g_iast, g_zast, g_aald, g_aast, g_alen, g_new, g_newI, g_newA, g_objinit, l_fall, l_ifeq, l_ifne, l_iflt, l_ifge, l_ifgt, l_ifle, l_iceq, l_icne, l_iclt, l_icge, l_icgt, l_icle, l_nullN, l_nullS, l_nonnullN, l_nonnullS, l_acne, l_callV, l_callI, l_callS, l_ret, l_iret, l_zret, l_aret, l_after, List.length_cons, List.length_nil, Nat.reduceAdd, Nat.reduceLT, Nat.reduceLeDiff, Nat.reduceEqDiff, and_self, and_true, true_and, if_true, if_false, reduceIte, ite_true, ite_false, beq_self_eq_true, Nat.zero_add, Option.toList_some, Option.toList_none, List.cons_append, List.nil_append, im_Ms (show so < 188 by omega) hm, im_i40 hso hm1, hit.1, e1, hix, e7, e2, hc]
      exact hq
    · rw [if_neg hc] at h1
      simp only [k_TC_findBlock_42, k_TC_findBlock_57, mt_kk, mt_l0, lget, lput, fnth, fset, gf, gi, ga, mt_is, mt_pop, g_nil, g_const, g_null, g_iload, g_aload, g_istore, g_astore, g_iinc, g_add, g_sub, g_mul, g_and, g_xor, g_div, g_rem, g_dup, g_dup2, g_pop, g_get, g_putI, g_putZ, g_putA, g_iald, g_zald, g_iast, g_zast, g_aald, g_aast, g_alen, g_new, g_newI, g_newA, g_objinit, l_fall, l_ifeq, l_ifne, l_iflt, l_ifge, l_ifgt, l_ifle, l_iceq, l_icne, l_iclt, l_icge, l_icgt, l_icle, l_nullN, l_nullS, l_nonnullN, l_nonnullS, l_acne, l_callV, l_callI, l_callS, l_ret, l_iret, l_zret, l_aret, l_after, List.length_cons, List.length_nil, Nat.reduceAdd, Nat.reduceLT, Nat.reduceLeDiff, Nat.reduceEqDiff, and_self, and_true, true_and, if_true, if_false, reduceIte, ite_true, ite_false, beq_self_eq_true, Nat.zero_add, Option.toList_some, Option.toList_none, List.cons_append, List.nil_append, im_Ms (show so < 188 by omega) hm, im_i40 hso hm1, hit.1, e1, hix, e7, e2, hc, nI_add]
      exact ih (k + 1) (by omega) h1
theorem x_find {V : v_N} {o so i blk att : Nat} {l s : List Nat} (hi : iR o) (hr : rR V o l) (hby : a_by l) (hil : i ≤ 40) (hb0 : V 0 11 = nI blk) (hb1 : 1 ≤ blk) (hb8 : blk ≤ 8) (hat : att ≤ 2) (ha : V so 4 = nI att) (hm : kd so = 8) (hm1 : kd (so + 1) = 9) (hso : so + 1 < 188) (hit : iT V so s) (hs : s.length ≤ 40) (hx : ∀ x ∈ s, x < 2 ^ 25) : sm_TC_findBlock [.inr (some b), .inr (some (b + o)), .inl (nI i), .inr (some (b + so))] (n, w, img b V f) = some (some (.inl (a_mi (a_mt l s blk att i))), (n, w, img b V f)) := by
  have h40 := hby.1
  have e1 := nI_leE (a := i + blk) (b := l.length) (by omega) (by omega)
  refine mt_sem_eq ?_
  by_cases hc : i + blk ≤ l.length
  · simp only [k_TC_findBlock_0, k_TC_findBlock_15, k_TC_findBlock_28, mt_kk, mt_l0, lget, lput, fnth, fset, gf, gi, ga, mt_is, mt_pop, g_nil, g_const, g_null, g_iload, g_aload, g_istore, g_astore, g_iinc, g_add, g_sub, g_mul, g_and, g_xor, g_div, g_rem, g_dup, g_dup2, g_pop, g_get, g_putI, g_putZ, g_putA, g_iald, g_zald, g_iast, g_zast, g_aald, g_aast, g_alen, g_new, g_newI, g_newA, g_objinit, l_fall, l_ifeq, l_ifne, l_iflt, l_ifge, l_ifgt, l_ifle, l_iceq, l_icne, l_iclt, l_icge, l_icgt, l_icle, l_nullN, l_nullS, l_nonnullN, l_nonnullS, l_acne, l_callV, l_callI, l_callS, l_ret, l_iret, l_zret, l_aret, l_after, List.length_cons, List.length_nil, Nat.reduceAdd, Nat.reduceLT, Nat.reduceLeDiff, Nat.reduceEqDiff, and_self, and_true, true_and, if_true, if_false, reduceIte, ite_true, ite_false, beq_self_eq_true, Nat.zero_add, Option.toList_some, Option.toList_none, List.cons_append, List.nil_append, if_0, hb0, nI_add, im_Ro (iR0 hi) hi.1, hr.1, e1, hc, im_Ms (show so < 188 by omega) hm, ha, x_sums hi hr h40 hby.2 hc hb8 hat]
    refine lp_find hm hm1 hso hit hs hx sw_lt (fun x => x = _) ?_ s.length 0 (by omega) (by rw [List.drop_zero])
    simp only [a_mt, if_pos hc]
  · simp only [k_TC_findBlock_0, k_TC_findBlock_13, mt_kk, mt_l0, lget, lput, fnth, fset, gf, gi, ga, mt_is, mt_pop, g_nil, g_const, g_null, g_iload, g_aload, g_istore, g_astore, g_iinc, g_add, g_sub, g_mul, g_and, g_xor, g_div, g_rem, g_dup, g_dup2, g_pop, g_get, g_putI, g_putZ, g_putA, g_iald, g_zald, g_iast, g_zast, g_aald, g_aast, g_alen, g_new, g_newI, g_newA, g_objinit, l_fall, l_ifeq, l_ifne, l_iflt, l_ifge, l_ifgt, l_ifle, l_iceq, l_icne, l_iclt, l_icge, l_icgt, l_icle, l_nullN, l_nullS, l_nonnullN, l_nonnullS, l_acne, l_callV, l_callI, l_callS, l_ret, l_iret, l_zret, l_aret, l_after, List.length_cons, List.length_nil, Nat.reduceAdd, Nat.reduceLT, Nat.reduceLeDiff, Nat.reduceEqDiff, and_self, and_true, true_and, if_true, if_false, reduceIte, ite_true, ite_false, beq_self_eq_true, Nat.zero_add, Option.toList_some, Option.toList_none, List.cons_append, List.nil_append, if_0, hb0, nI_add, im_Ro (iR0 hi) hi.1, hr.1, e1, hc, a_mt, a_mi]
theorem lp_fill {V0 : v_N} {mo o so blk att : Nat} {l s full : List Nat} {ctf : Nat → Int32} (hi : iR o) (hr : rR V0 o l) (hby : a_by l) (hb0 : V0 0 11 = nI blk) (hb1 : 1 ≤ blk) (hb8 : blk ≤ 8) (hat : att ≤ 2) (ha : V0 so 4 = nI att) (hm : kd so = 8) (hm1 : kd (so + 1) = 9) (hso : so + 1 < 188) (hit : iT V0 so s) (hs : s.length ≤ 40) (hx : ∀ x ∈ s, x < 2 ^ 25) (gm : kd mo = 8) (gm1 : kd (mo + 1) = 9) (gmo : mo + 1 < 103) (hne : mo ≠ 0 ∧ mo ≠ o ∧ mo ≠ o + 1 ∧ mo + 1 ≠ o ∧ mo + 1 ≠ o + 1 ∧ mo ≠ so ∧ mo ≠ so + 1 ∧ mo + 1 ≠ so ∧ 103 ≠ o ∧ 103 ≠ o + 1 ∧ 103 ≠ so ∧ 103 ≠ so + 1) (Q : m_R → Prop) (hq : ∀ V1, iT V1 mo full → (∀ k, k < 8 → V1 103 k = ctf k) → (∀ k, k ≠ 6 → V1 mo k = V0 mo k) → ch V0 V1 (fun q => q = mo ∨ q = mo + 1 ∨ q = 103) → Q (none, (n, w, img b V1 f))) (d : Nat) : ∀ (i c e : Nat) (V : v_N) (cur : List Nat) (ct : Nat → Int32) (j6 : Option m_V), i + d = l.length → (i ≤ c ∧ e = c ∨ c ≤ i ∧ e = i) → c ≤ 48 → cur.length ≤ i → iT V mo cur → (∀ k, k < 8 → V 103 k = ct k) → (∀ k, k ≠ 6 → V mo k = V0 mo k) → ch V0 V (fun q => q = mo ∨ q = mo + 1 ∨ q = 103) → cur ++ a_dl l s blk att (l.length - e) e = full → a_dc ct (a_dl l s blk att (l.length - e) e) = ctf → mt_T cd_TC_fillDelta 6 ([some (.inr (some b)), some (.inr (some (b + mo))), some (.inr (some (b + o))), some (.inr (some (b + so))), some (.inl (nI c)), some (.inl (nI i)), j6], [], (n, w, img b V f)) Q := by
  have h40 := hby.1
  induction d with
  | zero =>
    intro i c e V cur ct j6 hd hce hc48 hcl h1 h2 h3 h4 h5 h6
    have hd : i = l.length := hd
    subst hd
    have hr2 : rR V o l := rR_congr (h4 _ (by omega)) (h4 _ (by omega)) hr
    rw [dl_0 _ _ (by omega)] at h5 h6
    rw [List.append_nil] at h5
    have h6 : ct = ctf := h6
    subst h5
    subst h6
    simp only [k_TC_fillDelta_6, k_TC_fillDelta_99, mt_kk, mt_l0, lget, lput, fnth, fset, gf, gi, ga, mt_is, mt_pop, g_nil, g_const, g_null, g_iload, g_aload, g_istore, g_astore, g_iinc, g_add, g_sub, g_mul, g_and, g_xor, g_div, g_rem, g_dup, g_dup2, g_pop, g_get, g_putI, g_putZ, g_putA, g_iald, g_zald, g_iast, g_zast, g_aald, g_aast, g_alen, g_new, g_newI, g_newA, g_objinit, l_fall, l_ifeq, l_ifne, l_iflt, l_ifge, l_ifgt, l_ifle, l_iceq, l_icne, l_iclt, l_icge, l_icgt, l_icle, l_nullN, l_nullS, l_nonnullN, l_nonnullS, l_acne, l_callV, l_callI, l_callS, l_ret, l_iret, l_zret, l_aret, l_after, List.length_cons, List.length_nil, Nat.reduceAdd, Nat.reduceLT, Nat.reduceLeDiff, Nat.reduceEqDiff, and_self, and_true, true_and, if_true, if_false, reduceIte, ite_true, ite_false, beq_self_eq_true, Nat.zero_add, Option.toList_some, Option.toList_none, List.cons_append, List.nil_append, im_Ro (iR0 hi) hi.1, hr2.1, eq_true (Int32.le_refl (nI l.length))]
    exact hq V h1 h2 h3 h4
  | succ d ih =>
    intro i c e V cur ct j6 hd hce hc48 hcl h1 h2 h3 h4 h5 h6
    have hil : i < l.length := by omega
    have hr2 : rR V o l := rR_congr (h4 _ (by omega)) (h4 _ (by omega)) hr
    have e1 : (nI l.length ≤ nI i) = False := eq_false (nI_ge hil (by omega))
    have e2 := nI_leE (a := c) (b := i) (by omega) (by omega)
    rw [k_TC_fillDelta_6]
    by_cases hc : c ≤ i
    · have he : e = i := by omega
      subst he
      have hb : V 0 11 = nI blk := by rw [h4 0 (by omega)]; exact hb0
      have hit2 : iT V so s := ⟨by rw [h4 so (by omega)]; exact hit.1, by rw [h4 (so + 1) (by omega)]; exact hit.2⟩
      have ha2 : V so 4 = nI att := by rw [h4 so (by omega)]; exact ha
      have hfind := x_find (n := n) (w := w) (b := b) (f := f) (i := e) hi hr2 hby (by omega) hb hb1 hb8 hat ha2 hm hm1 hso hit2 hs hx
      have hxl : l.getD e 0 < 256 := by
        rw [List.getD_eq_getElem?_getD, List.getElem?_eq_getElem hil]
        exact hby.2 _ (List.getElem_mem _)
      have hx0 := mt_ix_nI (j := 0) (n := 8) (by decide) (by decide)
      have hx1 := mt_ix_nI (j := 1) (n := 8) (by decide) (by decide)
      rw [show l.length - e = (l.length - e - 1) + 1 by omega] at h5 h6
      simp only [a_dl, if_pos hil] at h5 h6
      cases hmt : a_mt l s blk att e with
      | none =>
        rw [hmt] at hfind h5 h6
        simp only [] at h5 h6
        simp only [k_TC_fillDelta_15, k_TC_fillDelta_25, k_TC_fillDelta_33, k_TC_fillDelta_41, k_TC_fillDelta_48, k_TC_fillDelta_51, k_TC_fillDelta_93, mt_kk, mt_l0, lget, lput, fnth, fset, gf, gi, ga, mt_is, mt_pop, g_nil, g_const, g_null, g_iload, g_aload, g_istore, g_astore, g_iinc, g_add, g_sub, g_mul, g_and, g_xor, g_div, g_rem, g_dup, g_dup2, g_pop, g_get, g_putI, g_putZ, g_putA, g_iald, g_zald, g_iast, g_zast, g_aald, g_aast, g_alen, g_new, g_newI, g_newA, g_objinit, l_fall, l_ifeq, l_ifne, l_iflt, l_ifge, l_ifgt, l_ifle, l_iceq, l_icne, l_iclt, l_icge, l_icgt, l_icle, l_nullN, l_nullS, l_nonnullN, l_nonnullS, l_acne, l_callV, l_callI, l_callS, l_ret, l_iret, l_zret, l_aret, l_after, List.length_cons, List.length_nil, Nat.reduceAdd, Nat.reduceLT, Nat.reduceLeDiff, Nat.reduceEqDiff, and_self, and_true, true_and, if_true, if_false, reduceIte, ite_true, ite_false, beq_self_eq_true, Nat.zero_add, Option.toList_some, Option.toList_none, List.cons_append, List.nil_append, im_Ro (iR0 hi) hi.1, hr2.1, e1, e2, hc, if_0, hfind, a_mi, x_byteAt hi hr2 h40 hil, im_Ms (show mo < 188 by omega) gm, x_addItem gm gm1 (show mo + 1 < 188 by omega) h1.1 (show cur.length < 40 by omega), if_103, hx0, uf_103, nI_add]
        simp only [a_dc, if_pos hxl] at h6
        refine ih (e + 1) c (e + 1) _ (cur ++ [l.getD e 0]) (a_bp ct 0) _ (by omega) (Or.inr ⟨by omega, rfl⟩) hc48 (by rw [List.length_append, List.length_cons, List.length_nil]; omega) ?_ ?_ ?_ ?_ ?_ ?_
        · have h9 := iT_add (c := l.getD e 0) h1
          exact ⟨by rw [up_ne (by omega)]; exact h9.1, fun j hj => by rw [up_ne (by omega)]; exact h9.2 j hj⟩
        · refine ct_bp (by decide) (fun k hk => ?_)
          rw [up_ne (by omega), up_ne (by omega)]
          exact h2 k hk
        · intro k hk
          rw [up_ne (by omega), vu_slot hk, up_ne (by omega)]
          exact h3 k hk
        · exact ch_u (ch_u (ch_u h4 (by omega)) (by omega)) (by omega)
        · rw [List.append_assoc]
          exact h5
        · exact h6
      | some k =>
        rw [hmt] at hfind h5 h6
        simp only [] at h5 h6
        have hk40 : k < 40 := by
          unfold a_mt at hmt
          split at hmt
          · have := fd_ge _ _ _ hmt; omega
          · cases hmt
        simp only [k_TC_fillDelta_15, k_TC_fillDelta_25, k_TC_fillDelta_33, k_TC_fillDelta_64, k_TC_fillDelta_74, k_TC_fillDelta_93, mt_kk, mt_l0, lget, lput, fnth, fset, gf, gi, ga, mt_is, mt_pop, g_nil, g_const, g_null, g_iload, g_aload, g_istore, g_astore, g_iinc, g_add, g_sub, g_mul, g_and, g_xor, g_div, g_rem, g_dup, g_dup2, g_pop, g_get, g_putI, g_putZ, g_putA, g_iald, g_zald, g_iast, g_zast, g_aald, g_aast, g_alen, g_new, g_newI, g_newA, g_objinit, l_fall, l_ifeq, l_ifne, l_iflt, l_ifge, l_ifgt, l_ifle, l_iceq, l_icne, l_iclt, l_icge, l_icgt, l_icle, l_nullN, l_nullS, l_nonnullN, l_nonnullS, l_acne, l_callV, l_callI, l_callS, l_ret, l_iret, l_zret, l_aret, l_after, List.length_cons, List.length_nil, Nat.reduceAdd, Nat.reduceLT, Nat.reduceLeDiff, Nat.reduceEqDiff, and_self, and_true, true_and, if_true, if_false, reduceIte, ite_true, ite_false, beq_self_eq_true, Nat.zero_add, Option.toList_some, Option.toList_none, List.cons_append, List.nil_append, im_Ro (iR0 hi) hi.1, hr2.1, e1, e2, hc, if_0, hfind, a_mi, nI_m1 (show k < 2 ^ 31 by omega), im_Ms (show mo < 188 by omega) gm, nI_add, x_addItem gm gm1 (show mo + 1 < 188 by omega) h1.1 (show cur.length < 40 by omega), if_103, hx1, uf_103, up_ne (show 0 ≠ 103 by decide), up_ne (show 0 ≠ mo by omega), up_ne (show 0 ≠ mo + 1 by omega), hb]
        simp only [a_dc, if_neg (show ¬ 256 + k < 256 by omega)] at h6
        rw [dl_fuel hb1 (l.length - e - 1) (l.length - (e + blk)) (e + blk) (by omega) (by omega)] at h5 h6
        refine ih (e + 1) (e + blk) (e + blk) _ (cur ++ [256 + k]) (a_bp ct 1) _ (by omega) (Or.inl ⟨by omega, rfl⟩) (by omega) (by rw [List.length_append, List.length_cons, List.length_nil]; omega) ?_ ?_ ?_ ?_ ?_ ?_
        · have h9 := iT_add (c := 256 + k) h1
          exact ⟨by rw [up_ne (by omega)]; exact h9.1, fun j hj => by rw [up_ne (by omega)]; exact h9.2 j hj⟩
        · refine ct_bp (by decide) (fun k hk => ?_)
          rw [up_ne (by omega), up_ne (by omega)]
          exact h2 k hk
        · intro k hk
          rw [up_ne (by omega), vu_slot hk, up_ne (by omega)]
          exact h3 k hk
        · exact ch_u (ch_u (ch_u h4 (by omega)) (by omega)) (by omega)
        · rw [List.append_assoc]
          exact h5
        · exact h6
    · simp only [k_TC_fillDelta_15, k_TC_fillDelta_22, k_TC_fillDelta_93, mt_kk, mt_l0, lget, lput, fnth, fset, gf, gi, ga, mt_is, mt_pop, g_nil, g_const, g_null, g_iload, g_aload, g_istore, g_astore, g_iinc, g_add, g_sub, g_mul, g_and, g_xor, g_div, g_rem, g_dup, g_dup2, g_pop, g_get, g_putI, g_putZ, g_putA, g_iald, g_zald, g_iast, g_zast, g_aald, g_aast, g_alen, g_new, g_newI, g_newA, g_objinit, l_fall, l_ifeq, l_ifne, l_iflt, l_ifge, l_ifgt, l_ifle, l_iceq, l_icne, l_iclt, l_icge, l_icgt, l_icle, l_nullN, l_nullS, l_nonnullN, l_nonnullS, l_acne, l_callV, l_callI, l_callS, l_ret, l_iret, l_zret, l_aret, l_after, List.length_cons, List.length_nil, Nat.reduceAdd, Nat.reduceLT, Nat.reduceLeDiff, Nat.reduceEqDiff, and_self, and_true, true_and, if_true, if_false, reduceIte, ite_true, ite_false, beq_self_eq_true, Nat.zero_add, Option.toList_some, Option.toList_none, List.cons_append, List.nil_append, im_Ro (iR0 hi) hi.1, hr2.1, e1, e2, hc, nI_add]
      exact ih (i + 1) c e V cur ct j6 (by omega) (Or.inl ⟨by omega, by omega⟩) hc48 (by omega) h1 h2 h3 h4 h5 h6
end TC
