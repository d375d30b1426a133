/-! The reference: signatures, begin. -/
theorem sg_get {g : Nat → Nat} {blk att : Nat} : ∀ {j i : Nat}, i < j → (a_sg g blk att j).getD i 0 = sw (fun x => g (i * blk + x)) blk att
  | 0, i, h => by omega
  | j + 1, i, h => by
    simp only [a_sg]
    rw [gd_app, sg_len]
    by_cases e : i = j
    · subst e; rw [if_pos rfl]
    · rw [if_neg e]; exact sg_get (by omega)
theorem sw_mod {g : Nat → Nat} {m a : Nat} : sw g m a % 256 = wk g m := by
  have := wk_lt (g := g) (m := m)
  unfold sw
  omega
theorem sw_div {g : Nat → Nat} {m a : Nat} : sw g m a / 256 = ss g m a := by
  have := wk_lt (g := g) (m := m)
  unfold sw
  omega
/-- nothing has changed but the last message of line ln, from cell a on -/
def chM (U U1 : v_N) (ln a : Nat) : Prop := (∀ q, q ≠ 0 → q ≠ 12 → q ≠ 13 → U1 q = U q) ∧ (∀ k, k ≠ 19 → U1 0 k = U 0 k) ∧ (∀ k, k ≠ ln → U1 12 k = U 12 k) ∧ ∀ i, i < a ∨ a + 90 ≤ i → U1 13 i = U 13 i
theorem nR_new {U U1 : v_N} {ln : Nat} {ls : List a_M} {m : a_M} (h : nR U ln ls) (hl : ls.length < 13) (h2 : U1 12 ln = nI (ls.length + 1)) (hc : ∀ i, i < 1440 * ln + 90 * ls.length → U1 13 i = U 13 i) (hm : cM U1 (1440 * ln + 90 * ls.length) m) : nR U1 ln (ls ++ [m]) := by
  obtain ⟨a, b, d⟩ := h
  refine ⟨by rw [h2, List.length_append]; rfl, by rw [List.length_append]; exact hl, fun i m1 h1 => ?_⟩
  by_cases hi : i < ls.length
  · rw [List.getElem?_append_left hi] at h1
    exact cM_congr (fun j hj => hc _ (by omega)) (d i m1 h1)
  · rw [List.getElem?_append_right (by omega)] at h1
    have hz : i - ls.length < 1 := (List.getElem?_eq_some_iff.mp h1).1
    have hie : i = ls.length := by omega
    subst hie
    rw [Nat.sub_self] at h1
    cases h1
    exact hm
theorem nR_other {U U1 : v_N} {ln l2 a : Nat} {ls : List a_M} (h : nR U l2 ls) (hc : chM U U1 ln a) (hne : l2 ≠ ln) (ha : ∀ i, i < 90 * ls.length → 1440 * l2 + i < a ∨ a + 90 ≤ 1440 * l2 + i) : nR U1 l2 ls := nR_congr (hc.2.2.1 l2 hne) (fun i hi => hc.2.2.2 _ (ha i hi)) h
section MD
variable {n w c : Nat} {f : Nat → Option m_E}
theorem lp_msig {U0 : v_N} {a p k blk att : Nat} {l : List Nat} (ha : a + 90 ≤ 2880) (hp : p < 24) (hb0 : U0 0 10 = nI blk) (hu : U0 0 19 = nI a) (hb1 : 1 ≤ blk) (hb8 : blk ≤ 8) (hat : att ≤ 2) (hby : a_by l) (hg : ∀ j, j < l.length → U0 4 (40 * p + j) = nI (l.getD j 0)) (Q : m_R → Prop) (hq : ∀ U1, U1 13 (a + 5) = nI (2 * (l.length / blk)) → (∀ i, i < l.length / blk → U1 13 (a + 6 + 2 * i) = nI (wk (fun x => l.getD (i * blk + x) 0) blk) ∧ U1 13 (a + 7 + 2 * i) = nI (ss (fun x => l.getD (i * blk + x) 0) blk att)) → (∀ q, q ≠ 13 → U1 q = U0 q) → (∀ i, i < a + 5 ∨ a + 90 ≤ i → U1 13 i = U0 13 i) → Q (none, (n, w, imr c U1 f))) (d : Nat) : ∀ (j : Nat) (U : v_N) (j6 : Option m_V), j + d = l.length / blk → U 13 (a + 5) = nI (2 * j) → (∀ i, i < j → U 13 (a + 6 + 2 * i) = nI (wk (fun x => l.getD (i * blk + x) 0) blk) ∧ U 13 (a + 7 + 2 * i) = nI (ss (fun x => l.getD (i * blk + x) 0) blk att)) → (∀ q, q ≠ 13 → U q = U0 q) → (∀ i, i < a + 5 ∨ a + 90 ≤ i → U 13 i = U0 13 i) → mt_T cd_MD_sendSignature 41 ([some (.inr (some c)), some (.inl (nI k)), some (.inl (nI att)), some (.inl (nI p)), some (.inl (nI (l.length / blk))), some (.inl (nI j)), j6], [], (n, w, imr c U f)) Q := by
  have hle : l.length / blk ≤ l.length := Nat.div_le_self _ _
  have h40 := hby.1
  induction d with
  | zero =>
    intro j U j6 hd h1 h2 h3 h4
    have hd : j = l.length / blk := hd
    subst hd
    simp only [k_MD_sendSignature_41, k_MD_sendSignature_97, mt_kk, mt_l0, lget, lput, mt_pop, g_nil, g_const, g_null, g_iload, g_aload, g_istore, g_astore, g_iinc, g_add, g_sub, g_mul, g_and, g_xor, g_div, g_rem, g_dup, g_dup2, g_pop, g_get, g_putI, g_putZ, g_putA, g_iald, g_zald, g_iast, g_zast, g_aald, g_aast, g_alen, g_new, g_newI, g_newA, g_objinit, l_fall, l_ifeq, l_ifne, l_iflt, l_ifge, l_ifgt, l_ifle, l_iceq, l_icne, l_iclt, l_icge, l_icgt, l_icle, l_nullN, l_nullS, l_nonnullN, l_nonnullS, l_acne, l_callV, l_callI, l_callS, l_ret, l_iret, l_zret, l_aret, l_after, List.length_cons, List.length_nil, Nat.reduceAdd, Nat.reduceLT, Nat.reduceLeDiff, Nat.reduceEqDiff, and_self, and_true, true_and, if_true, if_false, reduceIte, ite_true, ite_false, beq_self_eq_true, Nat.zero_add, Option.toList_some, Option.toList_none, List.cons_append, List.nil_append, gj_0, gj_1, gj_2, gj_3, gj_4, gj_5, gj_6, gj_7, gj_8, gj_9, gj_10, gj_11, gj_12, gj_13, gj_14, gj_15, gj_16, gj_17, gj_18, gj_19, gj_20, gj_21, gj_22, gj_23, gj_24, gj_25, gj_26, gj_27, pj_4, pj_5, pj_9, pj_10, pj_11, pj_12, pj_19, pj_20, pj_26, ij_1, ij_2, ij_3, ij_4, ij_5, ij_6, ij_7, ij_8, ij_9, ij_10, ij_11, ij_12, ij_13, ij_14, ij_15, ij_16, ij_17, ij_18, ij_19, vf_1, vf_2, vf_3, vf_4, vf_5, vf_6, vf_7, vf_8, vf_9, vf_10, vf_11, vf_12, vf_13, vf_14, vf_15, vf_16, vf_17, vf_18, vf_19, sj, eq_true (Int32.le_refl (nI (l.length / blk)))]
    exact hq U h1 h2 h3 h4
  | succ d ih =>
    intro j U j6 hd h1 h2 h3 h4
    have hlt : j * blk + blk ≤ l.length := by
      have hA : (j + 1) * blk ≤ l.length / blk * blk := Nat.mul_le_mul_right _ (by omega)
      have hB : l.length / blk * blk ≤ l.length := Nat.div_mul_le_self _ _
      rw [Nat.add_mul, Nat.one_mul] at hA
      omega
    have hb : U 0 10 = nI blk := by rw [h3 0 (by decide)]; exact hb0
    have hu2 : U 0 19 = nI a := by rw [h3 0 (by decide)]; exact hu
    have hgg : ∀ i, i < blk → U 4 (40 * p + j * blk + i) = nI (l.getD (j * blk + i) 0) := fun i hi => by
      rw [h3 4 (by decide), Nat.add_assoc]
      exact hg _ (by omega)
    have hbb : ∀ i, i < blk → l.getD (j * blk + i) 0 < 256 := fun i hi => by
      rw [List.getD_eq_getElem?_getD, List.getElem?_eq_getElem (by omega)]
      exact hby.2 _ (List.getElem_mem _)
    have hwk := x_mweak (n := n) (w := w) (c := c) (f := f) (U := U) (p := 40 * p + j * blk) hb8 (by omega) hgg hbb
    have hm1 := x_more (n := n) (w := w) (c := c) (f := f) (x := nI (wk (fun x => l.getD (j * blk + x) 0) blk)) (show a + 6 + 2 * j < 2880 by omega) hu2 h1
    generalize hU1 : vu (vu U 13 (a + 6 + 2 * j) (nI (wk (fun x => l.getD (j * blk + x) 0) blk))) 13 (a + 5) (nI (2 * j + 1)) = U1 at hm1
    have g3 : ∀ q, q ≠ 13 → U1 q = U0 q := fun q e => by rw [← hU1, vu_off e, vu_off e]; exact h3 q e
    have hst := x_mstr (n := n) (w := w) (c := c) (f := f) (U := U1) (p := 40 * p + j * blk) (m := blk) (g := fun x => l.getD (j * blk + x) 0) hat (by omega) (fun i hi => by rw [g3 4 (by decide), ← h3 4 (by decide)]; exact hgg i hi) hbb
    have hm2 := x_more (n := n) (w := w) (c := c) (f := f) (U := U1) (q := 2 * j + 1) (x := nI (ss (fun x => l.getD (j * blk + x) 0) blk att)) (show a + 6 + (2 * j + 1) < 2880 by omega) (by rw [g3 0 (by decide)]; exact hu) (by rw [← hU1, vu_same])
    have hb1' : U1 0 10 = nI blk := by rw [g3 0 (by decide)]; exact hb0
    have e1 : (nI (l.length / blk) ≤ nI j) = False := eq_false (nI_ge (by omega) (by omega))
    rw [k_MD_sendSignature_41]
    simp only [k_MD_sendSignature_48, k_MD_sendSignature_73, k_MD_sendSignature_76, k_MD_sendSignature_88, k_MD_sendSignature_91, mt_kk, mt_l0, lget, lput, mt_pop, g_nil, g_const, g_null, g_iload, g_aload, g_istore, g_astore, g_iinc, g_add, g_sub, g_mul, g_and, g_xor, g_div, g_rem, g_dup, g_dup2, g_pop, g_get, g_putI, g_putZ, g_putA, g_iald, g_zald, g_iast, g_zast, g_aald, g_aast, g_alen, g_new, g_newI, g_newA, g_objinit, l_fall, l_ifeq, l_ifne, l_iflt, l_ifge, l_ifgt, l_ifle, l_iceq, l_icne, l_iclt, l_icge, l_icgt, l_icle, l_nullN, l_nullS, l_nonnullN, l_nonnullS, l_acne, l_callV, l_callI, l_callS, l_ret, l_iret, l_zret, l_aret, l_after, List.length_cons, List.length_nil, Nat.reduceAdd, Nat.reduceLT, Nat.reduceLeDiff, Nat.reduceEqDiff, and_self, and_true, true_and, if_true, if_false, reduceIte, ite_true, ite_false, beq_self_eq_true, Nat.zero_add, Option.toList_some, Option.toList_none, List.cons_append, List.nil_append, gj_0, gj_1, gj_2, gj_3, gj_4, gj_5, gj_6, gj_7, gj_8, gj_9, gj_10, gj_11, gj_12, gj_13, gj_14, gj_15, gj_16, gj_17, gj_18, gj_19, gj_20, gj_21, gj_22, gj_23, gj_24, gj_25, gj_26, gj_27, pj_4, pj_5, pj_9, pj_10, pj_11, pj_12, pj_19, pj_20, pj_26, ij_1, ij_2, ij_3, ij_4, ij_5, ij_6, ij_7, ij_8, ij_9, ij_10, ij_11, ij_12, ij_13, ij_14, ij_15, ij_16, ij_17, ij_18, ij_19, vf_1, vf_2, vf_3, vf_4, vf_5, vf_6, vf_7, vf_8, vf_9, vf_10, vf_11, vf_12, vf_13, vf_14, vf_15, vf_16, vf_17, vf_18, vf_19, sj, e1, hb, hb1', pk_mul, nI_add, hwk, hm1, hst, hm2]
    refine ih (j + 1) _ _ (by omega) ?_ ?_ ?_ ?_
    · rw [vu_same]; rfl
    · intro i hi
      by_cases hij : i = j
      · subst hij
        refine ⟨?_, ?_⟩
        · rw [vu_slot (by omega), vu_slot (by omega), ← hU1, vu_slot (by omega), vu_same]
        · rw [vu_slot (by omega), show a + 7 + 2 * i = a + 6 + (2 * i + 1) by omega, vu_same]
      · have h9 := h2 i (by omega)
        refine ⟨?_, ?_⟩
        · rw [vu_slot (by omega), vu_slot (by omega), ← hU1, vu_slot (by omega), vu_slot (by omega)]; exact h9.1
        · rw [vu_slot (by omega), vu_slot (by omega), ← hU1, vu_slot (by omega), vu_slot (by omega)]; exact h9.2
    · intro q hq2
      rw [vu_off hq2, vu_off hq2]; exact g3 q hq2
    · intro i hi
      rw [vu_slot (by omega), vu_slot (by omega), ← hU1, vu_slot (by omega), vu_slot (by omega)]; exact h4 i hi
theorem x_msig {U : v_N} {fs : Nat → a_F} {l0 : List a_M} {k blk att : Nat} (hk : k < 12) (hf : gR U (12 + k) (fs (12 + k))) (hb0 : U 0 10 = nI blk) (hb1 : 1 ≤ blk) (hb8 : blk ≤ 8) (hat : att ≤ 2) (hl : nR U 0 l0) (hlen : l0.length < 13) : mt_P sm_MD_sendSignature [.inr (some c), .inl (nI k), .inl (nI att)] (n, w, imr c U f) (fun r => ∃ U1, r = (none, (n, w, imr c U1 f)) ∧ nR U1 0 (l0 ++ [a_sm fs blk k att]) ∧ chM U U1 0 (1440 * 0 + 90 * l0.length)) := by
  have hmsg := x_msg (n := n) (w := w) (c := c) (f := f) (kd := 3) (nm := k) (at0 := att) (num := nI 0) (wh := nI 0) (show 0 < 2 by decide) (show l0.length < 14 by omega) hl.1
  generalize ha : 1440 * 0 + 90 * l0.length = a at hmsg
  generalize hUa : vu (vu (vu (vu (vu (vu (vu (vu U 0 19 (nI a)) 12 0 (nI (l0.length + 1))) 13 a (nI 3)) 13 (a + 1) (nI k)) 13 (a + 2) (nI att)) 13 (a + 3) (nI 0)) 13 (a + 4) (nI 0)) 13 (a + 5) (nI 0) = Ua at hmsg
  have c1 : ∀ q, q ≠ 0 → q ≠ 12 → q ≠ 13 → Ua q = U q := fun q e1 e2 e3 => by rw [← hUa, vu_off e3, vu_off e3, vu_off e3, vu_off e3, vu_off e3, vu_off e3, vu_off e2, vu_off e1]
  have c2 : ∀ k, k ≠ 19 → Ua 0 k = U 0 k := fun k e => by rw [← hUa, up_ne (by decide), up_ne (by decide), up_ne (by decide), up_ne (by decide), up_ne (by decide), up_ne (by decide), up_ne (by decide), vu_slot e]
  have c3 : ∀ k, k ≠ 0 → Ua 12 k = U 12 k := fun k e => by rw [← hUa, up_ne (by decide), up_ne (by decide), up_ne (by decide), up_ne (by decide), up_ne (by decide), up_ne (by decide), vu_slot e, up_ne (by decide)]
  have c4 : ∀ i, i < a ∨ a + 90 ≤ i → Ua 13 i = U 13 i := fun i e => by rw [← hUa, vu_slot (by omega), vu_slot (by omega), vu_slot (by omega), vu_slot (by omega), vu_slot (by omega), vu_slot (by omega), up_ne (by decide), up_ne (by decide)]
  have c5 : Ua 12 0 = nI (l0.length + 1) := by rw [← hUa, up_ne (by decide), up_ne (by decide), up_ne (by decide), up_ne (by decide), up_ne (by decide), up_ne (by decide), vu_same]
  have c6 : Ua 0 19 = nI a := by rw [← hUa, up_ne (by decide), up_ne (by decide), up_ne (by decide), up_ne (by decide), up_ne (by decide), up_ne (by decide), up_ne (by decide), vu_same]
  have m0 : Ua 13 a = nI 3 := by rw [← hUa, vu_slot (by omega), vu_slot (by omega), vu_slot (by omega), vu_slot (by omega), vu_slot (by omega), vu_same]
  have m1 : Ua 13 (a + 1) = nI k := by rw [← hUa, vu_slot (by omega), vu_slot (by omega), vu_slot (by omega), vu_slot (by omega), vu_same]
  have m2 : Ua 13 (a + 2) = nI att := by rw [← hUa, vu_slot (by omega), vu_slot (by omega), vu_slot (by omega), vu_same]
  have m3 : Ua 13 (a + 3) = nI 0 := by rw [← hUa, vu_slot (by omega), vu_slot (by omega), vu_same]
  have m4 : Ua 13 (a + 4) = nI 0 := by rw [← hUa, vu_slot (by omega), vu_same]
  have m5 : Ua 13 (a + 5) = nI 0 := by rw [← hUa, vu_same]
  have hfin : ∀ (U1 : v_N), U1 13 (a + 5) = nI (2 * ((a_row (fs (12 + k))).length / blk)) → (∀ i, i < (a_row (fs (12 + k))).length / blk → U1 13 (a + 6 + 2 * i) = nI (wk (fun x => (a_row (fs (12 + k))).getD (i * blk + x) 0) blk) ∧ U1 13 (a + 7 + 2 * i) = nI (ss (fun x => (a_row (fs (12 + k))).getD (i * blk + x) 0) blk att)) → (∀ q, q ≠ 13 → U1 q = Ua q) → (∀ i, i < a + 5 ∨ a + 90 ≤ i → U1 13 i = Ua 13 i) → (a_row (fs (12 + k))).length ≤ 40 → nR U1 0 (l0 ++ [a_sm fs blk k att]) ∧ chM U U1 0 a := by
    intro U1 g1 g2 g3 g4 h40
    refine ⟨?_, fun q e1 e2 e3 => by rw [g3 q e3]; exact c1 q e1 e2 e3, fun k e => by rw [g3 0 (by decide)]; exact c2 k e, fun k e => by rw [g3 12 (by decide)]; exact c3 k e, fun i e => by rw [g4 i (by omega)]; exact c4 i e⟩
    refine nR_new hl hlen (by rw [g3 12 (by decide)]; exact c5) (fun i hi => by rw [g4 i (by omega)]; exact c4 i (by omega)) ?_
    rw [ha]
    refine ⟨by rw [g4 a (by omega)]; exact m0, by rw [g4 _ (by omega)]; exact m1, by rw [g4 _ (by omega)]; exact m2, by rw [g4 _ (by omega)]; exact m3, by rw [g4 _ (by omega)]; exact m4, fun _ => ⟨?_, ?_, fun j hj => ?_⟩, fun e => (by cases e)⟩
    · show _ = nI (2 * (a_sg _ blk att _).length)
      rw [sg_len]; exact g1
    · show (a_sg _ blk att _).length ≤ 40
      rw [sg_len]; exact Nat.le_trans (Nat.div_le_self _ _) h40
    · have hj : j < (a_sg (fun j => (a_row (fs (12 + k))).getD j 0) blk att ((a_row (fs (12 + k))).length / blk)).length := hj
      rw [sg_len] at hj
      show _ = nI ((a_sg (fun j => (a_row (fs (12 + k))).getD j 0) blk att ((a_row (fs (12 + k))).length / blk)).getD j 0 % 256) ∧ _ = nI ((a_sg (fun j => (a_row (fs (12 + k))).getD j 0) blk att ((a_row (fs (12 + k))).length / blk)).getD j 0 / 256)
      rw [sg_get hj, sw_mod, sw_div]
      exact g2 j hj
  refine mt_P_of ?_
  cases hx : fs (12 + k) with
  | none =>
    rw [hx] at hf hfin
    have hf : U 1 (12 + k) = nI 0 := hf
    have hfl := x_mfile0 (n := n) (w := w) (c := c) (f := f) (U := Ua) (t := 1) (k := k) (by decide) hk (by rw [c1 1 (by decide) (by decide) (by decide)]; exact hf)
    simp only [k_MD_sendSignature_0, k_MD_sendSignature_10, k_MD_sendSignature_16, k_MD_sendSignature_21, k_MD_sendSignature_36, k_MD_sendSignature_41, k_MD_sendSignature_97, mt_kk, mt_l0, lget, lput, mt_pop, g_nil, g_const, g_null, g_iload, g_aload, g_istore, g_astore, g_iinc, g_add, g_sub, g_mul, g_and, g_xor, g_div, g_rem, g_dup, g_dup2, g_pop, g_get, g_putI, g_putZ, g_putA, g_iald, g_zald, g_iast, g_zast, g_aald, g_aast, g_alen, g_new, g_newI, g_newA, g_objinit, l_fall, l_ifeq, l_ifne, l_iflt, l_ifge, l_ifgt, l_ifle, l_iceq, l_icne, l_iclt, l_icge, l_icgt, l_icle, l_nullN, l_nullS, l_nonnullN, l_nonnullS, l_acne, l_callV, l_callI, l_callS, l_ret, l_iret, l_zret, l_aret, l_after, List.length_cons, List.length_nil, Nat.reduceAdd, Nat.reduceLT, Nat.reduceLeDiff, Nat.reduceEqDiff, and_self, and_true, true_and, if_true, if_false, reduceIte, ite_true, ite_false, beq_self_eq_true, Nat.zero_add, Option.toList_some, Option.toList_none, List.cons_append, List.nil_append, gj_0, gj_1, gj_2, gj_3, gj_4, gj_5, gj_6, gj_7, gj_8, gj_9, gj_10, gj_11, gj_12, gj_13, gj_14, gj_15, gj_16, gj_17, gj_18, gj_19, gj_20, gj_21, gj_22, gj_23, gj_24, gj_25, gj_26, gj_27, pj_4, pj_5, pj_9, pj_10, pj_11, pj_12, pj_19, pj_20, pj_26, ij_1, ij_2, ij_3, ij_4, ij_5, ij_6, ij_7, ij_8, ij_9, ij_10, ij_11, ij_12, ij_13, ij_14, ij_15, ij_16, ij_17, ij_18, ij_19, vf_1, vf_2, vf_3, vf_4, vf_5, vf_6, vf_7, vf_8, vf_9, vf_10, vf_11, vf_12, vf_13, vf_14, vf_15, vf_16, vf_17, vf_18, vf_19, sj, hmsg, hfl, m1_nle, eq_true (show nI 0 ≤ nI 0 by decide)]
    have hz : ([] : List Nat).length / blk = 0 := Nat.zero_div _
    have h9 := hfin Ua (by show _ = nI (2 * (([] : List Nat).length / blk)); rw [hz]; exact m5) (fun i hi => by have hi : i < ([] : List Nat).length / blk := hi; rw [hz] at hi; omega) (fun _ _ => rfl) (fun _ _ => rfl) (by decide)
    exact ⟨Ua, rfl, h9.1, h9.2⟩
  | some u =>
    rw [hx] at hf hfin
    obtain ⟨f1, f2, f3, f4, f5⟩ := hf
    have h40 := f5.1
    have hfl := x_mfile (n := n) (w := w) (c := c) (f := f) (U := Ua) (t := 1) (k := k) (by decide) hk (by rw [c1 1 (by decide) (by decide) (by decide)]; exact f1)
    have hxf := mt_ix_nI (j := 12 + k) (n := 24) (by omega) (by decide)
    have e2 : Ua 2 (12 + k) = nI u.1.length := by rw [c1 2 (by decide) (by decide) (by decide)]; exact f2
    have e10 : Ua 0 10 = nI blk := by rw [c2 10 (by decide)]; exact hb0
    have hdiv := pk_div (a := u.1.length) (d := blk) (by omega) (by omega) (by omega)
    have hne : (nI blk = 0) = False := eq_false (nI_ne0 (by omega) (by omega))
    simp only [k_MD_sendSignature_0, k_MD_sendSignature_10, k_MD_sendSignature_16, k_MD_sendSignature_25, k_MD_sendSignature_36, mt_kk, mt_l0, lget, lput, mt_pop, g_nil, g_const, g_null, g_iload, g_aload, g_istore, g_astore, g_iinc, g_add, g_sub, g_mul, g_and, g_xor, g_div, g_rem, g_dup, g_dup2, g_pop, g_get, g_putI, g_putZ, g_putA, g_iald, g_zald, g_iast, g_zast, g_aald, g_aast, g_alen, g_new, g_newI, g_newA, g_objinit, l_fall, l_ifeq, l_ifne, l_iflt, l_ifge, l_ifgt, l_ifle, l_iceq, l_icne, l_iclt, l_icge, l_icgt, l_icle, l_nullN, l_nullS, l_nonnullN, l_nonnullS, l_acne, l_callV, l_callI, l_callS, l_ret, l_iret, l_zret, l_aret, l_after, List.length_cons, List.length_nil, Nat.reduceAdd, Nat.reduceLT, Nat.reduceLeDiff, Nat.reduceEqDiff, and_self, and_true, true_and, if_true, if_false, reduceIte, ite_true, ite_false, beq_self_eq_true, Nat.zero_add, Option.toList_some, Option.toList_none, List.cons_append, List.nil_append, gj_0, gj_1, gj_2, gj_3, gj_4, gj_5, gj_6, gj_7, gj_8, gj_9, gj_10, gj_11, gj_12, gj_13, gj_14, gj_15, gj_16, gj_17, gj_18, gj_19, gj_20, gj_21, gj_22, gj_23, gj_24, gj_25, gj_26, gj_27, pj_4, pj_5, pj_9, pj_10, pj_11, pj_12, pj_19, pj_20, pj_26, ij_1, ij_2, ij_3, ij_4, ij_5, ij_6, ij_7, ij_8, ij_9, ij_10, ij_11, ij_12, ij_13, ij_14, ij_15, ij_16, ij_17, ij_18, ij_19, vf_1, vf_2, vf_3, vf_4, vf_5, vf_6, vf_7, vf_8, vf_9, vf_10, vf_11, vf_12, vf_13, vf_14, vf_15, vf_16, vf_17, vf_18, vf_19, sj, hmsg, hfl, (show 1 * 12 + k = 12 + k by omega), nI_nn (j := 12 + k) (by omega), hxf, e2, e10, hdiv, hne]
    refine lp_msig (U0 := Ua) (l := u.1) (by omega) (by omega) e10 c6 hb1 hb8 hat f5 (fun j hj => by rw [c1 4 (by decide) (by decide) (by decide)]; exact f4 j hj) _ (fun U1 g1 g2 g3 g4 => ?_) (u.1.length / blk) 0 Ua none (by omega) m5 (fun i hi => by omega) (fun _ _ => rfl) (fun _ _ => rfl)
    have h9 := hfin U1 g1 g2 g3 g4 h40
    exact ⟨U1, rfl, h9.1, h9.2⟩
end MD
