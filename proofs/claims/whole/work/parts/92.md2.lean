/-! The reference: rule, put, set, remove, crash, records. -/
theorem vR_congr {U U1 : v_N} {rl : a_R} (h0 : U1 0 5 = U 0 5) (hk : ∀ q, 5 ≤ q → q < 8 → U1 q = U q) (h : vR U rl) : vR U1 rl := by
  obtain ⟨h1, h2, h3⟩ := h
  refine ⟨h1, by rw [h0]; exact h2, fun j r hr => ?_⟩
  rw [hk 5 (by decide) (by decide), hk 6 (by decide) (by decide), hk 7 (by decide) (by decide)]
  exact h3 j r hr
theorem gR_congr {U U1 : v_N} {i : Nat} {x : a_F} (h1 : U1 1 i = U 1 i) (h2 : U1 2 i = U 2 i) (h3 : U1 3 i = U 3 i) (h4 : ∀ j, j < 40 → U1 4 (40 * i + j) = U 4 (40 * i + j)) (h : gR U i x) : gR U1 i x := by
  cases x with
  | none => exact h1.trans h
  | some y =>
    obtain ⟨a, c, d, e, g⟩ := h
    have h40 := g.1
    exact ⟨h1.trans a, h2.trans c, h3.trans d, fun j hj => (h4 j (by omega)).trans (e j hj), g⟩
theorem gR_same {U U1 : v_N} {i : Nat} {x : a_F} (hk : ∀ q, 1 ≤ q → q < 5 → U1 q = U q) (h : gR U i x) : gR U1 i x := gR_congr (by rw [hk 1 (by decide) (by decide)]) (by rw [hk 2 (by decide) (by decide)]) (by rw [hk 3 (by decide) (by decide)]) (fun j _ => by rw [hk 4 (by decide) (by decide)]) h
theorem hR_congr {U U1 : v_N} {x : a_J} (h0 : U1 0 20 = U 0 20) (hk : ∀ q, 14 ≤ q → q < 18 → U1 q = U q) (h : hR U x) : hR U1 x := by
  cases x with
  | none => exact h0.trans h
  | some y =>
    obtain ⟨a, b, d, e, g, i, j⟩ := h
    exact ⟨h0.trans a, b, by rw [hk 14 (by decide) (by decide)]; exact d, by rw [hk 15 (by decide) (by decide)]; exact e, by rw [hk 16 (by decide) (by decide)]; exact g, by rw [hk 17 (by decide) (by decide)]; exact i, j⟩
theorem cM_congr {U U1 : v_N} {a : Nat} {m : a_M} (h : ∀ i, i < 90 → U1 13 (a + i) = U 13 (a + i)) (hm : cM U a m) : cM U1 a m := by
  obtain ⟨h0, h1, h2, h3, h4, h5, h6⟩ := hm
  refine ⟨(h 0 (by decide)).trans h0, (h 1 (by decide)).trans h1, (h 2 (by decide)).trans h2, (h 3 (by decide)).trans h3, (h 4 (by decide)).trans h4, fun e => ?_, fun e => ?_⟩
  · obtain ⟨g1, g2, g3⟩ := h5 e
    refine ⟨(h 5 (by decide)).trans g1, g2, fun j hj => ⟨?_, ?_⟩⟩
    · have := h (6 + 2 * j) (by omega)
      rw [← Nat.add_assoc] at this
      exact this.trans (g3 j hj).1
    · have := h (7 + 2 * j) (by omega)
      rw [← Nat.add_assoc] at this
      exact this.trans (g3 j hj).2
  · obtain ⟨g1, g2, g3⟩ := h6 e
    refine ⟨(h 5 (by decide)).trans g1, g2, fun j hj => ?_⟩
    have := h (6 + j) (by omega)
    rw [← Nat.add_assoc] at this
    exact this.trans (g3 j hj)
theorem nR_congr {U U1 : v_N} {ln : Nat} {ls : List a_M} (h0 : U1 12 ln = U 12 ln) (h : ∀ i, i < 90 * ls.length → U1 13 (1440 * ln + i) = U 13 (1440 * ln + i)) (hm : nR U ln ls) : nR U1 ln ls := by
  obtain ⟨a, b, d⟩ := hm
  refine ⟨h0.trans a, b, fun i m hi => cM_congr (fun j hj => ?_) (d i m hi)⟩
  have hil : i < ls.length := (List.getElem?_eq_some_iff.mp hi).1
  have := h (90 * i + j) (by omega)
  rw [← Nat.add_assoc] at this
  exact this
theorem tR_congr {U U1 : v_N} {x : Option a_S} (h9 : ∀ k, 9 ≤ k → k < 13 → U1 0 k = U 0 k) (hk : ∀ q, 8 ≤ q → q < 14 → U1 q = U q) (h : tR U x) : tR U1 x := by
  cases x with
  | none =>
    obtain ⟨a, b, d, e⟩ := h
    exact ⟨(h9 9 (by decide) (by decide)).trans a, (h9 12 (by decide) (by decide)).trans b, by rw [hk 12 (by decide) (by decide)]; exact d, by rw [hk 12 (by decide) (by decide)]; exact e⟩
  | some y =>
    obtain ⟨a, b, d, e, g, ⟨i1, i2⟩, j, k, l⟩ := h
    refine ⟨(h9 9 (by decide) (by decide)).trans a, (h9 10 (by decide) (by decide)).trans b, d, e, (h9 11 (by decide) (by decide)).trans g, ⟨(h9 12 (by decide) (by decide)).trans i1, ?_⟩, ?_, nR_congr (by rw [hk 12 (by decide) (by decide)]) (fun i _ => by rw [hk 13 (by decide) (by decide)]) k, nR_congr (by rw [hk 12 (by decide) (by decide)]) (fun i _ => by rw [hk 13 (by decide) (by decide)]) l⟩
    · rw [hk 8 (by decide) (by decide), hk 9 (by decide) (by decide), hk 10 (by decide) (by decide)]; exact i2
    · rw [hk 11 (by decide) (by decide)]; exact j
/-- one file and the clock have changed -/
theorem dR_file {U U1 : v_N} {z : a_Z} {i : Nat} {x : a_F} {c : Int32} (h : dR U z) (h4 : U1 0 4 = c) (h9 : ∀ k, k ≠ 4 → U1 0 k = U 0 k) (hf : gR U1 i x) (ho : ∀ j, j ≠ i → U1 1 j = U 1 j ∧ U1 2 j = U 2 j ∧ U1 3 j = U 3 j) (hb : ∀ p, p < 40 * i ∨ 40 * i + 40 ≤ p → U1 4 p = U 4 p) (hk : ∀ q, 5 ≤ q → U1 q = U q) : dR U1 (c, z.2.1, va_up z.2.2.1 i x, z.2.2.2) := by
  obtain ⟨a1, a2, a3, a4, a5, a6⟩ := h
  refine ⟨h4, vR_congr (h9 5 (by decide)) (fun q q1 q2 => hk q (by omega)) a2, fun j hj => ?_, hR_congr (h9 20 (by decide)) (fun q q1 q2 => hk q (by omega)) a4, fun k hk2 => by rw [hk 19 (by decide)]; exact a5 k hk2, tR_congr (fun k q1 q2 => h9 k (by omega)) (fun q q1 q2 => hk q (by omega)) a6⟩
  show gR U1 j (va_up z.2.2.1 i x j)
  unfold va_up
  by_cases hji : j = i
  · rw [if_pos hji, hji]; exact hf
  · rw [if_neg hji]
    obtain ⟨o1, o2, o3⟩ := ho j hji
    exact gR_congr o1 o2 o3 (fun q hq => hb _ (by omega)) (a3 j hj)
def d_Q (ans : Int32) (n w c : Nat) (f : Nat → Option m_E) (z : a_Z) : m_R → Prop := fun r => ∃ U1, r = (some (.inl ans), (n, w, imr c U1 f)) ∧ dR U1 z
def d_Qv (n w c : Nat) (f : Nat → Option m_E) (z : a_Z) : m_R → Prop := fun r => ∃ U1, r = (none, (n, w, imr c U1 f)) ∧ dR U1 z
section MD
variable {n w c : Nat} {U : v_N} {f : Nat → Option m_E} {z : a_Z}
theorem x_touch {i : Nat} (hi : i < 24) : sm_MD_touch [.inr (some c), .inl (nI i)] (n, w, imr c U f) = some (none, (n, w, imr c (vu (vu U 0 4 (U 0 4 + nI 1)) 3 i (U 0 4 + nI 1)) f)) := by
  have hx := mt_ix_nI (j := i) (n := 24) hi (by decide)
  refine mt_sem_eq ?_
  simp only [k_MD_touch_0, mt_kk, mt_l0, lget, lput, mt_pop, g_nil, g_const, g_null, g_iload, g_aload, g_istore, g_astore, g_iinc, g_add, g_sub, g_mul, g_and, g_xor, g_div, g_rem, g_dup, g_dup2, g_pop, g_get, g_putI, g_putZ, g_putA, g_iald, g_zald, g_iast, g_zast, g_aald, g_aast, g_alen, g_new, g_newI, g_newA, g_objinit, l_fall, l_ifeq, l_ifne, l_iflt, l_ifge, l_ifgt, l_ifle, l_iceq, l_icne, l_iclt, l_icge, l_icgt, l_icle, l_nullN, l_nullS, l_nonnullN, l_nonnullS, l_acne, l_callV, l_callI, l_callS, l_ret, l_iret, l_zret, l_aret, l_after, List.length_cons, List.length_nil, Nat.reduceAdd, Nat.reduceLT, Nat.reduceLeDiff, Nat.reduceEqDiff, and_self, and_true, true_and, if_true, if_false, reduceIte, ite_true, ite_false, beq_self_eq_true, Nat.zero_add, Option.toList_some, Option.toList_none, List.cons_append, List.nil_append, gj_0, gj_1, gj_2, gj_3, gj_4, gj_5, gj_6, gj_7, gj_8, gj_9, gj_10, gj_11, gj_12, gj_13, gj_14, gj_15, gj_16, gj_17, gj_18, gj_19, gj_20, gj_21, gj_22, gj_23, gj_24, gj_25, gj_26, gj_27, pj_4, pj_5, pj_9, pj_10, pj_11, pj_12, pj_19, pj_20, pj_26, ij_1, ij_2, ij_3, ij_4, ij_5, ij_6, ij_7, ij_8, ij_9, ij_10, ij_11, ij_12, ij_13, ij_14, ij_15, ij_16, ij_17, ij_18, ij_19, vf_1, vf_2, vf_3, vf_4, vf_5, vf_6, vf_7, vf_8, vf_9, vf_10, vf_11, vf_12, vf_13, vf_14, vf_15, vf_16, vf_17, vf_18, vf_19, sj, hx, vu_same]
theorem m_put {t k x : Int32} (h : dR U z) : mt_P sm_MD_put [.inr (some c), .inl t, .inl k, .inl x] (n, w, imr c U f) (d_Q (s_put z t k x).1 n w c f (s_put z t k x).2) := by
  refine mt_P_of ?_
  rcases a_cases t k with hb | ⟨i, j, hi, hj, rfl, rfl⟩
  · have h2 : mt_T cd_MD_put 0 ([some (.inr (some c)), some (.inl t), some (.inl k), some (.inl x), none, none], [], (n, w, imr c U f)) (d_Q (nI 0) n w c f z) := by
      by_cases h1 : t < 0 ∨ nI 2 ≤ t
      · simp only [k_MD_put_0, k_MD_put_5, k_MD_put_27, mt_kk, mt_l0, lget, lput, mt_pop, g_nil, g_const, g_null, g_iload, g_aload, g_istore, g_astore, g_iinc, g_add, g_sub, g_mul, g_and, g_xor, g_div, g_rem, g_dup, g_dup2, g_pop, g_get, g_putI, g_putZ, g_putA, g_iald, g_zald, g_iast, g_zast, g_aald, g_aast, g_alen, g_new, g_newI, g_newA, g_objinit, l_fall, l_ifeq, l_ifne, l_iflt, l_ifge, l_ifgt, l_ifle, l_iceq, l_icne, l_iclt, l_icge, l_icgt, l_icle, l_nullN, l_nullS, l_nonnullN, l_nonnullS, l_acne, l_callV, l_callI, l_callS, l_ret, l_iret, l_zret, l_aret, l_after, List.length_cons, List.length_nil, Nat.reduceAdd, Nat.reduceLT, Nat.reduceLeDiff, Nat.reduceEqDiff, and_self, and_true, true_and, if_true, if_false, reduceIte, ite_true, ite_false, beq_self_eq_true, Nat.zero_add, Option.toList_some, Option.toList_none, List.cons_append, List.nil_append, gj_0, gj_1, gj_2, gj_3, gj_4, gj_5, gj_6, gj_7, gj_8, gj_9, gj_10, gj_11, gj_12, gj_13, gj_14, gj_15, gj_16, gj_17, gj_18, gj_19, gj_20, gj_21, gj_22, gj_23, gj_24, gj_25, gj_26, gj_27, pj_4, pj_5, pj_9, pj_10, pj_11, pj_12, pj_19, pj_20, pj_26, ij_1, ij_2, ij_3, ij_4, ij_5, ij_6, ij_7, ij_8, ij_9, ij_10, ij_11, ij_12, ij_13, ij_14, ij_15, ij_16, ij_17, ij_18, ij_19, vf_1, vf_2, vf_3, vf_4, vf_5, vf_6, vf_7, vf_8, vf_9, vf_10, vf_11, vf_12, vf_13, vf_14, vf_15, vf_16, vf_17, vf_18, vf_19, sj, x_inS (h := 1) h1 (by decide), e_0, z_0]
        exact ⟨U, rfl, h⟩
      · obtain ⟨g1, g2⟩ := not_or.mp h1
        rcases pk_ix t (n := 2) (by decide) with h9 | h9 | ⟨i, hi, rfl⟩
        · exact absurd h9 g1
        · exact absurd h9 g2
        · have h3 : k < 0 ∨ nI 12 ≤ k := (hb.resolve_left g1).resolve_left g2
          simp only [k_MD_put_0, k_MD_put_5, k_MD_put_8, k_MD_put_14, k_MD_put_27, mt_kk, mt_l0, lget, lput, mt_pop, g_nil, g_const, g_null, g_iload, g_aload, g_istore, g_astore, g_iinc, g_add, g_sub, g_mul, g_and, g_xor, g_div, g_rem, g_dup, g_dup2, g_pop, g_get, g_putI, g_putZ, g_putA, g_iald, g_zald, g_iast, g_zast, g_aald, g_aast, g_alen, g_new, g_newI, g_newA, g_objinit, l_fall, l_ifeq, l_ifne, l_iflt, l_ifge, l_ifgt, l_ifle, l_iceq, l_icne, l_iclt, l_icge, l_icgt, l_icle, l_nullN, l_nullS, l_nonnullN, l_nonnullS, l_acne, l_callV, l_callI, l_callS, l_ret, l_iret, l_zret, l_aret, l_after, List.length_cons, List.length_nil, Nat.reduceAdd, Nat.reduceLT, Nat.reduceLeDiff, Nat.reduceEqDiff, and_self, and_true, true_and, if_true, if_false, reduceIte, ite_true, ite_false, beq_self_eq_true, Nat.zero_add, Option.toList_some, Option.toList_none, List.cons_append, List.nil_append, gj_0, gj_1, gj_2, gj_3, gj_4, gj_5, gj_6, gj_7, gj_8, gj_9, gj_10, gj_11, gj_12, gj_13, gj_14, gj_15, gj_16, gj_17, gj_18, gj_19, gj_20, gj_21, gj_22, gj_23, gj_24, gj_25, gj_26, gj_27, pj_4, pj_5, pj_9, pj_10, pj_11, pj_12, pj_19, pj_20, pj_26, ij_1, ij_2, ij_3, ij_4, ij_5, ij_6, ij_7, ij_8, ij_9, ij_10, ij_11, ij_12, ij_13, ij_14, ij_15, ij_16, ij_17, ij_18, ij_19, vf_1, vf_2, vf_3, vf_4, vf_5, vf_6, vf_7, vf_8, vf_9, vf_10, vf_11, vf_12, vf_13, vf_14, vf_15, vf_16, vf_17, vf_18, vf_19, sj, x_in (j := i) (h := 1) (by omega) (by decide), x_inS (h := 11) h3 (by decide), e_0, e_1, z_0]
          exact ⟨U, rfl, h⟩
    simp only [s_put, a_ix_n hb]
    exact h2
  · have hf := h.2.2.1 (i * 12 + j) (by omega)
    have e12 : 12 * i = i * 12 := Nat.mul_comm _ _
    have hx0 := mt_ix_nI (j := i * 12 + j) (n := 24) (by omega) (by decide)
    by_cases hc : x < 0 ∨ nI 256 ≤ x
    · simp only [k_MD_put_0, k_MD_put_5, k_MD_put_8, k_MD_put_14, k_MD_put_17, k_MD_put_24, k_MD_put_27, mt_kk, mt_l0, lget, lput, mt_pop, g_nil, g_const, g_null, g_iload, g_aload, g_istore, g_astore, g_iinc, g_add, g_sub, g_mul, g_and, g_xor, g_div, g_rem, g_dup, g_dup2, g_pop, g_get, g_putI, g_putZ, g_putA, g_iald, g_zald, g_iast, g_zast, g_aald, g_aast, g_alen, g_new, g_newI, g_newA, g_objinit, l_fall, l_ifeq, l_ifne, l_iflt, l_ifge, l_ifgt, l_ifle, l_iceq, l_icne, l_iclt, l_icge, l_icgt, l_icle, l_nullN, l_nullS, l_nonnullN, l_nonnullS, l_acne, l_callV, l_callI, l_callS, l_ret, l_iret, l_zret, l_aret, l_after, List.length_cons, List.length_nil, Nat.reduceAdd, Nat.reduceLT, Nat.reduceLeDiff, Nat.reduceEqDiff, and_self, and_true, true_and, if_true, if_false, reduceIte, ite_true, ite_false, beq_self_eq_true, Nat.zero_add, Option.toList_some, Option.toList_none, List.cons_append, List.nil_append, gj_0, gj_1, gj_2, gj_3, gj_4, gj_5, gj_6, gj_7, gj_8, gj_9, gj_10, gj_11, gj_12, gj_13, gj_14, gj_15, gj_16, gj_17, gj_18, gj_19, gj_20, gj_21, gj_22, gj_23, gj_24, gj_25, gj_26, gj_27, pj_4, pj_5, pj_9, pj_10, pj_11, pj_12, pj_19, pj_20, pj_26, ij_1, ij_2, ij_3, ij_4, ij_5, ij_6, ij_7, ij_8, ij_9, ij_10, ij_11, ij_12, ij_13, ij_14, ij_15, ij_16, ij_17, ij_18, ij_19, vf_1, vf_2, vf_3, vf_4, vf_5, vf_6, vf_7, vf_8, vf_9, vf_10, vf_11, vf_12, vf_13, vf_14, vf_15, vf_16, vf_17, vf_18, vf_19, sj, x_in (j := i) (h := 1) (by omega) (by decide), x_in (j := j) (h := 11) (by omega) (by decide), x_inS (h := 255) hc (by decide), e_0, e_1, z_0, s_put, a_ix_y hi hj, hc, not_true_eq_false, false_and]
      exact ⟨U, rfl, h⟩
    · obtain ⟨g1, g2⟩ := not_or.mp hc
      rcases pk_ix x (n := 256) (by decide) with h9 | h9 | ⟨q, hq, rfl⟩
      · exact absurd h9 g1
      · exact absurd h9 g2
      · have hcl : (nI q).toNatClampNeg = q := nI_clamp (by omega)
        have hrow : (a_row (z.2.2.1 (i * 12 + j))).length ≤ 40 ∧ a_by (a_row (z.2.2.1 (i * 12 + j))) ∧ (∀ p, p < (a_row (z.2.2.1 (i * 12 + j))).length → U 4 (40 * (i * 12 + j) + p) = nI ((a_row (z.2.2.1 (i * 12 + j))).getD p 0)) := by
          cases hz : z.2.2.1 (i * 12 + j) with
          | none => exact ⟨by decide, ⟨by decide, fun x hx => by cases hx⟩, fun p hp => by cases hp⟩
          | some y => rw [hz] at hf; exact ⟨hf.2.2.2.2.1, hf.2.2.2.2, hf.2.2.2.1⟩
        have hsz : mt_T cd_MD_put 58 ([some (.inr (some c)), some (.inl (nI i)), some (.inl (nI j)), some (.inl (nI q)), some (.inl (nI (i * 12 + j))), none], [.inl (nI (a_row (z.2.2.1 (i * 12 + j))).length)], (n, w, imr c U f)) (d_Q (s_put z (nI i) (nI j) (nI q)).1 n w c f (s_put z (nI i) (nI j) (nI q)).2) → mt_T cd_MD_put 0 (mt_l0 6 [.inr (some c), .inl (nI i), .inl (nI j), .inl (nI q)], [], (n, w, imr c U f)) (d_Q (s_put z (nI i) (nI j) (nI q)).1 n w c f (s_put z (nI i) (nI j) (nI q)).2) := by
          intro hk
          cases hz : z.2.2.1 (i * 12 + j) with
          | none =>
            rw [hz] at hf hk
            have hf : U 1 (i * 12 + j) = nI 0 := hf
            simp only [k_MD_put_0, k_MD_put_5, k_MD_put_8, k_MD_put_14, k_MD_put_17, k_MD_put_24, k_MD_put_29, k_MD_put_57, mt_kk, mt_l0, lget, lput, mt_pop, g_nil, g_const, g_null, g_iload, g_aload, g_istore, g_astore, g_iinc, g_add, g_sub, g_mul, g_and, g_xor, g_div, g_rem, g_dup, g_dup2, g_pop, g_get, g_putI, g_putZ, g_putA, g_iald, g_zald, g_iast, g_zast, g_aald, g_aast, g_alen, g_new, g_newI, g_newA, g_objinit, l_fall, l_ifeq, l_ifne, l_iflt, l_ifge, l_ifgt, l_ifle, l_iceq, l_icne, l_iclt, l_icge, l_icgt, l_icle, l_nullN, l_nullS, l_nonnullN, l_nonnullS, l_acne, l_callV, l_callI, l_callS, l_ret, l_iret, l_zret, l_aret, l_after, List.length_cons, List.length_nil, Nat.reduceAdd, Nat.reduceLT, Nat.reduceLeDiff, Nat.reduceEqDiff, and_self, and_true, true_and, if_true, if_false, reduceIte, ite_true, ite_false, beq_self_eq_true, Nat.zero_add, Option.toList_some, Option.toList_none, List.cons_append, List.nil_append, gj_0, gj_1, gj_2, gj_3, gj_4, gj_5, gj_6, gj_7, gj_8, gj_9, gj_10, gj_11, gj_12, gj_13, gj_14, gj_15, gj_16, gj_17, gj_18, gj_19, gj_20, gj_21, gj_22, gj_23, gj_24, gj_25, gj_26, gj_27, pj_4, pj_5, pj_9, pj_10, pj_11, pj_12, pj_19, pj_20, pj_26, ij_1, ij_2, ij_3, ij_4, ij_5, ij_6, ij_7, ij_8, ij_9, ij_10, ij_11, ij_12, ij_13, ij_14, ij_15, ij_16, ij_17, ij_18, ij_19, vf_1, vf_2, vf_3, vf_4, vf_5, vf_6, vf_7, vf_8, vf_9, vf_10, vf_11, vf_12, vf_13, vf_14, vf_15, vf_16, vf_17, vf_18, vf_19, sj, x_in (j := i) (h := 1) (by omega) (by decide), x_in (j := j) (h := 11) (by omega) (by decide), x_in (j := q) (h := 255) (by omega) (by decide), e_0, e_1, pk_mul, nI_add, e12, hx0, hf]
            exact hk
          | some y =>
            rw [hz] at hf hk
            simp only [k_MD_put_0, k_MD_put_5, k_MD_put_8, k_MD_put_14, k_MD_put_17, k_MD_put_24, k_MD_put_29, k_MD_put_47, mt_kk, mt_l0, lget, lput, mt_pop, g_nil, g_const, g_null, g_iload, g_aload, g_istore, g_astore, g_iinc, g_add, g_sub, g_mul, g_and, g_xor, g_div, g_rem, g_dup, g_dup2, g_pop, g_get, g_putI, g_putZ, g_putA, g_iald, g_zald, g_iast, g_zast, g_aald, g_aast, g_alen, g_new, g_newI, g_newA, g_objinit, l_fall, l_ifeq, l_ifne, l_iflt, l_ifge, l_ifgt, l_ifle, l_iceq, l_icne, l_iclt, l_icge, l_icgt, l_icle, l_nullN, l_nullS, l_nonnullN, l_nonnullS, l_acne, l_callV, l_callI, l_callS, l_ret, l_iret, l_zret, l_aret, l_after, List.length_cons, List.length_nil, Nat.reduceAdd, Nat.reduceLT, Nat.reduceLeDiff, Nat.reduceEqDiff, and_self, and_true, true_and, if_true, if_false, reduceIte, ite_true, ite_false, beq_self_eq_true, Nat.zero_add, Option.toList_some, Option.toList_none, List.cons_append, List.nil_append, gj_0, gj_1, gj_2, gj_3, gj_4, gj_5, gj_6, gj_7, gj_8, gj_9, gj_10, gj_11, gj_12, gj_13, gj_14, gj_15, gj_16, gj_17, gj_18, gj_19, gj_20, gj_21, gj_22, gj_23, gj_24, gj_25, gj_26, gj_27, pj_4, pj_5, pj_9, pj_10, pj_11, pj_12, pj_19, pj_20, pj_26, ij_1, ij_2, ij_3, ij_4, ij_5, ij_6, ij_7, ij_8, ij_9, ij_10, ij_11, ij_12, ij_13, ij_14, ij_15, ij_16, ij_17, ij_18, ij_19, vf_1, vf_2, vf_3, vf_4, vf_5, vf_6, vf_7, vf_8, vf_9, vf_10, vf_11, vf_12, vf_13, vf_14, vf_15, vf_16, vf_17, vf_18, vf_19, sj, x_in (j := i) (h := 1) (by omega) (by decide), x_in (j := j) (h := 11) (by omega) (by decide), x_in (j := q) (h := 255) (by omega) (by decide), e_0, e_1, pk_mul, nI_add, e12, hx0, hf.1, hf.2.1]
            exact hk
        refine hsz ?_
        obtain ⟨r1, r2, r3⟩ := hrow
        simp only [s_put, a_ix_y hi hj, hcl, hc, not_false_eq_true, true_and]
        generalize a_row (z.2.2.1 (i * 12 + j)) = l at r1 r2 r3
        have e40 := nI_ltE (a := l.length) (b := 40) (by omega) (by decide)
        by_cases hl : l.length < 40
        · have hx1 := mt_ix_nI (j := 40 * (i * 12 + j) + l.length) (n := 960) (by omega) (by decide)
          simp only [k_MD_put_58, k_MD_put_69, k_MD_put_108, mt_kk, mt_l0, lget, lput, mt_pop, g_nil, g_const, g_null, g_iload, g_aload, g_istore, g_astore, g_iinc, g_add, g_sub, g_mul, g_and, g_xor, g_div, g_rem, g_dup, g_dup2, g_pop, g_get, g_putI, g_putZ, g_putA, g_iald, g_zald, g_iast, g_zast, g_aald, g_aast, g_alen, g_new, g_newI, g_newA, g_objinit, l_fall, l_ifeq, l_ifne, l_iflt, l_ifge, l_ifgt, l_ifle, l_iceq, l_icne, l_iclt, l_icge, l_icgt, l_icle, l_nullN, l_nullS, l_nonnullN, l_nonnullS, l_acne, l_callV, l_callI, l_callS, l_ret, l_iret, l_zret, l_aret, l_after, List.length_cons, List.length_nil, Nat.reduceAdd, Nat.reduceLT, Nat.reduceLeDiff, Nat.reduceEqDiff, and_self, and_true, true_and, if_true, if_false, reduceIte, ite_true, ite_false, beq_self_eq_true, Nat.zero_add, Option.toList_some, Option.toList_none, List.cons_append, List.nil_append, gj_0, gj_1, gj_2, gj_3, gj_4, gj_5, gj_6, gj_7, gj_8, gj_9, gj_10, gj_11, gj_12, gj_13, gj_14, gj_15, gj_16, gj_17, gj_18, gj_19, gj_20, gj_21, gj_22, gj_23, gj_24, gj_25, gj_26, gj_27, pj_4, pj_5, pj_9, pj_10, pj_11, pj_12, pj_19, pj_20, pj_26, ij_1, ij_2, ij_3, ij_4, ij_5, ij_6, ij_7, ij_8, ij_9, ij_10, ij_11, ij_12, ij_13, ij_14, ij_15, ij_16, ij_17, ij_18, ij_19, vf_1, vf_2, vf_3, vf_4, vf_5, vf_6, vf_7, vf_8, vf_9, vf_10, vf_11, vf_12, vf_13, vf_14, vf_15, vf_16, vf_17, vf_18, vf_19, sj, e40, hl, hx0, z_1, pk_mul, nI_add, hx1, x_touch (show i * 12 + j < 24 by omega), up_ne (show 0 ≠ 2 by decide), up_ne (show 0 ≠ 4 by decide), up_ne (show 0 ≠ 1 by decide), h.1]
          refine ⟨_, rfl, dR_file h ?_ ?_ ⟨?_, ?_, ?_, ?_, a_by_app r2 hl hq⟩ ?_ ?_ ?_⟩
          · rw [up_ne (by decide), vu_same]
          · intro k hk
            rw [up_ne (by decide), vu_slot hk, up_ne (by decide), up_ne (by decide), up_ne (by decide)]
          · rw [up_ne (by decide), up_ne (by decide), up_ne (by decide), up_ne (by decide), vu_same]
          · rw [up_ne (by decide), up_ne (by decide), vu_same, List.length_append]; rfl
          · rw [vu_same]
          · intro p hp
            rw [up_ne (by decide), up_ne (by decide), up_ne (by decide), gd_app]
            by_cases hpl : p = l.length
            · subst hpl
              rw [vu_same, if_pos rfl]
            · rw [vu_slot (by omega), if_neg hpl, up_ne (by decide)]
              rw [List.length_append, List.length_cons, List.length_nil] at hp
              exact r3 p (by omega)
          · intro p hp
            refine ⟨?_, ?_, ?_⟩
            · rw [up_ne (by decide), up_ne (by decide), up_ne (by decide), up_ne (by decide), vu_slot hp]
            · rw [up_ne (by decide), up_ne (by decide), vu_slot hp, up_ne (by decide), up_ne (by decide)]
            · rw [vu_slot hp, up_ne (by decide), up_ne (by decide), up_ne (by decide), up_ne (by decide)]
          · intro p hp
            rw [up_ne (by decide), up_ne (by decide), up_ne (by decide), vu_slot (by omega), up_ne (by decide)]
          · intro q1 hq1
            rw [vu_off (by omega), vu_off (by omega), vu_off (by omega), vu_off (by omega), vu_off (by omega)]
        · simp only [k_MD_put_58, k_MD_put_67, mt_kk, mt_l0, lget, lput, mt_pop, g_nil, g_const, g_null, g_iload, g_aload, g_istore, g_astore, g_iinc, g_add, g_sub, g_mul, g_and, g_xor, g_div, g_rem, g_dup, g_dup2, g_pop, g_get, g_putI, g_putZ, g_putA, g_iald, g_zald, g_iast, g_zast, g_aald, g_aast, g_alen, g_new, g_newI, g_newA, g_objinit, l_fall, l_ifeq, l_ifne, l_iflt, l_ifge, l_ifgt, l_ifle, l_iceq, l_icne, l_iclt, l_icge, l_icgt, l_icle, l_nullN, l_nullS, l_nonnullN, l_nonnullS, l_acne, l_callV, l_callI, l_callS, l_ret, l_iret, l_zret, l_aret, l_after, List.length_cons, List.length_nil, Nat.reduceAdd, Nat.reduceLT, Nat.reduceLeDiff, Nat.reduceEqDiff, and_self, and_true, true_and, if_true, if_false, reduceIte, ite_true, ite_false, beq_self_eq_true, Nat.zero_add, Option.toList_some, Option.toList_none, List.cons_append, List.nil_append, gj_0, gj_1, gj_2, gj_3, gj_4, gj_5, gj_6, gj_7, gj_8, gj_9, gj_10, gj_11, gj_12, gj_13, gj_14, gj_15, gj_16, gj_17, gj_18, gj_19, gj_20, gj_21, gj_22, gj_23, gj_24, gj_25, gj_26, gj_27, pj_4, pj_5, pj_9, pj_10, pj_11, pj_12, pj_19, pj_20, pj_26, ij_1, ij_2, ij_3, ij_4, ij_5, ij_6, ij_7, ij_8, ij_9, ij_10, ij_11, ij_12, ij_13, ij_14, ij_15, ij_16, ij_17, ij_18, ij_19, vf_1, vf_2, vf_3, vf_4, vf_5, vf_6, vf_7, vf_8, vf_9, vf_10, vf_11, vf_12, vf_13, vf_14, vf_15, vf_16, vf_17, vf_18, vf_19, sj, e40, hl, z_0]
          exact ⟨U, rfl, h⟩
theorem m_set {t k p x : Int32} (h : dR U z) : mt_P sm_MD_set [.inr (some c), .inl t, .inl k, .inl p, .inl x] (n, w, imr c U f) (d_Q (s_set z t k p x).1 n w c f (s_set z t k p x).2) := by
  refine mt_P_of ?_
  rcases a_cases t k with hb | ⟨i, j, hi, hj, rfl, rfl⟩
  · simp only [k_MD_set_0, k_MD_set_6, k_MD_set_40, mt_kk, mt_l0, lget, lput, mt_pop, g_nil, g_const, g_null, g_iload, g_aload, g_istore, g_astore, g_iinc, g_add, g_sub, g_mul, g_and, g_xor, g_div, g_rem, g_dup, g_dup2, g_pop, g_get, g_putI, g_putZ, g_putA, g_iald, g_zald, g_iast, g_zast, g_aald, g_aast, g_alen, g_new, g_newI, g_newA, g_objinit, l_fall, l_ifeq, l_ifne, l_iflt, l_ifge, l_ifgt, l_ifle, l_iceq, l_icne, l_iclt, l_icge, l_icgt, l_icle, l_nullN, l_nullS, l_nonnullN, l_nonnullS, l_acne, l_callV, l_callI, l_callS, l_ret, l_iret, l_zret, l_aret, l_after, List.length_cons, List.length_nil, Nat.reduceAdd, Nat.reduceLT, Nat.reduceLeDiff, Nat.reduceEqDiff, and_self, and_true, true_and, if_true, if_false, reduceIte, ite_true, ite_false, beq_self_eq_true, Nat.zero_add, Option.toList_some, Option.toList_none, List.cons_append, List.nil_append, gj_0, gj_1, gj_2, gj_3, gj_4, gj_5, gj_6, gj_7, gj_8, gj_9, gj_10, gj_11, gj_12, gj_13, gj_14, gj_15, gj_16, gj_17, gj_18, gj_19, gj_20, gj_21, gj_22, gj_23, gj_24, gj_25, gj_26, gj_27, pj_4, pj_5, pj_9, pj_10, pj_11, pj_12, pj_19, pj_20, pj_26, ij_1, ij_2, ij_3, ij_4, ij_5, ij_6, ij_7, ij_8, ij_9, ij_10, ij_11, ij_12, ij_13, ij_14, ij_15, ij_16, ij_17, ij_18, ij_19, vf_1, vf_2, vf_3, vf_4, vf_5, vf_6, vf_7, vf_8, vf_9, vf_10, vf_11, vf_12, vf_13, vf_14, vf_15, vf_16, vf_17, vf_18, vf_19, sj, x_mfileN hb, m1_neg, z_0, s_set, a_ix_n hb]
    exact ⟨U, rfl, h⟩
  · have hf := h.2.2.1 (i * 12 + j) (by omega)
    have hx0 := mt_ix_nI (j := i * 12 + j) (n := 24) (by omega) (by decide)
    cases hz : z.2.2.1 (i * 12 + j) with
    | none =>
      rw [hz] at hf
      simp only [k_MD_set_0, k_MD_set_6, k_MD_set_40, mt_kk, mt_l0, lget, lput, mt_pop, g_nil, g_const, g_null, g_iload, g_aload, g_istore, g_astore, g_iinc, g_add, g_sub, g_mul, g_and, g_xor, g_div, g_rem, g_dup, g_dup2, g_pop, g_get, g_putI, g_putZ, g_putA, g_iald, g_zald, g_iast, g_zast, g_aald, g_aast, g_alen, g_new, g_newI, g_newA, g_objinit, l_fall, l_ifeq, l_ifne, l_iflt, l_ifge, l_ifgt, l_ifle, l_iceq, l_icne, l_iclt, l_icge, l_icgt, l_icle, l_nullN, l_nullS, l_nonnullN, l_nonnullS, l_acne, l_callV, l_callI, l_callS, l_ret, l_iret, l_zret, l_aret, l_after, List.length_cons, List.length_nil, Nat.reduceAdd, Nat.reduceLT, Nat.reduceLeDiff, Nat.reduceEqDiff, and_self, and_true, true_and, if_true, if_false, reduceIte, ite_true, ite_false, beq_self_eq_true, Nat.zero_add, Option.toList_some, Option.toList_none, List.cons_append, List.nil_append, gj_0, gj_1, gj_2, gj_3, gj_4, gj_5, gj_6, gj_7, gj_8, gj_9, gj_10, gj_11, gj_12, gj_13, gj_14, gj_15, gj_16, gj_17, gj_18, gj_19, gj_20, gj_21, gj_22, gj_23, gj_24, gj_25, gj_26, gj_27, pj_4, pj_5, pj_9, pj_10, pj_11, pj_12, pj_19, pj_20, pj_26, ij_1, ij_2, ij_3, ij_4, ij_5, ij_6, ij_7, ij_8, ij_9, ij_10, ij_11, ij_12, ij_13, ij_14, ij_15, ij_16, ij_17, ij_18, ij_19, vf_1, vf_2, vf_3, vf_4, vf_5, vf_6, vf_7, vf_8, vf_9, vf_10, vf_11, vf_12, vf_13, vf_14, vf_15, vf_16, vf_17, vf_18, vf_19, sj, x_mfile0 hi hj hf, m1_neg, z_0, s_set, a_ix_y hi hj, hz]
      exact ⟨U, rfl, h⟩
    | some y =>
      rw [hz] at hf
      obtain ⟨f1, f2, f3, f4, f5⟩ := hf
      have h40 := f5.1
      by_cases hp : p < 0 ∨ nI y.1.length ≤ p
      · simp only [k_MD_set_0, k_MD_set_6, k_MD_set_13, k_MD_set_26, k_MD_set_40, mt_kk, mt_l0, lget, lput, mt_pop, g_nil, g_const, g_null, g_iload, g_aload, g_istore, g_astore, g_iinc, g_add, g_sub, g_mul, g_and, g_xor, g_div, g_rem, g_dup, g_dup2, g_pop, g_get, g_putI, g_putZ, g_putA, g_iald, g_zald, g_iast, g_zast, g_aald, g_aast, g_alen, g_new, g_newI, g_newA, g_objinit, l_fall, l_ifeq, l_ifne, l_iflt, l_ifge, l_ifgt, l_ifle, l_iceq, l_icne, l_iclt, l_icge, l_icgt, l_icle, l_nullN, l_nullS, l_nonnullN, l_nonnullS, l_acne, l_callV, l_callI, l_callS, l_ret, l_iret, l_zret, l_aret, l_after, List.length_cons, List.length_nil, Nat.reduceAdd, Nat.reduceLT, Nat.reduceLeDiff, Nat.reduceEqDiff, and_self, and_true, true_and, if_true, if_false, reduceIte, ite_true, ite_false, beq_self_eq_true, Nat.zero_add, Option.toList_some, Option.toList_none, List.cons_append, List.nil_append, gj_0, gj_1, gj_2, gj_3, gj_4, gj_5, gj_6, gj_7, gj_8, gj_9, gj_10, gj_11, gj_12, gj_13, gj_14, gj_15, gj_16, gj_17, gj_18, gj_19, gj_20, gj_21, gj_22, gj_23, gj_24, gj_25, gj_26, gj_27, pj_4, pj_5, pj_9, pj_10, pj_11, pj_12, pj_19, pj_20, pj_26, ij_1, ij_2, ij_3, ij_4, ij_5, ij_6, ij_7, ij_8, ij_9, ij_10, ij_11, ij_12, ij_13, ij_14, ij_15, ij_16, ij_17, ij_18, ij_19, vf_1, vf_2, vf_3, vf_4, vf_5, vf_6, vf_7, vf_8, vf_9, vf_10, vf_11, vf_12, vf_13, vf_14, vf_15, vf_16, vf_17, vf_18, vf_19, sj, x_mfile hi hj f1, nI_neg (j := i * 12 + j) (by omega), hx0, f2, x_inL h40, hp, e_0, z_0, s_set, a_ix_y hi hj, hz, not_true_eq_false, false_and]
        exact ⟨U, rfl, h⟩
      · obtain ⟨h1, h2⟩ := not_or.mp hp
        rcases pk_ix p (n := y.1.length) (by omega) with h9 | h9 | ⟨q, hq, rfl⟩
        · exact absurd h9 h1
        · exact absurd h9 h2
        · have hclq : (nI q).toNatClampNeg = q := nI_clamp (by omega)
          by_cases hc : x < 0 ∨ nI 256 ≤ x
          · simp only [k_MD_set_0, k_MD_set_6, k_MD_set_13, k_MD_set_26, k_MD_set_29, k_MD_set_37, k_MD_set_40, mt_kk, mt_l0, lget, lput, mt_pop, g_nil, g_const, g_null, g_iload, g_aload, g_istore, g_astore, g_iinc, g_add, g_sub, g_mul, g_and, g_xor, g_div, g_rem, g_dup, g_dup2, g_pop, g_get, g_putI, g_putZ, g_putA, g_iald, g_zald, g_iast, g_zast, g_aald, g_aast, g_alen, g_new, g_newI, g_newA, g_objinit, l_fall, l_ifeq, l_ifne, l_iflt, l_ifge, l_ifgt, l_ifle, l_iceq, l_icne, l_iclt, l_icge, l_icgt, l_icle, l_nullN, l_nullS, l_nonnullN, l_nonnullS, l_acne, l_callV, l_callI, l_callS, l_ret, l_iret, l_zret, l_aret, l_after, List.length_cons, List.length_nil, Nat.reduceAdd, Nat.reduceLT, Nat.reduceLeDiff, Nat.reduceEqDiff, and_self, and_true, true_and, if_true, if_false, reduceIte, ite_true, ite_false, beq_self_eq_true, Nat.zero_add, Option.toList_some, Option.toList_none, List.cons_append, List.nil_append, gj_0, gj_1, gj_2, gj_3, gj_4, gj_5, gj_6, gj_7, gj_8, gj_9, gj_10, gj_11, gj_12, gj_13, gj_14, gj_15, gj_16, gj_17, gj_18, gj_19, gj_20, gj_21, gj_22, gj_23, gj_24, gj_25, gj_26, gj_27, pj_4, pj_5, pj_9, pj_10, pj_11, pj_12, pj_19, pj_20, pj_26, ij_1, ij_2, ij_3, ij_4, ij_5, ij_6, ij_7, ij_8, ij_9, ij_10, ij_11, ij_12, ij_13, ij_14, ij_15, ij_16, ij_17, ij_18, ij_19, vf_1, vf_2, vf_3, vf_4, vf_5, vf_6, vf_7, vf_8, vf_9, vf_10, vf_11, vf_12, vf_13, vf_14, vf_15, vf_16, vf_17, vf_18, vf_19, sj, x_mfile hi hj f1, nI_neg (j := i * 12 + j) (by omega), hx0, f2, x_inL h40, hp, e_0, e_1, z_0, x_inS (h := 255) hc (by decide), s_set, a_ix_y hi hj, hz, hc, not_true_eq_false, and_false]
            exact ⟨U, rfl, h⟩
          · obtain ⟨g1, g2⟩ := not_or.mp hc
            rcases pk_ix x (n := 256) (by decide) with h9 | h9 | ⟨v, hv, rfl⟩
            · exact absurd h9 g1
            · exact absurd h9 g2
            · have hclv : (nI v).toNatClampNeg = v := nI_clamp (by omega)
              have hx1 := mt_ix_nI (j := 40 * (i * 12 + j) + q) (n := 960) (by omega) (by decide)
              simp only [k_MD_set_0, k_MD_set_6, k_MD_set_13, k_MD_set_26, k_MD_set_29, k_MD_set_37, k_MD_set_42, k_MD_set_62, mt_kk, mt_l0, lget, lput, mt_pop, g_nil, g_const, g_null, g_iload, g_aload, g_istore, g_astore, g_iinc, g_add, g_sub, g_mul, g_and, g_xor, g_div, g_rem, g_dup, g_dup2, g_pop, g_get, g_putI, g_putZ, g_putA, g_iald, g_zald, g_iast, g_zast, g_aald, g_aast, g_alen, g_new, g_newI, g_newA, g_objinit, l_fall, l_ifeq, l_ifne, l_iflt, l_ifge, l_ifgt, l_ifle, l_iceq, l_icne, l_iclt, l_icge, l_icgt, l_icle, l_nullN, l_nullS, l_nonnullN, l_nonnullS, l_acne, l_callV, l_callI, l_callS, l_ret, l_iret, l_zret, l_aret, l_after, List.length_cons, List.length_nil, Nat.reduceAdd, Nat.reduceLT, Nat.reduceLeDiff, Nat.reduceEqDiff, and_self, and_true, true_and, if_true, if_false, reduceIte, ite_true, ite_false, beq_self_eq_true, Nat.zero_add, Option.toList_some, Option.toList_none, List.cons_append, List.nil_append, gj_0, gj_1, gj_2, gj_3, gj_4, gj_5, gj_6, gj_7, gj_8, gj_9, gj_10, gj_11, gj_12, gj_13, gj_14, gj_15, gj_16, gj_17, gj_18, gj_19, gj_20, gj_21, gj_22, gj_23, gj_24, gj_25, gj_26, gj_27, pj_4, pj_5, pj_9, pj_10, pj_11, pj_12, pj_19, pj_20, pj_26, ij_1, ij_2, ij_3, ij_4, ij_5, ij_6, ij_7, ij_8, ij_9, ij_10, ij_11, ij_12, ij_13, ij_14, ij_15, ij_16, ij_17, ij_18, ij_19, vf_1, vf_2, vf_3, vf_4, vf_5, vf_6, vf_7, vf_8, vf_9, vf_10, vf_11, vf_12, vf_13, vf_14, vf_15, vf_16, vf_17, vf_18, vf_19, sj, x_mfile hi hj f1, nI_neg (j := i * 12 + j) (by omega), hx0, f2, x_inL h40, hp, e_0, e_1, z_1, x_in (j := v) (h := 255) (by omega) (by decide), s_set, a_ix_y hi hj, hz, hc, hclq, hclv, not_false_eq_true, pk_mul, nI_add, hx1, x_touch (show i * 12 + j < 24 by omega), up_ne (show 0 ≠ 4 by decide), h.1]
              refine ⟨_, rfl, dR_file h ?_ ?_ ⟨?_, ?_, ?_, ?_, a_by_set f5 hv⟩ ?_ ?_ ?_⟩
              · rw [up_ne (by decide), vu_same]
              · intro k hk
                rw [up_ne (by decide), vu_slot hk, up_ne (by decide)]
              · rw [up_ne (by decide), up_ne (by decide), up_ne (by decide)]; exact f1
              · rw [up_ne (by decide), up_ne (by decide), up_ne (by decide), List.length_set]; exact f2
              · rw [vu_same]
              · intro p hp
                rw [List.length_set] at hp
                rw [up_ne (by decide), up_ne (by decide), gd_set hq]
                by_cases hpl : p = q
                · subst hpl
                  rw [vu_same, if_pos rfl]
                · rw [vu_slot (by omega), if_neg hpl]
                  exact f4 p hp
              · intro p hp
                refine ⟨?_, ?_, ?_⟩
                · rw [up_ne (by decide), up_ne (by decide), up_ne (by decide)]
                · rw [up_ne (by decide), up_ne (by decide), up_ne (by decide)]
                · rw [vu_slot hp, up_ne (by decide), up_ne (by decide)]
              · intro p hp
                rw [up_ne (by decide), up_ne (by decide), vu_slot (by omega)]
              · intro q1 hq1
                rw [vu_off (by omega), vu_off (by omega), vu_off (by omega)]
theorem m_rem {t k : Int32} (h : dR U z) : mt_P sm_MD_remove [.inr (some c), .inl t, .inl k] (n, w, imr c U f) (d_Q (s_rem z t k).1 n w c f (s_rem z t k).2) := by
  refine mt_P_of ?_
  rcases a_cases t k with hb | ⟨i, j, hi, hj, rfl, rfl⟩
  · simp only [k_MD_remove_0, k_MD_remove_6, k_MD_remove_11, mt_kk, mt_l0, lget, lput, mt_pop, g_nil, g_const, g_null, g_iload, g_aload, g_istore, g_astore, g_iinc, g_add, g_sub, g_mul, g_and, g_xor, g_div, g_rem, g_dup, g_dup2, g_pop, g_get, g_putI, g_putZ, g_putA, g_iald, g_zald, g_iast, g_zast, g_aald, g_aast, g_alen, g_new, g_newI, g_newA, g_objinit, l_fall, l_ifeq, l_ifne, l_iflt, l_ifge, l_ifgt, l_ifle, l_iceq, l_icne, l_iclt, l_icge, l_icgt, l_icle, l_nullN, l_nullS, l_nonnullN, l_nonnullS, l_acne, l_callV, l_callI, l_callS, l_ret, l_iret, l_zret, l_aret, l_after, List.length_cons, List.length_nil, Nat.reduceAdd, Nat.reduceLT, Nat.reduceLeDiff, Nat.reduceEqDiff, and_self, and_true, true_and, if_true, if_false, reduceIte, ite_true, ite_false, beq_self_eq_true, Nat.zero_add, Option.toList_some, Option.toList_none, List.cons_append, List.nil_append, gj_0, gj_1, gj_2, gj_3, gj_4, gj_5, gj_6, gj_7, gj_8, gj_9, gj_10, gj_11, gj_12, gj_13, gj_14, gj_15, gj_16, gj_17, gj_18, gj_19, gj_20, gj_21, gj_22, gj_23, gj_24, gj_25, gj_26, gj_27, pj_4, pj_5, pj_9, pj_10, pj_11, pj_12, pj_19, pj_20, pj_26, ij_1, ij_2, ij_3, ij_4, ij_5, ij_6, ij_7, ij_8, ij_9, ij_10, ij_11, ij_12, ij_13, ij_14, ij_15, ij_16, ij_17, ij_18, ij_19, vf_1, vf_2, vf_3, vf_4, vf_5, vf_6, vf_7, vf_8, vf_9, vf_10, vf_11, vf_12, vf_13, vf_14, vf_15, vf_16, vf_17, vf_18, vf_19, sj, x_mfileN hb, m1_nle, z_0, s_rem, a_ix_n hb]
    exact ⟨U, rfl, h⟩
  · have hf := h.2.2.1 (i * 12 + j) (by omega)
    have hx0 := mt_ix_nI (j := i * 12 + j) (n := 24) (by omega) (by decide)
    cases hz : z.2.2.1 (i * 12 + j) with
    | none =>
      rw [hz] at hf
      simp only [k_MD_remove_0, k_MD_remove_6, k_MD_remove_11, mt_kk, mt_l0, lget, lput, mt_pop, g_nil, g_const, g_null, g_iload, g_aload, g_istore, g_astore, g_iinc, g_add, g_sub, g_mul, g_and, g_xor, g_div, g_rem, g_dup, g_dup2, g_pop, g_get, g_putI, g_putZ, g_putA, g_iald, g_zald, g_iast, g_zast, g_aald, g_aast, g_alen, g_new, g_newI, g_newA, g_objinit, l_fall, l_ifeq, l_ifne, l_iflt, l_ifge, l_ifgt, l_ifle, l_iceq, l_icne, l_iclt, l_icge, l_icgt, l_icle, l_nullN, l_nullS, l_nonnullN, l_nonnullS, l_acne, l_callV, l_callI, l_callS, l_ret, l_iret, l_zret, l_aret, l_after, List.length_cons, List.length_nil, Nat.reduceAdd, Nat.reduceLT, Nat.reduceLeDiff, Nat.reduceEqDiff, and_self, and_true, true_and, if_true, if_false, reduceIte, ite_true, ite_false, beq_self_eq_true, Nat.zero_add, Option.toList_some, Option.toList_none, List.cons_append, List.nil_append, gj_0, gj_1, gj_2, gj_3, gj_4, gj_5, gj_6, gj_7, gj_8, gj_9, gj_10, gj_11, gj_12, gj_13, gj_14, gj_15, gj_16, gj_17, gj_18, gj_19, gj_20, gj_21, gj_22, gj_23, gj_24, gj_25, gj_26, gj_27, pj_4, pj_5, pj_9, pj_10, pj_11, pj_12, pj_19, pj_20, pj_26, ij_1, ij_2, ij_3, ij_4, ij_5, ij_6, ij_7, ij_8, ij_9, ij_10, ij_11, ij_12, ij_13, ij_14, ij_15, ij_16, ij_17, ij_18, ij_19, vf_1, vf_2, vf_3, vf_4, vf_5, vf_6, vf_7, vf_8, vf_9, vf_10, vf_11, vf_12, vf_13, vf_14, vf_15, vf_16, vf_17, vf_18, vf_19, sj, x_mfile0 hi hj hf, m1_nle, z_0, s_rem, a_ix_y hi hj, hz]
      exact ⟨U, rfl, h⟩
    | some y =>
      rw [hz] at hf
      simp only [k_MD_remove_0, k_MD_remove_6, k_MD_remove_13, mt_kk, mt_l0, lget, lput, mt_pop, g_nil, g_const, g_null, g_iload, g_aload, g_istore, g_astore, g_iinc, g_add, g_sub, g_mul, g_and, g_xor, g_div, g_rem, g_dup, g_dup2, g_pop, g_get, g_putI, g_putZ, g_putA, g_iald, g_zald, g_iast, g_zast, g_aald, g_aast, g_alen, g_new, g_newI, g_newA, g_objinit, l_fall, l_ifeq, l_ifne, l_iflt, l_ifge, l_ifgt, l_ifle, l_iceq, l_icne, l_iclt, l_icge, l_icgt, l_icle, l_nullN, l_nullS, l_nonnullN, l_nonnullS, l_acne, l_callV, l_callI, l_callS, l_ret, l_iret, l_zret, l_aret, l_after, List.length_cons, List.length_nil, Nat.reduceAdd, Nat.reduceLT, Nat.reduceLeDiff, Nat.reduceEqDiff, and_self, and_true, true_and, if_true, if_false, reduceIte, ite_true, ite_false, beq_self_eq_true, Nat.zero_add, Option.toList_some, Option.toList_none, List.cons_append, List.nil_append, gj_0, gj_1, gj_2, gj_3, gj_4, gj_5, gj_6, gj_7, gj_8, gj_9, gj_10, gj_11, gj_12, gj_13, gj_14, gj_15, gj_16, gj_17, gj_18, gj_19, gj_20, gj_21, gj_22, gj_23, gj_24, gj_25, gj_26, gj_27, pj_4, pj_5, pj_9, pj_10, pj_11, pj_12, pj_19, pj_20, pj_26, ij_1, ij_2, ij_3, ij_4, ij_5, ij_6, ij_7, ij_8, ij_9, ij_10, ij_11, ij_12, ij_13, ij_14, ij_15, ij_16, ij_17, ij_18, ij_19, vf_1, vf_2, vf_3, vf_4, vf_5, vf_6, vf_7, vf_8, vf_9, vf_10, vf_11, vf_12, vf_13, vf_14, vf_15, vf_16, vf_17, vf_18, vf_19, sj, x_mfile hi hj hf.1, nI_nn (j := i * 12 + j) (by omega), hx0, z_0, z_1, s_rem, a_ix_y hi hj, hz, up_ne (show 0 ≠ 1 by decide), h.1]
      refine ⟨_, rfl, dR_file h ?_ ?_ ?_ ?_ ?_ ?_⟩
      · rw [vu_same]
      · intro k hk
        rw [vu_slot hk, up_ne (by decide)]
      · show _ = nI 0
        rw [up_ne (by decide), vu_same]
      · intro p hp
        exact ⟨by rw [up_ne (by decide), vu_slot hp], by rw [up_ne (by decide), up_ne (by decide)], by rw [up_ne (by decide), up_ne (by decide)]⟩
      · intro p hp
        rw [up_ne (by decide), up_ne (by decide)]
      · intro q1 hq1
        rw [vu_off (by omega), vu_off (by omega)]
theorem m_rule {inc : Bool} {m v : Int32} (h : dR U z) : mt_P sm_MD_rule [.inr (some c), .inl (bI inc), .inl m, .inl v] (n, w, imr c U f) (d_Q (s_rule z inc m v).1 n w c f (s_rule z inc m v).2) := by
  refine mt_P_of ?_
  by_cases hm : m < 0 ∨ nI 16 ≤ m
  · simp only [k_MD_rule_0, k_MD_rule_6, k_MD_rule_27, mt_kk, mt_l0, lget, lput, mt_pop, g_nil, g_const, g_null, g_iload, g_aload, g_istore, g_astore, g_iinc, g_add, g_sub, g_mul, g_and, g_xor, g_div, g_rem, g_dup, g_dup2, g_pop, g_get, g_putI, g_putZ, g_putA, g_iald, g_zald, g_iast, g_zast, g_aald, g_aast, g_alen, g_new, g_newI, g_newA, g_objinit, l_fall, l_ifeq, l_ifne, l_iflt, l_ifge, l_ifgt, l_ifle, l_iceq, l_icne, l_iclt, l_icge, l_icgt, l_icle, l_nullN, l_nullS, l_nonnullN, l_nonnullS, l_acne, l_callV, l_callI, l_callS, l_ret, l_iret, l_zret, l_aret, l_after, List.length_cons, List.length_nil, Nat.reduceAdd, Nat.reduceLT, Nat.reduceLeDiff, Nat.reduceEqDiff, and_self, and_true, true_and, if_true, if_false, reduceIte, ite_true, ite_false, beq_self_eq_true, Nat.zero_add, Option.toList_some, Option.toList_none, List.cons_append, List.nil_append, gj_0, gj_1, gj_2, gj_3, gj_4, gj_5, gj_6, gj_7, gj_8, gj_9, gj_10, gj_11, gj_12, gj_13, gj_14, gj_15, gj_16, gj_17, gj_18, gj_19, gj_20, gj_21, gj_22, gj_23, gj_24, gj_25, gj_26, gj_27, pj_4, pj_5, pj_9, pj_10, pj_11, pj_12, pj_19, pj_20, pj_26, ij_1, ij_2, ij_3, ij_4, ij_5, ij_6, ij_7, ij_8, ij_9, ij_10, ij_11, ij_12, ij_13, ij_14, ij_15, ij_16, ij_17, ij_18, ij_19, vf_1, vf_2, vf_3, vf_4, vf_5, vf_6, vf_7, vf_8, vf_9, vf_10, vf_11, vf_12, vf_13, vf_14, vf_15, vf_16, vf_17, vf_18, vf_19, sj, x_inS (h := 15) hm (by decide), e_0, z_0, s_rule, hm, not_true_eq_false, false_and]
    exact ⟨U, rfl, h⟩
  · have hm1 : sm_MD_in [.inl m, .inl (nI 15)] (n, w, imr c U f) = some (some (.inl (nI 1)), (n, w, imr c U f)) := by
      obtain ⟨g1, g2⟩ := not_or.mp hm
      rcases pk_ix m (n := 16) (by decide) with h9 | h9 | ⟨q, hq, rfl⟩
      · exact absurd h9 g1
      · exact absurd h9 g2
      · exact x_in (by omega) (by decide)
    by_cases hv : v < 0 ∨ nI 16 ≤ v
    · simp only [k_MD_rule_0, k_MD_rule_6, k_MD_rule_9, k_MD_rule_15, k_MD_rule_27, mt_kk, mt_l0, lget, lput, mt_pop, g_nil, g_const, g_null, g_iload, g_aload, g_istore, g_astore, g_iinc, g_add, g_sub, g_mul, g_and, g_xor, g_div, g_rem, g_dup, g_dup2, g_pop, g_get, g_putI, g_putZ, g_putA, g_iald, g_zald, g_iast, g_zast, g_aald, g_aast, g_alen, g_new, g_newI, g_newA, g_objinit, l_fall, l_ifeq, l_ifne, l_iflt, l_ifge, l_ifgt, l_ifle, l_iceq, l_icne, l_iclt, l_icge, l_icgt, l_icle, l_nullN, l_nullS, l_nonnullN, l_nonnullS, l_acne, l_callV, l_callI, l_callS, l_ret, l_iret, l_zret, l_aret, l_after, List.length_cons, List.length_nil, Nat.reduceAdd, Nat.reduceLT, Nat.reduceLeDiff, Nat.reduceEqDiff, and_self, and_true, true_and, if_true, if_false, reduceIte, ite_true, ite_false, beq_self_eq_true, Nat.zero_add, Option.toList_some, Option.toList_none, List.cons_append, List.nil_append, gj_0, gj_1, gj_2, gj_3, gj_4, gj_5, gj_6, gj_7, gj_8, gj_9, gj_10, gj_11, gj_12, gj_13, gj_14, gj_15, gj_16, gj_17, gj_18, gj_19, gj_20, gj_21, gj_22, gj_23, gj_24, gj_25, gj_26, gj_27, pj_4, pj_5, pj_9, pj_10, pj_11, pj_12, pj_19, pj_20, pj_26, ij_1, ij_2, ij_3, ij_4, ij_5, ij_6, ij_7, ij_8, ij_9, ij_10, ij_11, ij_12, ij_13, ij_14, ij_15, ij_16, ij_17, ij_18, ij_19, vf_1, vf_2, vf_3, vf_4, vf_5, vf_6, vf_7, vf_8, vf_9, vf_10, vf_11, vf_12, vf_13, vf_14, vf_15, vf_16, vf_17, vf_18, vf_19, sj, hm1, x_inS (h := 15) hv (by decide), e_0, e_1, z_0, s_rule, hm, hv, not_true_eq_false, false_and, and_false]
      exact ⟨U, rfl, h⟩
    · have hv1 : sm_MD_in [.inl v, .inl (nI 15)] (n, w, imr c U f) = some (some (.inl (nI 1)), (n, w, imr c U f)) := by
        obtain ⟨g1, g2⟩ := not_or.mp hv
        rcases pk_ix v (n := 16) (by decide) with h9 | h9 | ⟨q, hq, rfl⟩
        · exact absurd h9 g1
        · exact absurd h9 g2
        · exact x_in (by omega) (by decide)
      obtain ⟨a1, ⟨u1, u2, u3⟩, a3, a4, a5, a6⟩ := id h
      have e6 := nI_ltE (a := z.2.1.length) (b := 6) (by omega) (by decide)
      by_cases hl : z.2.1.length < 6
      · have hx := mt_ix_nI (j := z.2.1.length) (n := 6) hl (by decide)
        simp only [k_MD_rule_0, k_MD_rule_6, k_MD_rule_9, k_MD_rule_15, k_MD_rule_18, k_MD_rule_29, mt_kk, mt_l0, lget, lput, mt_pop, g_nil, g_const, g_null, g_iload, g_aload, g_istore, g_astore, g_iinc, g_add, g_sub, g_mul, g_and, g_xor, g_div, g_rem, g_dup, g_dup2, g_pop, g_get, g_putI, g_putZ, g_putA, g_iald, g_zald, g_iast, g_zast, g_aald, g_aast, g_alen, g_new, g_newI, g_newA, g_objinit, l_fall, l_ifeq, l_ifne, l_iflt, l_ifge, l_ifgt, l_ifle, l_iceq, l_icne, l_iclt, l_icge, l_icgt, l_icle, l_nullN, l_nullS, l_nonnullN, l_nonnullS, l_acne, l_callV, l_callI, l_callS, l_ret, l_iret, l_zret, l_aret, l_after, List.length_cons, List.length_nil, Nat.reduceAdd, Nat.reduceLT, Nat.reduceLeDiff, Nat.reduceEqDiff, and_self, and_true, true_and, if_true, if_false, reduceIte, ite_true, ite_false, beq_self_eq_true, Nat.zero_add, Option.toList_some, Option.toList_none, List.cons_append, List.nil_append, gj_0, gj_1, gj_2, gj_3, gj_4, gj_5, gj_6, gj_7, gj_8, gj_9, gj_10, gj_11, gj_12, gj_13, gj_14, gj_15, gj_16, gj_17, gj_18, gj_19, gj_20, gj_21, gj_22, gj_23, gj_24, gj_25, gj_26, gj_27, pj_4, pj_5, pj_9, pj_10, pj_11, pj_12, pj_19, pj_20, pj_26, ij_1, ij_2, ij_3, ij_4, ij_5, ij_6, ij_7, ij_8, ij_9, ij_10, ij_11, ij_12, ij_13, ij_14, ij_15, ij_16, ij_17, ij_18, ij_19, vf_1, vf_2, vf_3, vf_4, vf_5, vf_6, vf_7, vf_8, vf_9, vf_10, vf_11, vf_12, vf_13, vf_14, vf_15, vf_16, vf_17, vf_18, vf_19, sj, hm1, hv1, e_1, u2, e6, hl, hx, bI_z, z_1, up_ne (show 0 ≠ 5 by decide), up_ne (show 0 ≠ 6 by decide), up_ne (show 0 ≠ 7 by decide), nI_add, s_rule, hm, hv, not_false_eq_true]
        refine ⟨_, rfl, ?_, ⟨?_, ?_, ?_⟩, ?_, ?_, ?_, ?_⟩
        · rw [vu_slot (by decide), up_ne (by decide), up_ne (by decide), up_ne (by decide)]; exact a1
        · show (z.2.1 ++ [(inc, m, v)]).length ≤ 6
          rw [List.length_append]; exact hl
        · show _ = nI (z.2.1 ++ [(inc, m, v)]).length
          rw [vu_same, List.length_append]; rfl
        · intro j r hr
          have hr : (z.2.1 ++ [(inc, m, v)])[j]? = some r := hr
          by_cases hj : j < z.2.1.length
          · rw [List.getElem?_append_left hj] at hr
            have h9 := u3 j r hr
            refine ⟨?_, ?_, ?_⟩
            · rw [up_ne (by decide), up_ne (by decide), up_ne (by decide), vu_slot (by omega)]; exact h9.1
            · rw [up_ne (by decide), up_ne (by decide), vu_slot (by omega), up_ne (by decide)]; exact h9.2.1
            · rw [up_ne (by decide), vu_slot (by omega), up_ne (by decide), up_ne (by decide)]; exact h9.2.2
          · rw [List.getElem?_append_right (by omega)] at hr
            have hz : j - z.2.1.length < 1 := (List.getElem?_eq_some_iff.mp hr).1
            have hje : j = z.2.1.length := by omega
            subst hje
            rw [Nat.sub_self] at hr
            cases hr
            refine ⟨?_, ?_, ?_⟩
            · rw [up_ne (by decide), up_ne (by decide), up_ne (by decide), vu_same]
            · rw [up_ne (by decide), up_ne (by decide), vu_same]
            · rw [up_ne (by decide), vu_same]
        · exact fun i hi => gR_same (fun q q1 q2 => by rw [vu_off (by omega), vu_off (by omega), vu_off (by omega), vu_off (by omega)]) (a3 i hi)
        · exact hR_congr (by rw [vu_slot (by decide), up_ne (by decide), up_ne (by decide), up_ne (by decide)]) (fun q q1 q2 => by rw [vu_off (by omega), vu_off (by omega), vu_off (by omega), vu_off (by omega)]) a4
        · intro k hk
          rw [up_ne (by decide), up_ne (by decide), up_ne (by decide), up_ne (by decide)]; exact a5 k hk
        · exact tR_congr (fun k q1 q2 => by rw [vu_slot (by omega), up_ne (by decide), up_ne (by decide), up_ne (by decide)]) (fun q q1 q2 => by rw [vu_off (by omega), vu_off (by omega), vu_off (by omega), vu_off (by omega)]) a6
      · simp only [k_MD_rule_0, k_MD_rule_6, k_MD_rule_9, k_MD_rule_15, k_MD_rule_18, k_MD_rule_27, mt_kk, mt_l0, lget, lput, mt_pop, g_nil, g_const, g_null, g_iload, g_aload, g_istore, g_astore, g_iinc, g_add, g_sub, g_mul, g_and, g_xor, g_div, g_rem, g_dup, g_dup2, g_pop, g_get, g_putI, g_putZ, g_putA, g_iald, g_zald, g_iast, g_zast, g_aald, g_aast, g_alen, g_new, g_newI, g_newA, g_objinit, l_fall, l_ifeq, l_ifne, l_iflt, l_ifge, l_ifgt, l_ifle, l_iceq, l_icne, l_iclt, l_icge, l_icgt, l_icle, l_nullN, l_nullS, l_nonnullN, l_nonnullS, l_acne, l_callV, l_callI, l_callS, l_ret, l_iret, l_zret, l_aret, l_after, List.length_cons, List.length_nil, Nat.reduceAdd, Nat.reduceLT, Nat.reduceLeDiff, Nat.reduceEqDiff, and_self, and_true, true_and, if_true, if_false, reduceIte, ite_true, ite_false, beq_self_eq_true, Nat.zero_add, Option.toList_some, Option.toList_none, List.cons_append, List.nil_append, gj_0, gj_1, gj_2, gj_3, gj_4, gj_5, gj_6, gj_7, gj_8, gj_9, gj_10, gj_11, gj_12, gj_13, gj_14, gj_15, gj_16, gj_17, gj_18, gj_19, gj_20, gj_21, gj_22, gj_23, gj_24, gj_25, gj_26, gj_27, pj_4, pj_5, pj_9, pj_10, pj_11, pj_12, pj_19, pj_20, pj_26, ij_1, ij_2, ij_3, ij_4, ij_5, ij_6, ij_7, ij_8, ij_9, ij_10, ij_11, ij_12, ij_13, ij_14, ij_15, ij_16, ij_17, ij_18, ij_19, vf_1, vf_2, vf_3, vf_4, vf_5, vf_6, vf_7, vf_8, vf_9, vf_10, vf_11, vf_12, vf_13, vf_14, vf_15, vf_16, vf_17, vf_18, vf_19, sj, hm1, hv1, e_1, u2, e6, hl, z_0, s_rule, and_false]
        exact ⟨U, rfl, h⟩
end MD
