/-! The reference: its list of names; begin; a session's conclusion. -/
theorem nl_mem {nt : Nat → Option (Int32 × Int32)} {x : Nat} : ∀ {m : Nat}, x ∈ a_nl nt m ↔ x < m ∧ (nt x).isSome = true
  | 0 => ⟨fun h => (by cases h), fun h => (by omega)⟩
  | m + 1 => by
    simp only [a_nl, List.mem_append, nl_mem (m := m)]
    by_cases h : (nt m).isSome = true
    · rw [if_pos h, List.mem_singleton]
      constructor
      · rintro (⟨h1, h2⟩ | rfl)
        · exact ⟨by omega, h2⟩
        · exact ⟨by omega, h⟩
      · rintro ⟨h1, h2⟩
        by_cases e : x = m
        · exact Or.inr e
        · exact Or.inl ⟨by omega, h2⟩
    · rw [if_neg h]
      constructor
      · rintro (⟨h1, h2⟩ | h1)
        · exact ⟨by omega, h2⟩
        · cases h1
      · rintro ⟨h1, h2⟩
        by_cases e : x = m
        · subst e; exact absurd h2 h
        · exact Or.inl ⟨by omega, h2⟩
theorem nl_len {nt : Nat → Option (Int32 × Int32)} : ∀ (m : Nat), (a_nl nt m).length ≤ m
  | 0 => Nat.le_refl _
  | m + 1 => by
    have h := nl_len (nt := nt) m
    simp only [a_nl, List.length_append]
    split
    · simp only [List.length_cons, List.length_nil]; omega
    · simp only [List.length_nil]; omega
theorem nl_pre {nt : Nat → Option (Int32 × Int32)} {k : Nat} : ∀ (d : Nat), ∃ r, a_nl nt (k + d) = a_nl nt k ++ r
  | 0 => ⟨[], by rw [List.append_nil]; rfl⟩
  | d + 1 => by
    obtain ⟨r, hr⟩ := nl_pre (nt := nt) (k := k) d
    refine ⟨r ++ (if (nt (k + d)).isSome = true then [k + d] else []), ?_⟩
    show a_nl nt (k + d) ++ _ = _
    rw [hr, List.append_assoc]
    rfl
theorem nl_at {nt : Nat → Option (Int32 × Int32)} {k e x : Nat} (hk : k ≤ 12) (h : (a_nl nt k)[e]? = some x) : (a_nl nt 12)[e]? = some x := by
  obtain ⟨r, hr⟩ := nl_pre (nt := nt) (k := k) (12 - k)
  rw [show k + (12 - k) = 12 by omega] at hr
  rw [hr, List.getElem?_append_left (List.getElem?_eq_some_iff.mp h).1]
  exact h
theorem nl_step {nt : Nat → Option (Int32 × Int32)} (d : Nat) : ∀ {k e : Nat}, k + d = 12 → (a_nl nt k).length = e → e < (a_nl nt 12).length → ∃ x, k ≤ x ∧ x < 12 ∧ (nt x).isSome = true ∧ (∀ j, k ≤ j → j < x → nt j = none) ∧ (a_nl nt 12)[e]? = some x ∧ (a_nl nt (x + 1)).length = e + 1 := by
  induction d with
  | zero =>
    intro k e hd h1 h2
    have hd : k = 12 := hd
    subst hd
    omega
  | succ d ih =>
    intro k e hd h1 h2
    by_cases h : (nt k).isSome = true
    · have e1 : a_nl nt (k + 1) = a_nl nt k ++ [k] := by simp only [a_nl, if_pos h]
      refine ⟨k, Nat.le_refl _, by omega, h, fun j h3 h4 => by omega, nl_at (k := k + 1) (by omega) ?_, ?_⟩
      · rw [e1, List.getElem?_append_right (by omega), h1, Nat.sub_self]; rfl
      · rw [e1, List.length_append, h1]; rfl
    · have e1 : a_nl nt (k + 1) = a_nl nt k := by simp only [a_nl, if_neg h, List.append_nil]
      have hn : nt k = none := by
        cases hx : nt k with
        | none => rfl
        | some u => rw [hx] at h; exact absurd rfl h
      obtain ⟨x, x1, x2, x3, x4, x5, x6⟩ := ih (k := k + 1) (e := e) (by omega) (by rw [e1]; exact h1) h2
      refine ⟨x, by omega, x2, x3, fun j h3 h4 => ?_, x5, x6⟩
      by_cases e2 : j = k
      · rw [e2]; exact hn
      · exact x4 j (by omega) h4
theorem nl_end {nt : Nat → Option (Int32 × Int32)} (d : Nat) : ∀ {k : Nat}, k + d = 12 → (a_nl nt k).length = (a_nl nt 12).length → ∀ j, k ≤ j → j < 12 → nt j = none := by
  induction d with
  | zero => intro k hd _ j h1 h2; omega
  | succ d ih =>
    intro k hd h1 j h2 h3
    by_cases h : (nt k).isSome = true
    · exfalso
      have e1 : a_nl nt (k + 1) = a_nl nt k ++ [k] := by simp only [a_nl, if_pos h]
      obtain ⟨r, hr⟩ := nl_pre (nt := nt) (k := k + 1) d
      rw [show k + 1 + d = 12 by omega, e1] at hr
      rw [hr, List.length_append, List.length_append] at h1
      simp only [List.length_cons, List.length_nil] at h1
      omega
    · have e1 : a_nl nt (k + 1) = a_nl nt k := by simp only [a_nl, if_neg h, List.append_nil]
      by_cases e2 : j = k
      · subst e2
        cases hx : nt j with
        | none => rfl
        | some u => rw [hx] at h; exact absurd rfl h
      · exact ih (k := k + 1) (by omega) (by rw [e1]; exact h1) j (by omega) h3
theorem nl_sort {nt : Nat → Option (Int32 × Int32)} : ∀ (m : Nat) {i j x y : Nat}, i < j → (a_nl nt m)[i]? = some x → (a_nl nt m)[j]? = some y → x < y
  | 0, i, j, x, y, _, h, _ => by simp [a_nl] at h
  | m + 1, i, j, x, y, hij, h1, h2 => by
    simp only [a_nl] at h1 h2
    by_cases h : (nt m).isSome = true
    · rw [if_pos h] at h1 h2
      by_cases hj : j < (a_nl nt m).length
      · rw [List.getElem?_append_left hj] at h2
        rw [List.getElem?_append_left (by omega)] at h1
        exact nl_sort m hij h1 h2
      · have h3 := (List.getElem?_eq_some_iff.mp h2).1
        rw [List.length_append] at h3
        simp only [List.length_cons, List.length_nil] at h3
        have hjl : j = (a_nl nt m).length := by omega
        rw [List.getElem?_append_right (by omega), hjl, Nat.sub_self] at h2
        cases h2
        rw [List.getElem?_append_left (by omega)] at h1
        exact (nl_mem.mp (List.mem_of_getElem? h1)).1
    · rw [if_neg h, List.append_nil] at h1 h2
      exact nl_sort m hij h1 h2
theorem nl_inj {nt : Nat → Option (Int32 × Int32)} {i j x : Nat} (h1 : (a_nl nt 12)[i]? = some x) (h2 : (a_nl nt 12)[j]? = some x) : i = j := by
  by_cases h : i < j
  · have := nl_sort 12 h h1 h2; omega
  · by_cases h' : j < i
    · have := nl_sort 12 h' h2 h1; omega
    · omega
section MD
variable {n w c : Nat} {f : Nat → Option m_E}
/-- lines, list, journal and counts have changed -/
theorem dR_new {U U1 : v_N} {z : a_Z} {y : a_S} {jr : a_J} {ct : Nat → Int32} {en : Bool} {nt : Nat → Option (Int32 × Int32)} {op : Nat → Bool} {l0 l1 : List a_M} (h : dR U z) (hy : z.2.2.2.2.2 = some y) (h0 : ∀ k, k < 12 → U1 0 k = U 0 k) (hk : ∀ q, 1 ≤ q → q < 8 → U1 q = U q) (hj : hR U1 jr) (hc : ∀ k, k < 8 → U1 19 k = ct k) (ho : oR U1 nt) (hop : en = true → ∀ e k, (a_nl nt 12)[e]? = some k → U1 11 e = bI (op k)) (hl0 : nR U1 0 l0) (hl1 : nR U1 1 l1) : dR U1 (z_s z jr ct (y.1, y.2.1, en, nt, op, l0, l1)) := by
  obtain ⟨a1, a2, a3, a4, a5, a6⟩ := h
  rw [hy] at a6
  obtain ⟨s1, s2, s3, s4, s5, s6, s7, s8, s9⟩ := a6
  exact ⟨(h0 4 (by decide)).trans a1, vR_congr (h0 5 (by decide)) (fun q q1 q2 => hk q (by omega) q2) a2, fun i hi => gR_same (fun q q1 q2 => hk q q1 (by omega)) (a3 i hi), hj, hc, (h0 9 (by decide)).trans s1, (h0 10 (by decide)).trans s2, s3, s4, (h0 11 (by decide)).trans s5, ho, hop, hl0, hl1⟩
theorem oR_congr {U U1 : v_N} {nt : Nat → Option (Int32 × Int32)} (h0 : U1 0 12 = U 0 12) (hk : ∀ q, 8 ≤ q → q < 11 → U1 q = U q) (h : oR U nt) : oR U1 nt := by
  obtain ⟨a, b⟩ := h
  refine ⟨h0.trans a, fun e k he => ?_⟩
  rw [hk 8 (by decide) (by decide), hk 9 (by decide) (by decide), hk 10 (by decide) (by decide)]
  exact b e k he
/-- a message without items is written behind the others of line 1 -/
theorem x_msg1 {U : v_N} {l1 : List a_M} {m : a_M} (hl : nR U 1 l1) (hlen : l1.length < 13) (h3 : m.1 ≠ 3) (hb : m.1 = 4 → m.2.2.2.2.2 = []) : sm_MD_message [.inr (some c), .inl (nI 1), .inl (nI m.1), .inl (nI m.2.1), .inl (nI m.2.2.1), .inl m.2.2.2.1, .inl m.2.2.2.2.1] (n, w, imr c U f) = some (none, (n, w, imr c (vu (vu (vu (vu (vu (vu (vu (vu U 0 19 (nI (1440 * 1 + 90 * l1.length))) 12 1 (nI (l1.length + 1))) 13 (1440 * 1 + 90 * l1.length) (nI m.1)) 13 (1440 * 1 + 90 * l1.length + 1) (nI m.2.1)) 13 (1440 * 1 + 90 * l1.length + 2) (nI m.2.2.1)) 13 (1440 * 1 + 90 * l1.length + 3) m.2.2.2.1) 13 (1440 * 1 + 90 * l1.length + 4) m.2.2.2.2.1) 13 (1440 * 1 + 90 * l1.length + 5) (nI 0)) f)) := x_msg (by decide) (by omega) hl.1
theorem x_msgP {U : v_N} {l1 : List a_M} {m : a_M} (hl : nR U 1 l1) (hlen : l1.length < 13) (h3 : m.1 ≠ 3) (hb : m.1 = 4 → m.2.2.2.2.2 = []) : mt_P sm_MD_message [.inr (some c), .inl (nI 1), .inl (nI m.1), .inl (nI m.2.1), .inl (nI m.2.2.1), .inl m.2.2.2.1, .inl m.2.2.2.2.1] (n, w, imr c U f) (fun r => ∃ U1, r = (none, (n, w, imr c U1 f)) ∧ nR U1 1 (l1 ++ [m]) ∧ chM U U1 1 (1440 * 1 + 90 * l1.length) ∧ U1 0 19 = nI (1440 * 1 + 90 * l1.length) ∧ U1 13 (1440 * 1 + 90 * l1.length + 5) = nI 0 ∧ U1 12 1 = nI (l1.length + 1)) := by
  refine ⟨_, x_msg1 hl hlen h3 hb, _, rfl, ?_⟩
  generalize ha : 1440 * 1 + 90 * l1.length = a
  have c5 : vu (vu (vu (vu (vu (vu (vu (vu U 0 19 (nI a)) 12 1 (nI (l1.length + 1))) 13 a (nI m.1)) 13 (a + 1) (nI m.2.1)) 13 (a + 2) (nI m.2.2.1)) 13 (a + 3) m.2.2.2.1) 13 (a + 4) m.2.2.2.2.1) 13 (a + 5) (nI 0) 12 1 = nI (l1.length + 1) := by rw [up_ne (by decide), up_ne (by decide), up_ne (by decide), up_ne (by decide), up_ne (by decide), up_ne (by decide), vu_same]
  have c4 : ∀ i, i < a ∨ a + 90 ≤ i → vu (vu (vu (vu (vu (vu (vu (vu U 0 19 (nI a)) 12 1 (nI (l1.length + 1))) 13 a (nI m.1)) 13 (a + 1) (nI m.2.1)) 13 (a + 2) (nI m.2.2.1)) 13 (a + 3) m.2.2.2.1) 13 (a + 4) m.2.2.2.2.1) 13 (a + 5) (nI 0) 13 i = U 13 i := fun i e => by rw [vu_slot (by omega), vu_slot (by omega), vu_slot (by omega), vu_slot (by omega), vu_slot (by omega), vu_slot (by omega), up_ne (by decide), up_ne (by decide)]
  refine ⟨?_, ⟨fun q e1 e2 e3 => ?_, fun k e => ?_, fun k e => ?_, c4⟩, ?_, ?_, c5⟩
  · refine nR_new hl hlen c5 (fun i hi => c4 i (by omega)) ?_
    rw [ha]
    refine ⟨?_, ?_, ?_, ?_, ?_, fun e => absurd e h3, fun e => ⟨?_, ?_, fun j hj => ?_⟩⟩
    · rw [vu_slot (by omega), vu_slot (by omega), vu_slot (by omega), vu_slot (by omega), vu_slot (by omega), vu_same]
    · rw [vu_slot (by omega), vu_slot (by omega), vu_slot (by omega), vu_slot (by omega), vu_same]
    · rw [vu_slot (by omega), vu_slot (by omega), vu_slot (by omega), vu_same]
    · rw [vu_slot (by omega), vu_slot (by omega), vu_same]
    · rw [vu_slot (by omega), vu_same]
    · rw [vu_same, hb e]; rfl
    · rw [hb e]; decide
    · rw [hb e] at hj; cases hj
  · rw [vu_off e3, vu_off e3, vu_off e3, vu_off e3, vu_off e3, vu_off e3, vu_off e2, vu_off e1]
  · rw [up_ne (by decide), up_ne (by decide), up_ne (by decide), up_ne (by decide), up_ne (by decide), up_ne (by decide), up_ne (by decide), vu_slot e]
  · rw [up_ne (by decide), up_ne (by decide), up_ne (by decide), up_ne (by decide), up_ne (by decide), up_ne (by decide), vu_slot e, up_ne (by decide)]
  · rw [up_ne (by decide), up_ne (by decide), up_ne (by decide), up_ne (by decide), up_ne (by decide), up_ne (by decide), up_ne (by decide), vu_same]
  · rw [vu_same]
theorem lp_mbeg {U0 : v_N} {z : a_Z} {y : a_S} (h : dR U0 z) (hy : z.2.2.2.2.2 = some y) (hl0 : y.2.2.2.2.2.1 = []) (hy1 : y.2.2.2.2.2.2 = []) (hen : y.2.2.1 = false) (Q : m_R → Prop) (hq : ∀ U1, dR U1 (z_s z z.2.2.2.1 z.2.2.2.2.1 (y.1, y.2.1, y.2.2.1, y.2.2.2.1, y.2.2.2.2.1, [], a_en z.2.2.1 z.2.1 12 ++ [a_end])) → Q (some (.inl (nI 1)), (n, w, imr c U1 f))) (bk dl : Int32) (d : Nat) : ∀ (i : Nat) (U : v_N), i + d = 12 → dR U (z_s z z.2.2.2.1 z.2.2.2.2.1 (y.1, y.2.1, y.2.2.1, y.2.2.2.1, y.2.2.2.2.1, [], a_en z.2.2.1 z.2.1 i)) → mt_T cd_MD_begin 46 ([some (.inr (some c)), some (.inl bk), some (.inl dl), some (.inl (nI i))], [], (n, w, imr c U f)) Q := by
  have hstep : ∀ (U U1 : v_N) (l1 : List a_M), dR U (z_s z z.2.2.2.1 z.2.2.2.2.1 (y.1, y.2.1, y.2.2.1, y.2.2.2.1, y.2.2.2.2.1, [], l1)) → ∀ m, nR U1 1 (l1 ++ [m]) → chM U U1 1 (1440 * 1 + 90 * l1.length) → dR U1 (z_s z z.2.2.2.1 z.2.2.2.2.1 (y.1, y.2.1, y.2.2.1, y.2.2.2.1, y.2.2.2.2.1, [], l1 ++ [m])) := by
    intro U U1 l1 hd m g1 g2
    obtain ⟨a1, a2, a3, a4, a5, a6⟩ := id hd
    obtain ⟨s1, s2, s3, s4, s5, s6, s7, s8, s9⟩ := a6
    exact dR_new (z := z_s z z.2.2.2.1 z.2.2.2.2.1 (y.1, y.2.1, y.2.2.1, y.2.2.2.1, y.2.2.2.2.1, [], l1)) (y := (y.1, y.2.1, y.2.2.1, y.2.2.2.1, y.2.2.2.2.1, [], l1)) hd rfl (fun k hk => g2.2.1 k (by omega)) (fun q q1 q2 => g2.1 q (by omega) (by omega) (by omega)) (hR_congr (g2.2.1 20 (by decide)) (fun q q1 q2 => g2.1 q (by omega) (by omega) (by omega)) a4) (fun k hk => by rw [g2.1 19 (by decide) (by decide) (by decide)]; exact a5 k hk) (oR_congr (g2.2.1 12 (by decide)) (fun q q1 q2 => g2.1 q (by omega) (by omega) (by omega)) s6) (fun e => by rw [hen] at e; cases e) (nR_other s8 g2 (by decide) (fun i hi => Or.inl (by have hi : i < 90 * 0 := hi; omega))) g1
  induction d with
  | zero =>
    intro i U hd h1
    have hd : i = 12 := hd
    subst hd
    have hlen := en_len (fs := z.2.2.1) (rl := z.2.1) 12
    have hnr := h1.2.2.2.2.2.2.2.2.2.2.2.2.2
    have hmp := x_msgP (n := n) (w := w) (c := c) (f := f) (m := a_end) hnr (show (a_en z.2.2.1 z.2.1 12).length < 13 by omega) (by decide) (fun e => by cases e)
    simp only [k_MD_begin_46, k_MD_begin_95, mt_kk, mt_l0, lget, lput, mt_pop, g_nil, g_const, g_null, g_iload, g_aload, g_istore, g_astore, g_iinc, g_add, g_sub, g_mul, g_and, g_xor, g_div, g_rem, g_dup, g_dup2, g_pop, g_get, g_putI, g_putZ, g_putA, g_iald, g_zald, g_iast, g_zast, g_aald, g_aast, g_alen, g_new, g_newI, g_newA, g_objinit, l_fall, l_ifeq, l_ifne, l_iflt, l_ifge, l_ifgt, l_ifle, l_iceq, l_icne, l_iclt, l_icge, l_icgt, l_icle, l_nullN, l_nullS, l_nonnullN, l_nonnullS, l_acne, l_callV, l_callI, l_callS, l_ret, l_iret, l_zret, l_aret, l_after, List.length_cons, List.length_nil, Nat.reduceAdd, Nat.reduceLT, Nat.reduceLeDiff, Nat.reduceEqDiff, and_self, and_true, true_and, if_true, if_false, reduceIte, ite_true, ite_false, beq_self_eq_true, Nat.zero_add, Option.toList_some, Option.toList_none, List.cons_append, List.nil_append, gj_0, gj_1, gj_2, gj_3, gj_4, gj_5, gj_6, gj_7, gj_8, gj_9, gj_10, gj_11, gj_12, gj_13, gj_14, gj_15, gj_16, gj_17, gj_18, gj_19, gj_20, gj_21, gj_22, gj_23, gj_24, gj_25, gj_26, gj_27, pj_4, pj_5, pj_9, pj_10, pj_11, pj_12, pj_19, pj_20, pj_26, ij_1, ij_2, ij_3, ij_4, ij_5, ij_6, ij_7, ij_8, ij_9, ij_10, ij_11, ij_12, ij_13, ij_14, ij_15, ij_16, ij_17, ij_18, ij_19, vf_1, vf_2, vf_3, vf_4, vf_5, vf_6, vf_7, vf_8, vf_9, vf_10, vf_11, vf_12, vf_13, vf_14, vf_15, vf_16, vf_17, vf_18, vf_19, sj, eq_true (Int32.le_refl (nI 12))]
    refine mt_call hmp ?_
    rintro r ⟨U1, rfl, g1, g2, -⟩
    simp only [k_MD_begin_105, mt_kk, mt_l0, lget, lput, mt_pop, g_nil, g_const, g_null, g_iload, g_aload, g_istore, g_astore, g_iinc, g_add, g_sub, g_mul, g_and, g_xor, g_div, g_rem, g_dup, g_dup2, g_pop, g_get, g_putI, g_putZ, g_putA, g_iald, g_zald, g_iast, g_zast, g_aald, g_aast, g_alen, g_new, g_newI, g_newA, g_objinit, l_fall, l_ifeq, l_ifne, l_iflt, l_ifge, l_ifgt, l_ifle, l_iceq, l_icne, l_iclt, l_icge, l_icgt, l_icle, l_nullN, l_nullS, l_nonnullN, l_nonnullS, l_acne, l_callV, l_callI, l_callS, l_ret, l_iret, l_zret, l_aret, l_after, List.length_cons, List.length_nil, Nat.reduceAdd, Nat.reduceLT, Nat.reduceLeDiff, Nat.reduceEqDiff, and_self, and_true, true_and, if_true, if_false, reduceIte, ite_true, ite_false, beq_self_eq_true, Nat.zero_add, Option.toList_some, Option.toList_none, List.cons_append, List.nil_append, gj_0, gj_1, gj_2, gj_3, gj_4, gj_5, gj_6, gj_7, gj_8, gj_9, gj_10, gj_11, gj_12, gj_13, gj_14, gj_15, gj_16, gj_17, gj_18, gj_19, gj_20, gj_21, gj_22, gj_23, gj_24, gj_25, gj_26, gj_27, pj_4, pj_5, pj_9, pj_10, pj_11, pj_12, pj_19, pj_20, pj_26, ij_1, ij_2, ij_3, ij_4, ij_5, ij_6, ij_7, ij_8, ij_9, ij_10, ij_11, ij_12, ij_13, ij_14, ij_15, ij_16, ij_17, ij_18, ij_19, vf_1, vf_2, vf_3, vf_4, vf_5, vf_6, vf_7, vf_8, vf_9, vf_10, vf_11, vf_12, vf_13, vf_14, vf_15, vf_16, vf_17, vf_18, vf_19, sj, z_1]
    exact hq U1 (hstep U U1 _ h1 a_end g1 g2)
  | succ d ih =>
    intro i U hd h1
    have hi : i < 12 := by omega
    have hx := mt_ix_nI (j := i) (n := 24) (by omega) (by decide)
    have hfi := h1.2.2.1 i (by omega)
    have hfi : gR U i (z.2.2.1 i) := hfi
    have hsel := x_isel (n := n) (w := w) (c := c) (f := f) (nm := i) h1.2.1
    have hsel : sm_MD_isSelected [.inr (some c), .inl (nI i)] (n, w, imr c U f) = some (some (.inl (bI (a_sl z.2.1 i))), (n, w, imr c U f)) := hsel
    have hlen := en_len (fs := z.2.2.1) (rl := z.2.1) i
    have hnr := h1.2.2.2.2.2.2.2.2.2.2.2.2.2
    rw [k_MD_begin_46]
    cases hs : a_sl z.2.1 i with
    | false =>
      rw [hs] at hsel
      simp only [k_MD_begin_52, k_MD_begin_57, k_MD_begin_89, mt_kk, mt_l0, lget, lput, mt_pop, g_nil, g_const, g_null, g_iload, g_aload, g_istore, g_astore, g_iinc, g_add, g_sub, g_mul, g_and, g_xor, g_div, g_rem, g_dup, g_dup2, g_pop, g_get, g_putI, g_putZ, g_putA, g_iald, g_zald, g_iast, g_zast, g_aald, g_aast, g_alen, g_new, g_newI, g_newA, g_objinit, l_fall, l_ifeq, l_ifne, l_iflt, l_ifge, l_ifgt, l_ifle, l_iceq, l_icne, l_iclt, l_icge, l_icgt, l_icle, l_nullN, l_nullS, l_nonnullN, l_nonnullS, l_acne, l_callV, l_callI, l_callS, l_ret, l_iret, l_zret, l_aret, l_after, List.length_cons, List.length_nil, Nat.reduceAdd, Nat.reduceLT, Nat.reduceLeDiff, Nat.reduceEqDiff, and_self, and_true, true_and, if_true, if_false, reduceIte, ite_true, ite_false, beq_self_eq_true, Nat.zero_add, Option.toList_some, Option.toList_none, List.cons_append, List.nil_append, gj_0, gj_1, gj_2, gj_3, gj_4, gj_5, gj_6, gj_7, gj_8, gj_9, gj_10, gj_11, gj_12, gj_13, gj_14, gj_15, gj_16, gj_17, gj_18, gj_19, gj_20, gj_21, gj_22, gj_23, gj_24, gj_25, gj_26, gj_27, pj_4, pj_5, pj_9, pj_10, pj_11, pj_12, pj_19, pj_20, pj_26, ij_1, ij_2, ij_3, ij_4, ij_5, ij_6, ij_7, ij_8, ij_9, ij_10, ij_11, ij_12, ij_13, ij_14, ij_15, ij_16, ij_17, ij_18, ij_19, vf_1, vf_2, vf_3, vf_4, vf_5, vf_6, vf_7, vf_8, vf_9, vf_10, vf_11, vf_12, vf_13, vf_14, vf_15, vf_16, vf_17, vf_18, vf_19, sj, eq_false (nI_ge hi (show 12 < 2 ^ 31 by decide)), hsel, bI_f, e_0, nI_add]
      refine ih (i + 1) U (by omega) ?_
      have e : a_en z.2.2.1 z.2.1 (i + 1) = a_en z.2.2.1 z.2.1 i := by
        simp only [a_en, hs, Bool.false_eq_true, if_false]
        cases z.2.2.1 i <;> exact List.append_nil _
      rw [e]; exact h1
    | true =>
      rw [hs] at hsel
      cases hx2 : z.2.2.1 i with
      | none =>
        rw [hx2] at hfi
        have hfi : U 1 i = nI 0 := hfi
        simp only [k_MD_begin_52, k_MD_begin_57, k_MD_begin_60, k_MD_begin_89, mt_kk, mt_l0, lget, lput, mt_pop, g_nil, g_const, g_null, g_iload, g_aload, g_istore, g_astore, g_iinc, g_add, g_sub, g_mul, g_and, g_xor, g_div, g_rem, g_dup, g_dup2, g_pop, g_get, g_putI, g_putZ, g_putA, g_iald, g_zald, g_iast, g_zast, g_aald, g_aast, g_alen, g_new, g_newI, g_newA, g_objinit, l_fall, l_ifeq, l_ifne, l_iflt, l_ifge, l_ifgt, l_ifle, l_iceq, l_icne, l_iclt, l_icge, l_icgt, l_icle, l_nullN, l_nullS, l_nonnullN, l_nonnullS, l_acne, l_callV, l_callI, l_callS, l_ret, l_iret, l_zret, l_aret, l_after, List.length_cons, List.length_nil, Nat.reduceAdd, Nat.reduceLT, Nat.reduceLeDiff, Nat.reduceEqDiff, and_self, and_true, true_and, if_true, if_false, reduceIte, ite_true, ite_false, beq_self_eq_true, Nat.zero_add, Option.toList_some, Option.toList_none, List.cons_append, List.nil_append, gj_0, gj_1, gj_2, gj_3, gj_4, gj_5, gj_6, gj_7, gj_8, gj_9, gj_10, gj_11, gj_12, gj_13, gj_14, gj_15, gj_16, gj_17, gj_18, gj_19, gj_20, gj_21, gj_22, gj_23, gj_24, gj_25, gj_26, gj_27, pj_4, pj_5, pj_9, pj_10, pj_11, pj_12, pj_19, pj_20, pj_26, ij_1, ij_2, ij_3, ij_4, ij_5, ij_6, ij_7, ij_8, ij_9, ij_10, ij_11, ij_12, ij_13, ij_14, ij_15, ij_16, ij_17, ij_18, ij_19, vf_1, vf_2, vf_3, vf_4, vf_5, vf_6, vf_7, vf_8, vf_9, vf_10, vf_11, vf_12, vf_13, vf_14, vf_15, vf_16, vf_17, vf_18, vf_19, sj, eq_false (nI_ge hi (show 12 < 2 ^ 31 by decide)), hsel, bI_t, e_1, e_0, hx, hfi, nI_add]
        refine ih (i + 1) U (by omega) ?_
        have e : a_en z.2.2.1 z.2.1 (i + 1) = a_en z.2.2.1 z.2.1 i := by simp only [a_en, hx2, List.append_nil]
        rw [e]; exact h1
      | some u =>
        rw [hx2] at hfi
        obtain ⟨f1, f2, f3, f4, f5⟩ := hfi
        have hmp := x_msgP (n := n) (w := w) (c := c) (f := f) (m := (1, i, 0, nI u.1.length, u.2, [])) hnr (show (a_en z.2.2.1 z.2.1 i).length < 13 by omega) (show (1 : Nat) ≠ 3 by decide) (fun e => rfl)
        simp only [k_MD_begin_52, k_MD_begin_57, k_MD_begin_60, k_MD_begin_69, mt_kk, mt_l0, lget, lput, mt_pop, g_nil, g_const, g_null, g_iload, g_aload, g_istore, g_astore, g_iinc, g_add, g_sub, g_mul, g_and, g_xor, g_div, g_rem, g_dup, g_dup2, g_pop, g_get, g_putI, g_putZ, g_putA, g_iald, g_zald, g_iast, g_zast, g_aald, g_aast, g_alen, g_new, g_newI, g_newA, g_objinit, l_fall, l_ifeq, l_ifne, l_iflt, l_ifge, l_ifgt, l_ifle, l_iceq, l_icne, l_iclt, l_icge, l_icgt, l_icle, l_nullN, l_nullS, l_nonnullN, l_nonnullS, l_acne, l_callV, l_callI, l_callS, l_ret, l_iret, l_zret, l_aret, l_after, List.length_cons, List.length_nil, Nat.reduceAdd, Nat.reduceLT, Nat.reduceLeDiff, Nat.reduceEqDiff, and_self, and_true, true_and, if_true, if_false, reduceIte, ite_true, ite_false, beq_self_eq_true, Nat.zero_add, Option.toList_some, Option.toList_none, List.cons_append, List.nil_append, gj_0, gj_1, gj_2, gj_3, gj_4, gj_5, gj_6, gj_7, gj_8, gj_9, gj_10, gj_11, gj_12, gj_13, gj_14, gj_15, gj_16, gj_17, gj_18, gj_19, gj_20, gj_21, gj_22, gj_23, gj_24, gj_25, gj_26, gj_27, pj_4, pj_5, pj_9, pj_10, pj_11, pj_12, pj_19, pj_20, pj_26, ij_1, ij_2, ij_3, ij_4, ij_5, ij_6, ij_7, ij_8, ij_9, ij_10, ij_11, ij_12, ij_13, ij_14, ij_15, ij_16, ij_17, ij_18, ij_19, vf_1, vf_2, vf_3, vf_4, vf_5, vf_6, vf_7, vf_8, vf_9, vf_10, vf_11, vf_12, vf_13, vf_14, vf_15, vf_16, vf_17, vf_18, vf_19, sj, eq_false (nI_ge hi (show 12 < 2 ^ 31 by decide)), hsel, bI_t, e_1, hx, f1, f2, f3]
        refine mt_call hmp ?_
        rintro r ⟨U1, rfl, g1, g2, -⟩
        simp only [k_MD_begin_89, mt_kk, mt_l0, lget, lput, mt_pop, g_nil, g_const, g_null, g_iload, g_aload, g_istore, g_astore, g_iinc, g_add, g_sub, g_mul, g_and, g_xor, g_div, g_rem, g_dup, g_dup2, g_pop, g_get, g_putI, g_putZ, g_putA, g_iald, g_zald, g_iast, g_zast, g_aald, g_aast, g_alen, g_new, g_newI, g_newA, g_objinit, l_fall, l_ifeq, l_ifne, l_iflt, l_ifge, l_ifgt, l_ifle, l_iceq, l_icne, l_iclt, l_icge, l_icgt, l_icle, l_nullN, l_nullS, l_nonnullN, l_nonnullS, l_acne, l_callV, l_callI, l_callS, l_ret, l_iret, l_zret, l_aret, l_after, List.length_cons, List.length_nil, Nat.reduceAdd, Nat.reduceLT, Nat.reduceLeDiff, Nat.reduceEqDiff, and_self, and_true, true_and, if_true, if_false, reduceIte, ite_true, ite_false, beq_self_eq_true, Nat.zero_add, Option.toList_some, Option.toList_none, List.cons_append, List.nil_append, gj_0, gj_1, gj_2, gj_3, gj_4, gj_5, gj_6, gj_7, gj_8, gj_9, gj_10, gj_11, gj_12, gj_13, gj_14, gj_15, gj_16, gj_17, gj_18, gj_19, gj_20, gj_21, gj_22, gj_23, gj_24, gj_25, gj_26, gj_27, pj_4, pj_5, pj_9, pj_10, pj_11, pj_12, pj_19, pj_20, pj_26, ij_1, ij_2, ij_3, ij_4, ij_5, ij_6, ij_7, ij_8, ij_9, ij_10, ij_11, ij_12, ij_13, ij_14, ij_15, ij_16, ij_17, ij_18, ij_19, vf_1, vf_2, vf_3, vf_4, vf_5, vf_6, vf_7, vf_8, vf_9, vf_10, vf_11, vf_12, vf_13, vf_14, vf_15, vf_16, vf_17, vf_18, vf_19, sj, nI_add]
        refine ih (i + 1) U1 (by omega) ?_
        have e : a_en z.2.2.1 z.2.1 (i + 1) = a_en z.2.2.1 z.2.1 i ++ [(1, i, 0, nI u.1.length, u.2, [])] := by simp only [a_en, hx2, hs, if_true]
        rw [e]; exact hstep U U1 _ h1 _ g1 g2
theorem nl_none : ∀ (m : Nat), a_nl (fun _ => none) m = []
  | 0 => rfl
  | m + 1 => by simp only [a_nl, nl_none m, Option.isSome_none, Bool.false_eq_true, if_false, List.append_nil]
theorem m_begin {U : v_N} {z : a_Z} {bk : Int32} {del : Bool} (h : dR U z) : mt_P sm_MD_begin [.inr (some c), .inl bk, .inl (bI del)] (n, w, imr c U f) (d_Q (s_begin z bk del).1 n w c f (s_begin z bk del).2) := by
  refine mt_P_of ?_
  have ho := tR_on h
  cases hz : z.2.2.2.2.2 with
  | some y =>
    simp only [q_on, hz] at ho
    simp only [k_MD_begin_0, k_MD_begin_18, mt_kk, mt_l0, lget, lput, mt_pop, g_nil, g_const, g_null, g_iload, g_aload, g_istore, g_astore, g_iinc, g_add, g_sub, g_mul, g_and, g_xor, g_div, g_rem, g_dup, g_dup2, g_pop, g_get, g_putI, g_putZ, g_putA, g_iald, g_zald, g_iast, g_zast, g_aald, g_aast, g_alen, g_new, g_newI, g_newA, g_objinit, l_fall, l_ifeq, l_ifne, l_iflt, l_ifge, l_ifgt, l_ifle, l_iceq, l_icne, l_iclt, l_icge, l_icgt, l_icle, l_nullN, l_nullS, l_nonnullN, l_nonnullS, l_acne, l_callV, l_callI, l_callS, l_ret, l_iret, l_zret, l_aret, l_after, List.length_cons, List.length_nil, Nat.reduceAdd, Nat.reduceLT, Nat.reduceLeDiff, Nat.reduceEqDiff, and_self, and_true, true_and, if_true, if_false, reduceIte, ite_true, ite_false, beq_self_eq_true, Nat.zero_add, Option.toList_some, Option.toList_none, List.cons_append, List.nil_append, gj_0, gj_1, gj_2, gj_3, gj_4, gj_5, gj_6, gj_7, gj_8, gj_9, gj_10, gj_11, gj_12, gj_13, gj_14, gj_15, gj_16, gj_17, gj_18, gj_19, gj_20, gj_21, gj_22, gj_23, gj_24, gj_25, gj_26, gj_27, pj_4, pj_5, pj_9, pj_10, pj_11, pj_12, pj_19, pj_20, pj_26, ij_1, ij_2, ij_3, ij_4, ij_5, ij_6, ij_7, ij_8, ij_9, ij_10, ij_11, ij_12, ij_13, ij_14, ij_15, ij_16, ij_17, ij_18, ij_19, vf_1, vf_2, vf_3, vf_4, vf_5, vf_6, vf_7, vf_8, vf_9, vf_10, vf_11, vf_12, vf_13, vf_14, vf_15, vf_16, vf_17, vf_18, vf_19, sj, ho, e_1, z_0, s_begin, hz]
    exact ⟨U, rfl, h⟩
  | none =>
    simp only [q_on, hz] at ho
    by_cases hb : bk < nI 1
    · simp only [k_MD_begin_0, k_MD_begin_7, k_MD_begin_18, mt_kk, mt_l0, lget, lput, mt_pop, g_nil, g_const, g_null, g_iload, g_aload, g_istore, g_astore, g_iinc, g_add, g_sub, g_mul, g_and, g_xor, g_div, g_rem, g_dup, g_dup2, g_pop, g_get, g_putI, g_putZ, g_putA, g_iald, g_zald, g_iast, g_zast, g_aald, g_aast, g_alen, g_new, g_newI, g_newA, g_objinit, l_fall, l_ifeq, l_ifne, l_iflt, l_ifge, l_ifgt, l_ifle, l_iceq, l_icne, l_iclt, l_icge, l_icgt, l_icle, l_nullN, l_nullS, l_nonnullN, l_nonnullS, l_acne, l_callV, l_callI, l_callS, l_ret, l_iret, l_zret, l_aret, l_after, List.length_cons, List.length_nil, Nat.reduceAdd, Nat.reduceLT, Nat.reduceLeDiff, Nat.reduceEqDiff, and_self, and_true, true_and, if_true, if_false, reduceIte, ite_true, ite_false, beq_self_eq_true, Nat.zero_add, Option.toList_some, Option.toList_none, List.cons_append, List.nil_append, gj_0, gj_1, gj_2, gj_3, gj_4, gj_5, gj_6, gj_7, gj_8, gj_9, gj_10, gj_11, gj_12, gj_13, gj_14, gj_15, gj_16, gj_17, gj_18, gj_19, gj_20, gj_21, gj_22, gj_23, gj_24, gj_25, gj_26, gj_27, pj_4, pj_5, pj_9, pj_10, pj_11, pj_12, pj_19, pj_20, pj_26, ij_1, ij_2, ij_3, ij_4, ij_5, ij_6, ij_7, ij_8, ij_9, ij_10, ij_11, ij_12, ij_13, ij_14, ij_15, ij_16, ij_17, ij_18, ij_19, vf_1, vf_2, vf_3, vf_4, vf_5, vf_6, vf_7, vf_8, vf_9, vf_10, vf_11, vf_12, vf_13, vf_14, vf_15, vf_16, vf_17, vf_18, vf_19, sj, ho, e_0, z_0, s_begin, hz, hb, true_or]
      exact ⟨U, rfl, h⟩
    · by_cases hb2 : bk ≤ nI 8
      · have hbx : ∃ j : Nat, 1 ≤ j ∧ j ≤ 8 ∧ bk = nI j := by
          rcases pk_ix bk (n := 9) (by decide) with h9 | h9 | ⟨j, hj, rfl⟩
          · exfalso
            rw [Int32.lt_iff_toInt_lt] at h9 hb
            have e1 : (nI 1).toInt = 1 := by decide
            have e0 : (0 : Int32).toInt = 0 := by decide
            omega
          · exfalso
            rw [Int32.le_iff_toInt_le] at h9 hb2
            have e1 : (nI 9).toInt = 9 := by decide
            have e0 : (nI 8).toInt = 8 := by decide
            omega
          · refine ⟨j, ?_, by omega, rfl⟩
            rw [nI_ltE (by omega) (by decide)] at hb
            omega
        obtain ⟨j, hj1, hj8, rfl⟩ := hbx
        have hcl : (nI j).toNatClampNeg = j := nI_clamp (by omega)
        simp only [k_MD_begin_0, k_MD_begin_7, k_MD_begin_12, k_MD_begin_20, mt_kk, mt_l0, lget, lput, mt_pop, g_nil, g_const, g_null, g_iload, g_aload, g_istore, g_astore, g_iinc, g_add, g_sub, g_mul, g_and, g_xor, g_div, g_rem, g_dup, g_dup2, g_pop, g_get, g_putI, g_putZ, g_putA, g_iald, g_zald, g_iast, g_zast, g_aald, g_aast, g_alen, g_new, g_newI, g_newA, g_objinit, l_fall, l_ifeq, l_ifne, l_iflt, l_ifge, l_ifgt, l_ifle, l_iceq, l_icne, l_iclt, l_icge, l_icgt, l_icle, l_nullN, l_nullS, l_nonnullN, l_nonnullS, l_acne, l_callV, l_callI, l_callS, l_ret, l_iret, l_zret, l_aret, l_after, List.length_cons, List.length_nil, Nat.reduceAdd, Nat.reduceLT, Nat.reduceLeDiff, Nat.reduceEqDiff, and_self, and_true, true_and, if_true, if_false, reduceIte, ite_true, ite_false, beq_self_eq_true, Nat.zero_add, Option.toList_some, Option.toList_none, List.cons_append, List.nil_append, gj_0, gj_1, gj_2, gj_3, gj_4, gj_5, gj_6, gj_7, gj_8, gj_9, gj_10, gj_11, gj_12, gj_13, gj_14, gj_15, gj_16, gj_17, gj_18, gj_19, gj_20, gj_21, gj_22, gj_23, gj_24, gj_25, gj_26, gj_27, pj_4, pj_5, pj_9, pj_10, pj_11, pj_12, pj_19, pj_20, pj_26, ij_1, ij_2, ij_3, ij_4, ij_5, ij_6, ij_7, ij_8, ij_9, ij_10, ij_11, ij_12, ij_13, ij_14, ij_15, ij_16, ij_17, ij_18, ij_19, vf_1, vf_2, vf_3, vf_4, vf_5, vf_6, vf_7, vf_8, vf_9, vf_10, vf_11, vf_12, vf_13, vf_14, vf_15, vf_16, vf_17, vf_18, vf_19, sj, ho, e_0, s_begin, hz, hb, hb2, not_true_eq_false, or_false, z_1, bI_z, hcl]
        obtain ⟨a1, a2, a3, a4, a5, a6⟩ := id h
        rw [hz] at a6
        obtain ⟨s1, s2, s3, s4⟩ := a6
        generalize hUa : vu (vu (vu (vu U 0 9 (nI 1)) 0 10 (nI j)) 0 11 (bI del)) 0 12 (nI 0) = Ua
        have g : ∀ q, q ≠ 0 → Ua q = U q := fun q e => by rw [← hUa, vu_off e, vu_off e, vu_off e, vu_off e]
        have g0 : ∀ k, k < 9 ∨ 12 < k → Ua 0 k = U 0 k := fun k e => by rw [← hUa, vu_slot (by omega), vu_slot (by omega), vu_slot (by omega), vu_slot (by omega)]
        have hd : dR Ua (z.1, z.2.1, z.2.2.1, z.2.2.2.1, z.2.2.2.2.1, some (j, del, false, fun _ => none, fun _ => false, [], [])) := by
          refine ⟨(g0 4 (by decide)).trans a1, vR_congr (g0 5 (by decide)) (fun q q1 q2 => g q (by omega)) a2, fun i hi => gR_same (fun q q1 q2 => g q (by omega)) (a3 i hi), hR_congr (g0 20 (by decide)) (fun q q1 q2 => g q (by omega)) a4, fun k hk => by rw [g 19 (by decide)]; exact a5 k hk, ?_, ?_, hj1, hj8, ?_, ⟨?_, ?_⟩, ?_, ⟨?_, ?_, ?_⟩, ⟨?_, ?_, ?_⟩⟩
          · rw [← hUa, vu_slot (by decide), vu_slot (by decide), vu_slot (by decide), vu_same]
          · rw [← hUa, vu_slot (by decide), vu_slot (by decide), vu_same]
          · rw [← hUa, vu_slot (by decide), vu_same]
          · rw [nl_none, ← hUa, vu_same]; rfl
          · intro e k he; rw [nl_none] at he; cases he
          · intro e; cases e
          · rw [g 12 (by decide)]; exact s3
          · exact Nat.zero_le _
          · intro i m hm; cases hm
          · rw [g 12 (by decide)]; exact s4
          · exact Nat.zero_le _
          · intro i m hm; cases hm
        refine mt_call (x_finA hd) ?_
        rintro r ⟨U1, rfl, h1⟩
        simp only [k_MD_begin_44, mt_kk, mt_l0, lget, lput, mt_pop, g_nil, g_const, g_null, g_iload, g_aload, g_istore, g_astore, g_iinc, g_add, g_sub, g_mul, g_and, g_xor, g_div, g_rem, g_dup, g_dup2, g_pop, g_get, g_putI, g_putZ, g_putA, g_iald, g_zald, g_iast, g_zast, g_aald, g_aast, g_alen, g_new, g_newI, g_newA, g_objinit, l_fall, l_ifeq, l_ifne, l_iflt, l_ifge, l_ifgt, l_ifle, l_iceq, l_icne, l_iclt, l_icge, l_icgt, l_icle, l_nullN, l_nullS, l_nonnullN, l_nonnullS, l_acne, l_callV, l_callI, l_callS, l_ret, l_iret, l_zret, l_aret, l_after, List.length_cons, List.length_nil, Nat.reduceAdd, Nat.reduceLT, Nat.reduceLeDiff, Nat.reduceEqDiff, and_self, and_true, true_and, if_true, if_false, reduceIte, ite_true, ite_false, beq_self_eq_true, Nat.zero_add, Option.toList_some, Option.toList_none, List.cons_append, List.nil_append, gj_0, gj_1, gj_2, gj_3, gj_4, gj_5, gj_6, gj_7, gj_8, gj_9, gj_10, gj_11, gj_12, gj_13, gj_14, gj_15, gj_16, gj_17, gj_18, gj_19, gj_20, gj_21, gj_22, gj_23, gj_24, gj_25, gj_26, gj_27, pj_4, pj_5, pj_9, pj_10, pj_11, pj_12, pj_19, pj_20, pj_26, ij_1, ij_2, ij_3, ij_4, ij_5, ij_6, ij_7, ij_8, ij_9, ij_10, ij_11, ij_12, ij_13, ij_14, ij_15, ij_16, ij_17, ij_18, ij_19, vf_1, vf_2, vf_3, vf_4, vf_5, vf_6, vf_7, vf_8, vf_9, vf_10, vf_11, vf_12, vf_13, vf_14, vf_15, vf_16, vf_17, vf_18, vf_19, sj]
        exact lp_mbeg (U0 := U1) (y := (j, del, false, fun _ => none, fun _ => false, [], [])) h1 rfl rfl rfl rfl _ (fun U2 h2 => ⟨U2, rfl, h2⟩) (nI j) (bI del) 12 0 U1 (by omega) h1
      · simp only [k_MD_begin_0, k_MD_begin_7, k_MD_begin_12, k_MD_begin_18, mt_kk, mt_l0, lget, lput, mt_pop, g_nil, g_const, g_null, g_iload, g_aload, g_istore, g_astore, g_iinc, g_add, g_sub, g_mul, g_and, g_xor, g_div, g_rem, g_dup, g_dup2, g_pop, g_get, g_putI, g_putZ, g_putA, g_iald, g_zald, g_iast, g_zast, g_aald, g_aast, g_alen, g_new, g_newI, g_newA, g_objinit, l_fall, l_ifeq, l_ifne, l_iflt, l_ifge, l_ifgt, l_ifle, l_iceq, l_icne, l_iclt, l_icge, l_icgt, l_icle, l_nullN, l_nullS, l_nonnullN, l_nonnullS, l_acne, l_callV, l_callI, l_callS, l_ret, l_iret, l_zret, l_aret, l_after, List.length_cons, List.length_nil, Nat.reduceAdd, Nat.reduceLT, Nat.reduceLeDiff, Nat.reduceEqDiff, and_self, and_true, true_and, if_true, if_false, reduceIte, ite_true, ite_false, beq_self_eq_true, Nat.zero_add, Option.toList_some, Option.toList_none, List.cons_append, List.nil_append, gj_0, gj_1, gj_2, gj_3, gj_4, gj_5, gj_6, gj_7, gj_8, gj_9, gj_10, gj_11, gj_12, gj_13, gj_14, gj_15, gj_16, gj_17, gj_18, gj_19, gj_20, gj_21, gj_22, gj_23, gj_24, gj_25, gj_26, gj_27, pj_4, pj_5, pj_9, pj_10, pj_11, pj_12, pj_19, pj_20, pj_26, ij_1, ij_2, ij_3, ij_4, ij_5, ij_6, ij_7, ij_8, ij_9, ij_10, ij_11, ij_12, ij_13, ij_14, ij_15, ij_16, ij_17, ij_18, ij_19, vf_1, vf_2, vf_3, vf_4, vf_5, vf_6, vf_7, vf_8, vf_9, vf_10, vf_11, vf_12, vf_13, vf_14, vf_15, vf_16, vf_17, vf_18, vf_19, sj, ho, e_0, z_0, s_begin, hz, hb, hb2, not_false_eq_true, or_true]
        exact ⟨U, rfl, h⟩
end MD
