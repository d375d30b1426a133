/-! The reference: entries, conclusion, end, note, take. -/
/-- nothing of the first e names of L is open; n is among them -/
def a_hl (op : Nat → Bool) (L : List Nat) : Nat → Bool
  | 0 => true
  | e + 1 => a_hl op L e && !(op (L.getD e 0))
def a_ls (L : List Nat) (k : Nat) : Nat → Bool
  | 0 => false
  | e + 1 => a_ls L k e || (L.getD e 0 == k)
theorem hl_iff {op : Nat → Bool} {L : List Nat} : ∀ (e : Nat), a_hl op L e = true ↔ ∀ i, i < e → op (L.getD i 0) = false
  | 0 => ⟨fun _ i h => (by omega), fun _ => rfl⟩
  | e + 1 => by
    simp only [a_hl, Bool.and_eq_true, hl_iff e]
    constructor
    · rintro ⟨h1, h2⟩ i hi
      by_cases he : i = e
      · subst he; cases ho : op (L.getD i 0) with
        | false => rfl
        | true => rw [ho] at h2; cases h2
      · exact h1 i (by omega)
    · intro h
      exact ⟨fun i hi => h i (by omega), by rw [h e (by omega)]; rfl⟩
theorem ls_iff {L : List Nat} {k : Nat} : ∀ (e : Nat), a_ls L k e = true ↔ ∃ i, i < e ∧ L.getD i 0 = k
  | 0 => ⟨fun h => (by cases h), fun ⟨i, h, _⟩ => (by omega)⟩
  | e + 1 => by
    simp only [a_ls, Bool.or_eq_true, ls_iff e]
    constructor
    · rintro (⟨i, h1, h2⟩ | h)
      · exact ⟨i, by omega, h2⟩
      · exact ⟨e, by omega, by simpa using h⟩
    · rintro ⟨i, h1, h2⟩
      by_cases he : i = e
      · subst he; exact Or.inr (by simpa using h2)
      · exact Or.inl ⟨i, by omega, h2⟩
theorem ho_iff {op : Nat → Bool} : ∀ (m : Nat), a_ho op m = true ↔ ∃ k, k < m ∧ op k = true
  | 0 => ⟨fun h => (by cases h), fun ⟨i, h, _⟩ => (by omega)⟩
  | m + 1 => by
    simp only [a_ho, Bool.or_eq_true, ho_iff m]
    constructor
    · rintro (⟨i, h1, h2⟩ | h)
      · exact ⟨i, by omega, h2⟩
      · exact ⟨m, by omega, h⟩
    · rintro ⟨i, h1, h2⟩
      by_cases he : i = m
      · subst he; exact Or.inr h2
      · exact Or.inl ⟨i, by omega, h2⟩
theorem nl_getD {nt : Nat → Option (Int32 × Int32)} {e : Nat} (h : e < (a_nl nt 12).length) : (a_nl nt 12)[e]? = some ((a_nl nt 12).getD e 0) := by
  rw [List.getD_eq_getElem?_getD, List.getElem?_eq_getElem h]; rfl
theorem hl_ho {op : Nat → Bool} {nt : Nat → Option (Int32 × Int32)} (h : ∀ k, op k = true → (nt k).isSome = true) (h2 : ∀ k, (nt k).isSome = true → k < 12) : a_hl op (a_nl nt 12) (a_nl nt 12).length = !(a_ho op 12) := by
  cases ho : a_ho op 12 with
  | true =>
    obtain ⟨k, hk, hok⟩ := (ho_iff 12).mp ho
    have hm : k ∈ a_nl nt 12 := nl_mem.mpr ⟨hk, h k hok⟩
    obtain ⟨e, he⟩ := List.getElem?_of_mem hm
    cases hh : a_hl op (a_nl nt 12) (a_nl nt 12).length with
    | false => rfl
    | true =>
      have h3 := (hl_iff _).mp hh e (List.getElem?_eq_some_iff.mp he).1
      rw [List.getD_eq_getElem?_getD, he] at h3
      have h3 : op k = false := h3
      rw [hok] at h3; cases h3
  | false =>
    have : a_hl op (a_nl nt 12) (a_nl nt 12).length = true := (hl_iff _).mpr (fun e he => by
      have h3 := nl_getD he
      have h4 := nl_mem.mp (List.mem_of_getElem? h3)
      cases hx : op ((a_nl nt 12).getD e 0) with
      | false => rfl
      | true =>
        have := (ho_iff 12).mpr ⟨_, h4.1, hx⟩
        rw [ho] at this; cases this)
    rw [this]; rfl
theorem ls_nt {nt : Nat → Option (Int32 × Int32)} {k : Nat} (hk : k < 12) : a_ls (a_nl nt 12) k (a_nl nt 12).length = (nt k).isSome := by
  cases hn : (nt k).isSome with
  | true =>
    have hm : k ∈ a_nl nt 12 := nl_mem.mpr ⟨hk, hn⟩
    obtain ⟨e, he⟩ := List.getElem?_of_mem hm
    exact (ls_iff _).mpr ⟨e, (List.getElem?_eq_some_iff.mp he).1, by rw [List.getD_eq_getElem?_getD, he]; rfl⟩
  | false =>
    cases hh : a_ls (a_nl nt 12) k (a_nl nt 12).length with
    | false => rfl
    | true =>
      obtain ⟨e, he, h2⟩ := (ls_iff _).mp hh
      have h3 := nl_getD he
      rw [h2] at h3
      have := (nl_mem.mp (List.mem_of_getElem? h3)).2
      rw [hn] at this; cases this
section MD
variable {n w c : Nat} {f : Nat → Option m_E}
theorem lp_ent {U : v_N} {nt : Nat → Option (Int32 × Int32)} {nm e0 : Nat} (h : oR U nt) (hnm : nm < 12) (he0 : (a_nl nt 12)[e0]? = some nm) (Q : m_R → Prop) (hq : Q (some (.inl (nI e0)), (n, w, imr c U f))) (d : Nat) : ∀ (k : Nat), k + d = (a_nl nt 12).length → mt_T cd_MD_entryOf 4 ([some (.inr (some c)), some (.inl (nI nm)), some (.inl (nI (if e0 < k then e0 else 0))), some (.inl (nI k))], [], (n, w, imr c U f)) Q := by
  have hlen := nl_len (nt := nt) 12
  have hel : e0 < (a_nl nt 12).length := (List.getElem?_eq_some_iff.mp he0).1
  induction d with
  | zero =>
    intro k hd
    have hd : k = (a_nl nt 12).length := hd
    subst hd
    rw [if_pos hel]
    simp only [k_MD_entryOf_4, k_MD_entryOf_34, mt_kk, mt_l0, lget, lput, mt_pop, g_nil, g_const, g_null, g_iload, g_aload, g_istore, g_astore, g_iinc, g_add, g_sub, g_mul, g_and, g_xor, g_div, g_rem, g_dup, g_dup2, g_pop, g_get, g_putI, g_putZ, g_putA, g_iald, g_zald, g_iast, g_zast, g_aald, g_aast, g_alen, g_new, g_newI, g_newA, g_objinit, l_fall, l_ifeq, l_ifne, l_iflt, l_ifge, l_ifgt, l_ifle, l_iceq, l_icne, l_iclt, l_icge, l_icgt, l_icle, l_nullN, l_nullS, l_nonnullN, l_nonnullS, l_acne, l_callV, l_callI, l_callS, l_ret, l_iret, l_zret, l_aret, l_after, List.length_cons, List.length_nil, Nat.reduceAdd, Nat.reduceLT, Nat.reduceLeDiff, Nat.reduceEqDiff, and_self, and_true, true_and, if_true, if_false, reduceIte, ite_true, ite_false, beq_self_eq_true, Nat.zero_add, Option.toList_some, Option.toList_none, List.cons_append, List.nil_append, gj_0, gj_1, gj_2, gj_3, gj_4, gj_5, gj_6, gj_7, gj_8, gj_9, gj_10, gj_11, gj_12, gj_13, gj_14, gj_15, gj_16, gj_17, gj_18, gj_19, gj_20, gj_21, gj_22, gj_23, gj_24, gj_25, gj_26, gj_27, pj_4, pj_5, pj_9, pj_10, pj_11, pj_12, pj_19, pj_20, pj_26, ij_1, ij_2, ij_3, ij_4, ij_5, ij_6, ij_7, ij_8, ij_9, ij_10, ij_11, ij_12, ij_13, ij_14, ij_15, ij_16, ij_17, ij_18, ij_19, vf_1, vf_2, vf_3, vf_4, vf_5, vf_6, vf_7, vf_8, vf_9, vf_10, vf_11, vf_12, vf_13, vf_14, vf_15, vf_16, vf_17, vf_18, vf_19, sj, h.1, eq_true (Int32.le_refl (nI (a_nl nt 12).length))]
    exact hq
  | succ d ih =>
    intro k hd
    have hkl : k < (a_nl nt 12).length := by omega
    have hx := mt_ix_nI (j := k) (n := 12) (by omega) (by decide)
    have h3 := nl_getD hkl
    have h4 := (nl_mem.mp (List.mem_of_getElem? h3)).1
    have h5 := (h.2 k _ h3).1
    have h6 := ih (k + 1) (by omega)
    have e1 := nI_eqE (a := (a_nl nt 12).getD k 0) (b := nm) (by omega) (by omega)
    rw [k_MD_entryOf_4]
    by_cases hk : k = e0
    · subst hk
      have h7 : (a_nl nt 12).getD k 0 = nm := by rw [he0] at h3; exact (Option.some.inj h3).symm
      rw [if_pos (by omega)] at h6
      simp only [k_MD_entryOf_12, k_MD_entryOf_22, k_MD_entryOf_27, mt_kk, mt_l0, lget, lput, mt_pop, g_nil, g_const, g_null, g_iload, g_aload, g_istore, g_astore, g_iinc, g_add, g_sub, g_mul, g_and, g_xor, g_div, g_rem, g_dup, g_dup2, g_pop, g_get, g_putI, g_putZ, g_putA, g_iald, g_zald, g_iast, g_zast, g_aald, g_aast, g_alen, g_new, g_newI, g_newA, g_objinit, l_fall, l_ifeq, l_ifne, l_iflt, l_ifge, l_ifgt, l_ifle, l_iceq, l_icne, l_iclt, l_icge, l_icgt, l_icle, l_nullN, l_nullS, l_nonnullN, l_nonnullS, l_acne, l_callV, l_callI, l_callS, l_ret, l_iret, l_zret, l_aret, l_after, List.length_cons, List.length_nil, Nat.reduceAdd, Nat.reduceLT, Nat.reduceLeDiff, Nat.reduceEqDiff, and_self, and_true, true_and, if_true, if_false, reduceIte, ite_true, ite_false, beq_self_eq_true, Nat.zero_add, Option.toList_some, Option.toList_none, List.cons_append, List.nil_append, gj_0, gj_1, gj_2, gj_3, gj_4, gj_5, gj_6, gj_7, gj_8, gj_9, gj_10, gj_11, gj_12, gj_13, gj_14, gj_15, gj_16, gj_17, gj_18, gj_19, gj_20, gj_21, gj_22, gj_23, gj_24, gj_25, gj_26, gj_27, pj_4, pj_5, pj_9, pj_10, pj_11, pj_12, pj_19, pj_20, pj_26, ij_1, ij_2, ij_3, ij_4, ij_5, ij_6, ij_7, ij_8, ij_9, ij_10, ij_11, ij_12, ij_13, ij_14, ij_15, ij_16, ij_17, ij_18, ij_19, vf_1, vf_2, vf_3, vf_4, vf_5, vf_6, vf_7, vf_8, vf_9, vf_10, vf_11, vf_12, vf_13, vf_14, vf_15, vf_16, vf_17, vf_18, vf_19, sj, h.1, eq_false (nI_ge hkl (show (a_nl nt 12).length < 2 ^ 31 by omega)), hx, h5, e1, h7, nI_add]
      exact h6
    · have h7 : ¬ (a_nl nt 12).getD k 0 = nm := fun e => hk (nl_inj (by rw [← e]; exact h3) he0)
      have h8 : (if e0 < k + 1 then e0 else 0) = (if e0 < k then e0 else 0) := by
        by_cases e : e0 < k
        · rw [if_pos e, if_pos (by omega)]
        · rw [if_neg e, if_neg (by omega)]
      rw [h8] at h6
      simp only [k_MD_entryOf_12, k_MD_entryOf_26, k_MD_entryOf_27, mt_kk, mt_l0, lget, lput, mt_pop, g_nil, g_const, g_null, g_iload, g_aload, g_istore, g_astore, g_iinc, g_add, g_sub, g_mul, g_and, g_xor, g_div, g_rem, g_dup, g_dup2, g_pop, g_get, g_putI, g_putZ, g_putA, g_iald, g_zald, g_iast, g_zast, g_aald, g_aast, g_alen, g_new, g_newI, g_newA, g_objinit, l_fall, l_ifeq, l_ifne, l_iflt, l_ifge, l_ifgt, l_ifle, l_iceq, l_icne, l_iclt, l_icge, l_icgt, l_icle, l_nullN, l_nullS, l_nonnullN, l_nonnullS, l_acne, l_callV, l_callI, l_callS, l_ret, l_iret, l_zret, l_aret, l_after, List.length_cons, List.length_nil, Nat.reduceAdd, Nat.reduceLT, Nat.reduceLeDiff, Nat.reduceEqDiff, and_self, and_true, true_and, if_true, if_false, reduceIte, ite_true, ite_false, beq_self_eq_true, Nat.zero_add, Option.toList_some, Option.toList_none, List.cons_append, List.nil_append, gj_0, gj_1, gj_2, gj_3, gj_4, gj_5, gj_6, gj_7, gj_8, gj_9, gj_10, gj_11, gj_12, gj_13, gj_14, gj_15, gj_16, gj_17, gj_18, gj_19, gj_20, gj_21, gj_22, gj_23, gj_24, gj_25, gj_26, gj_27, pj_4, pj_5, pj_9, pj_10, pj_11, pj_12, pj_19, pj_20, pj_26, ij_1, ij_2, ij_3, ij_4, ij_5, ij_6, ij_7, ij_8, ij_9, ij_10, ij_11, ij_12, ij_13, ij_14, ij_15, ij_16, ij_17, ij_18, ij_19, vf_1, vf_2, vf_3, vf_4, vf_5, vf_6, vf_7, vf_8, vf_9, vf_10, vf_11, vf_12, vf_13, vf_14, vf_15, vf_16, vf_17, vf_18, vf_19, sj, h.1, eq_false (nI_ge hkl (show (a_nl nt 12).length < 2 ^ 31 by omega)), hx, h5, e1, h7, nI_add]
      exact h6
theorem x_ment {U : v_N} {nt : Nat → Option (Int32 × Int32)} {nm e0 : Nat} (h : oR U nt) (hnm : nm < 12) (he0 : (a_nl nt 12)[e0]? = some nm) : sm_MD_entryOf [.inr (some c), .inl (nI nm)] (n, w, imr c U f) = some (some (.inl (nI e0)), (n, w, imr c U f)) := by
  have h1 := lp_ent (n := n) (w := w) (c := c) (f := f) h hnm he0 (fun x => x = (some (.inl (nI e0)), (n, w, imr c U f))) rfl (a_nl nt 12).length 0 (by omega)
  rw [if_neg (by omega)] at h1
  refine mt_sem_eq ?_
  simp only [k_MD_entryOf_0, mt_kk, mt_l0, lget, lput, mt_pop, g_nil, g_const, g_null, g_iload, g_aload, g_istore, g_astore, g_iinc, g_add, g_sub, g_mul, g_and, g_xor, g_div, g_rem, g_dup, g_dup2, g_pop, g_get, g_putI, g_putZ, g_putA, g_iald, g_zald, g_iast, g_zast, g_aald, g_aast, g_alen, g_new, g_newI, g_newA, g_objinit, l_fall, l_ifeq, l_ifne, l_iflt, l_ifge, l_ifgt, l_ifle, l_iceq, l_icne, l_iclt, l_icge, l_icgt, l_icle, l_nullN, l_nullS, l_nonnullN, l_nonnullS, l_acne, l_callV, l_callI, l_callS, l_ret, l_iret, l_zret, l_aret, l_after, List.length_cons, List.length_nil, Nat.reduceAdd, Nat.reduceLT, Nat.reduceLeDiff, Nat.reduceEqDiff, and_self, and_true, true_and, if_true, if_false, reduceIte, ite_true, ite_false, beq_self_eq_true, Nat.zero_add, Option.toList_some, Option.toList_none, List.cons_append, List.nil_append, gj_0, gj_1, gj_2, gj_3, gj_4, gj_5, gj_6, gj_7, gj_8, gj_9, gj_10, gj_11, gj_12, gj_13, gj_14, gj_15, gj_16, gj_17, gj_18, gj_19, gj_20, gj_21, gj_22, gj_23, gj_24, gj_25, gj_26, gj_27, pj_4, pj_5, pj_9, pj_10, pj_11, pj_12, pj_19, pj_20, pj_26, ij_1, ij_2, ij_3, ij_4, ij_5, ij_6, ij_7, ij_8, ij_9, ij_10, ij_11, ij_12, ij_13, ij_14, ij_15, ij_16, ij_17, ij_18, ij_19, vf_1, vf_2, vf_3, vf_4, vf_5, vf_6, vf_7, vf_8, vf_9, vf_10, vf_11, vf_12, vf_13, vf_14, vf_15, vf_16, vf_17, vf_18, vf_19, sj]
  exact h1
/-- a file of the target is deleted -/
theorem dR_del {U : v_N} {z : a_Z} {i : Nat} (h : dR U z) (hi : i < 24) : dR (vu (vu U 1 i (nI 0)) 19 6 (U 19 6 + nI 1)) (z.1, z.2.1, va_up z.2.2.1 i none, z.2.2.2.1, a_bp z.2.2.2.2.1 6, z.2.2.2.2.2) := by
  obtain ⟨a1, a2, a3, a4, a5, a6⟩ := h
  have g : ∀ q, q ≠ 1 → q ≠ 19 → vu (vu U 1 i (nI 0)) 19 6 (U 19 6 + nI 1) q = U q := fun q e1 e2 => by rw [vu_off e2, vu_off e1]
  refine ⟨by rw [g 0 (by decide) (by decide)]; exact a1, vR_congr (by rw [g 0 (by decide) (by decide)]) (fun q q1 q2 => g q (by omega) (by omega)) a2, fun j hj => ?_, hR_congr (by rw [g 0 (by decide) (by decide)]) (fun q q1 q2 => g q (by omega) (by omega)) a4, ?_, tR_congr (fun k _ _ => by rw [g 0 (by decide) (by decide)]) (fun q q1 q2 => g q (by omega) (by omega)) a6⟩
  · show gR _ j (va_up z.2.2.1 i none j)
    unfold va_up
    by_cases hji : j = i
    · rw [if_pos hji, hji]
      show _ = nI 0
      rw [up_ne (by decide), vu_same]
    · rw [if_neg hji]
      refine gR_congr ?_ ?_ ?_ (fun p _ => ?_) (a3 j hj)
      · rw [up_ne (by decide), vu_slot hji]
      · rw [up_ne (by decide), up_ne (by decide)]
      · rw [up_ne (by decide), up_ne (by decide)]
      · rw [up_ne (by decide), up_ne (by decide)]
  · have h8 := ct_bpM (U1 := vu U 1 i (nI 0)) (ct := z.2.2.2.2.1) (j := 6) (fun k hk => by rw [up_ne (by decide)]; exact a5 k hk) (by decide)
    rw [up_ne (by decide)] at h8
    exact h8
theorem lp_list {U : v_N} {nt : Nat → Option (Int32 × Int32)} {k : Nat} (h : oR U nt) (hk : k < 12) (Q : m_R → Prop) (j1 : Option m_V) (d : Nat) : ∀ (e : Nat), e + d = (a_nl nt 12).length → mt_T cd_MD_concludeIfDone 95 ([some (.inr (some c)), j1, some (.inl (nI k)), some (.inl (bI (nt k).isSome)), some (.inl (nI (a_nl nt 12).length))], [], (n, w, imr c U f)) Q → mt_T cd_MD_concludeIfDone 59 ([some (.inr (some c)), j1, some (.inl (nI k)), some (.inl (bI (a_ls (a_nl nt 12) k e))), some (.inl (nI e))], [], (n, w, imr c U f)) Q := by
  have hlen := nl_len (nt := nt) 12
  induction d with
  | zero =>
    intro e hd hq
    have hd : e = (a_nl nt 12).length := hd
    subst hd
    rw [ls_nt hk]
    rw [k_MD_concludeIfDone_59]
    simp only [mt_kk, mt_l0, lget, lput, mt_pop, g_nil, g_const, g_null, g_iload, g_aload, g_istore, g_astore, g_iinc, g_add, g_sub, g_mul, g_and, g_xor, g_div, g_rem, g_dup, g_dup2, g_pop, g_get, g_putI, g_putZ, g_putA, g_iald, g_zald, g_iast, g_zast, g_aald, g_aast, g_alen, g_new, g_newI, g_newA, g_objinit, l_fall, l_ifeq, l_ifne, l_iflt, l_ifge, l_ifgt, l_ifle, l_iceq, l_icne, l_iclt, l_icge, l_icgt, l_icle, l_nullN, l_nullS, l_nonnullN, l_nonnullS, l_acne, l_callV, l_callI, l_callS, l_ret, l_iret, l_zret, l_aret, l_after, List.length_cons, List.length_nil, Nat.reduceAdd, Nat.reduceLT, Nat.reduceLeDiff, Nat.reduceEqDiff, and_self, and_true, true_and, if_true, if_false, reduceIte, ite_true, ite_false, beq_self_eq_true, Nat.zero_add, Option.toList_some, Option.toList_none, List.cons_append, List.nil_append, gj_0, gj_1, gj_2, gj_3, gj_4, gj_5, gj_6, gj_7, gj_8, gj_9, gj_10, gj_11, gj_12, gj_13, gj_14, gj_15, gj_16, gj_17, gj_18, gj_19, gj_20, gj_21, gj_22, gj_23, gj_24, gj_25, gj_26, gj_27, pj_4, pj_5, pj_9, pj_10, pj_11, pj_12, pj_19, pj_20, pj_26, ij_1, ij_2, ij_3, ij_4, ij_5, ij_6, ij_7, ij_8, ij_9, ij_10, ij_11, ij_12, ij_13, ij_14, ij_15, ij_16, ij_17, ij_18, ij_19, vf_1, vf_2, vf_3, vf_4, vf_5, vf_6, vf_7, vf_8, vf_9, vf_10, vf_11, vf_12, vf_13, vf_14, vf_15, vf_16, vf_17, vf_18, vf_19, sj, h.1, eq_true (Int32.le_refl (nI (a_nl nt 12).length))]
    exact hq
  | succ d ih =>
    intro e hd hq
    have hkl : e < (a_nl nt 12).length := by omega
    have hx := mt_ix_nI (j := e) (n := 12) (by omega) (by decide)
    have h3 := nl_getD hkl
    have h4 := (nl_mem.mp (List.mem_of_getElem? h3)).1
    have h5 := (h.2 e _ h3).1
    have h6 := ih (e + 1) (by omega) hq
    have e1 := nI_eqE (a := (a_nl nt 12).getD e 0) (b := k) (by omega) (by omega)
    simp only [a_ls] at h6
    rw [k_MD_concludeIfDone_59]
    cases hl : a_ls (a_nl nt 12) k e with
    | true =>
      rw [hl, Bool.true_or] at h6
      simp only [k_MD_concludeIfDone_68, k_MD_concludeIfDone_83, k_MD_concludeIfDone_88, mt_kk, mt_l0, lget, lput, mt_pop, g_nil, g_const, g_null, g_iload, g_aload, g_istore, g_astore, g_iinc, g_add, g_sub, g_mul, g_and, g_xor, g_div, g_rem, g_dup, g_dup2, g_pop, g_get, g_putI, g_putZ, g_putA, g_iald, g_zald, g_iast, g_zast, g_aald, g_aast, g_alen, g_new, g_newI, g_newA, g_objinit, l_fall, l_ifeq, l_ifne, l_iflt, l_ifge, l_ifgt, l_ifle, l_iceq, l_icne, l_iclt, l_icge, l_icgt, l_icle, l_nullN, l_nullS, l_nonnullN, l_nonnullS, l_acne, l_callV, l_callI, l_callS, l_ret, l_iret, l_zret, l_aret, l_after, List.length_cons, List.length_nil, Nat.reduceAdd, Nat.reduceLT, Nat.reduceLeDiff, Nat.reduceEqDiff, and_self, and_true, true_and, if_true, if_false, reduceIte, ite_true, ite_false, beq_self_eq_true, Nat.zero_add, Option.toList_some, Option.toList_none, List.cons_append, List.nil_append, gj_0, gj_1, gj_2, gj_3, gj_4, gj_5, gj_6, gj_7, gj_8, gj_9, gj_10, gj_11, gj_12, gj_13, gj_14, gj_15, gj_16, gj_17, gj_18, gj_19, gj_20, gj_21, gj_22, gj_23, gj_24, gj_25, gj_26, gj_27, pj_4, pj_5, pj_9, pj_10, pj_11, pj_12, pj_19, pj_20, pj_26, ij_1, ij_2, ij_3, ij_4, ij_5, ij_6, ij_7, ij_8, ij_9, ij_10, ij_11, ij_12, ij_13, ij_14, ij_15, ij_16, ij_17, ij_18, ij_19, vf_1, vf_2, vf_3, vf_4, vf_5, vf_6, vf_7, vf_8, vf_9, vf_10, vf_11, vf_12, vf_13, vf_14, vf_15, vf_16, vf_17, vf_18, vf_19, sj, h.1, eq_false (nI_ge hkl (show (a_nl nt 12).length < 2 ^ 31 by omega)), bI_t, e_1, nI_add]
      exact h6
    | false =>
      rw [hl, Bool.false_or] at h6
      by_cases hc : (a_nl nt 12).getD e 0 = k
      · rw [beq_iff_eq.mpr hc] at h6
        simp only [k_MD_concludeIfDone_68, k_MD_concludeIfDone_72, k_MD_concludeIfDone_83, k_MD_concludeIfDone_88, mt_kk, mt_l0, lget, lput, mt_pop, g_nil, g_const, g_null, g_iload, g_aload, g_istore, g_astore, g_iinc, g_add, g_sub, g_mul, g_and, g_xor, g_div, g_rem, g_dup, g_dup2, g_pop, g_get, g_putI, g_putZ, g_putA, g_iald, g_zald, g_iast, g_zast, g_aald, g_aast, g_alen, g_new, g_newI, g_newA, g_objinit, l_fall, l_ifeq, l_ifne, l_iflt, l_ifge, l_ifgt, l_ifle, l_iceq, l_icne, l_iclt, l_icge, l_icgt, l_icle, l_nullN, l_nullS, l_nonnullN, l_nonnullS, l_acne, l_callV, l_callI, l_callS, l_ret, l_iret, l_zret, l_aret, l_after, List.length_cons, List.length_nil, Nat.reduceAdd, Nat.reduceLT, Nat.reduceLeDiff, Nat.reduceEqDiff, and_self, and_true, true_and, if_true, if_false, reduceIte, ite_true, ite_false, beq_self_eq_true, Nat.zero_add, Option.toList_some, Option.toList_none, List.cons_append, List.nil_append, gj_0, gj_1, gj_2, gj_3, gj_4, gj_5, gj_6, gj_7, gj_8, gj_9, gj_10, gj_11, gj_12, gj_13, gj_14, gj_15, gj_16, gj_17, gj_18, gj_19, gj_20, gj_21, gj_22, gj_23, gj_24, gj_25, gj_26, gj_27, pj_4, pj_5, pj_9, pj_10, pj_11, pj_12, pj_19, pj_20, pj_26, ij_1, ij_2, ij_3, ij_4, ij_5, ij_6, ij_7, ij_8, ij_9, ij_10, ij_11, ij_12, ij_13, ij_14, ij_15, ij_16, ij_17, ij_18, ij_19, vf_1, vf_2, vf_3, vf_4, vf_5, vf_6, vf_7, vf_8, vf_9, vf_10, vf_11, vf_12, vf_13, vf_14, vf_15, vf_16, vf_17, vf_18, vf_19, sj, h.1, eq_false (nI_ge hkl (show (a_nl nt 12).length < 2 ^ 31 by omega)), bI_f, e_0, hx, h5, e1, hc, nI_add]
        exact h6
      · rw [beq_eq_false_iff_ne.mpr hc] at h6
        simp only [k_MD_concludeIfDone_68, k_MD_concludeIfDone_72, k_MD_concludeIfDone_87, k_MD_concludeIfDone_88, mt_kk, mt_l0, lget, lput, mt_pop, g_nil, g_const, g_null, g_iload, g_aload, g_istore, g_astore, g_iinc, g_add, g_sub, g_mul, g_and, g_xor, g_div, g_rem, g_dup, g_dup2, g_pop, g_get, g_putI, g_putZ, g_putA, g_iald, g_zald, g_iast, g_zast, g_aald, g_aast, g_alen, g_new, g_newI, g_newA, g_objinit, l_fall, l_ifeq, l_ifne, l_iflt, l_ifge, l_ifgt, l_ifle, l_iceq, l_icne, l_iclt, l_icge, l_icgt, l_icle, l_nullN, l_nullS, l_nonnullN, l_nonnullS, l_acne, l_callV, l_callI, l_callS, l_ret, l_iret, l_zret, l_aret, l_after, List.length_cons, List.length_nil, Nat.reduceAdd, Nat.reduceLT, Nat.reduceLeDiff, Nat.reduceEqDiff, and_self, and_true, true_and, if_true, if_false, reduceIte, ite_true, ite_false, beq_self_eq_true, Nat.zero_add, Option.toList_some, Option.toList_none, List.cons_append, List.nil_append, gj_0, gj_1, gj_2, gj_3, gj_4, gj_5, gj_6, gj_7, gj_8, gj_9, gj_10, gj_11, gj_12, gj_13, gj_14, gj_15, gj_16, gj_17, gj_18, gj_19, gj_20, gj_21, gj_22, gj_23, gj_24, gj_25, gj_26, gj_27, pj_4, pj_5, pj_9, pj_10, pj_11, pj_12, pj_19, pj_20, pj_26, ij_1, ij_2, ij_3, ij_4, ij_5, ij_6, ij_7, ij_8, ij_9, ij_10, ij_11, ij_12, ij_13, ij_14, ij_15, ij_16, ij_17, ij_18, ij_19, vf_1, vf_2, vf_3, vf_4, vf_5, vf_6, vf_7, vf_8, vf_9, vf_10, vf_11, vf_12, vf_13, vf_14, vf_15, vf_16, vf_17, vf_18, vf_19, sj, h.1, eq_false (nI_ge hkl (show (a_nl nt 12).length < 2 ^ 31 by omega)), bI_f, e_0, hx, h5, e1, hc, nI_add]
        exact h6
def z_dn (z : a_Z) (y : a_S) (m : Nat) : (Nat → a_F) × (Nat → Int32) := if y.2.1 = true then a_de z.2.1 y.2.2.2.1 (z.2.2.1, z.2.2.2.2.1) m else (z.2.2.1, z.2.2.2.2.1)
theorem lp_con {z : a_Z} {y : a_S} (hy : z.2.2.2.2.2 = some y) (Q : m_R → Prop) (hq : ∀ U1, dR U1 (z.1, z.2.1, (z_dn z y 12).1, z.2.2.2.1, a_bp (z_dn z y 12).2 4, none) → Q (none, (n, w, imr c U1 f))) (j1 : Option m_V) (d : Nat) : ∀ (i : Nat) (U : v_N) (j3 j4 : Option m_V), i + d = 12 → dR U (z.1, z.2.1, (z_dn z y i).1, z.2.2.2.1, (z_dn z y i).2, some y) → mt_T cd_MD_concludeIfDone 48 ([some (.inr (some c)), j1, some (.inl (nI i)), j3, j4], [], (n, w, imr c U f)) Q := by
  induction d with
  | zero =>
    intro i U j3 j4 hd h1
    have hd : i = 12 := hd
    subst hd
    simp only [k_MD_concludeIfDone_48, k_MD_concludeIfDone_148, mt_kk, mt_l0, lget, lput, mt_pop, g_nil, g_const, g_null, g_iload, g_aload, g_istore, g_astore, g_iinc, g_add, g_sub, g_mul, g_and, g_xor, g_div, g_rem, g_dup, g_dup2, g_pop, g_get, g_putI, g_putZ, g_putA, g_iald, g_zald, g_iast, g_zast, g_aald, g_aast, g_alen, g_new, g_newI, g_newA, g_objinit, l_fall, l_ifeq, l_ifne, l_iflt, l_ifge, l_ifgt, l_ifle, l_iceq, l_icne, l_iclt, l_icge, l_icgt, l_icle, l_nullN, l_nullS, l_nonnullN, l_nonnullS, l_acne, l_callV, l_callI, l_callS, l_ret, l_iret, l_zret, l_aret, l_after, List.length_cons, List.length_nil, Nat.reduceAdd, Nat.reduceLT, Nat.reduceLeDiff, Nat.reduceEqDiff, and_self, and_true, true_and, if_true, if_false, reduceIte, ite_true, ite_false, beq_self_eq_true, Nat.zero_add, Option.toList_some, Option.toList_none, List.cons_append, List.nil_append, gj_0, gj_1, gj_2, gj_3, gj_4, gj_5, gj_6, gj_7, gj_8, gj_9, gj_10, gj_11, gj_12, gj_13, gj_14, gj_15, gj_16, gj_17, gj_18, gj_19, gj_20, gj_21, gj_22, gj_23, gj_24, gj_25, gj_26, gj_27, pj_4, pj_5, pj_9, pj_10, pj_11, pj_12, pj_19, pj_20, pj_26, ij_1, ij_2, ij_3, ij_4, ij_5, ij_6, ij_7, ij_8, ij_9, ij_10, ij_11, ij_12, ij_13, ij_14, ij_15, ij_16, ij_17, ij_18, ij_19, vf_1, vf_2, vf_3, vf_4, vf_5, vf_6, vf_7, vf_8, vf_9, vf_10, vf_11, vf_12, vf_13, vf_14, vf_15, vf_16, vf_17, vf_18, vf_19, sj, eq_true (Int32.le_refl (nI 12))]
    refine mt_call (x_over h1) ?_
    rintro r ⟨U1, rfl, h2⟩
    simp only [k_MD_concludeIfDone_152, k_MD_concludeIfDone_157, mt_kk, mt_l0, lget, lput, mt_pop, g_nil, g_const, g_null, g_iload, g_aload, g_istore, g_astore, g_iinc, g_add, g_sub, g_mul, g_and, g_xor, g_div, g_rem, g_dup, g_dup2, g_pop, g_get, g_putI, g_putZ, g_putA, g_iald, g_zald, g_iast, g_zast, g_aald, g_aast, g_alen, g_new, g_newI, g_newA, g_objinit, l_fall, l_ifeq, l_ifne, l_iflt, l_ifge, l_ifgt, l_ifle, l_iceq, l_icne, l_iclt, l_icge, l_icgt, l_icle, l_nullN, l_nullS, l_nonnullN, l_nonnullS, l_acne, l_callV, l_callI, l_callS, l_ret, l_iret, l_zret, l_aret, l_after, List.length_cons, List.length_nil, Nat.reduceAdd, Nat.reduceLT, Nat.reduceLeDiff, Nat.reduceEqDiff, and_self, and_true, true_and, if_true, if_false, reduceIte, ite_true, ite_false, beq_self_eq_true, Nat.zero_add, Option.toList_some, Option.toList_none, List.cons_append, List.nil_append, gj_0, gj_1, gj_2, gj_3, gj_4, gj_5, gj_6, gj_7, gj_8, gj_9, gj_10, gj_11, gj_12, gj_13, gj_14, gj_15, gj_16, gj_17, gj_18, gj_19, gj_20, gj_21, gj_22, gj_23, gj_24, gj_25, gj_26, gj_27, pj_4, pj_5, pj_9, pj_10, pj_11, pj_12, pj_19, pj_20, pj_26, ij_1, ij_2, ij_3, ij_4, ij_5, ij_6, ij_7, ij_8, ij_9, ij_10, ij_11, ij_12, ij_13, ij_14, ij_15, ij_16, ij_17, ij_18, ij_19, vf_1, vf_2, vf_3, vf_4, vf_5, vf_6, vf_7, vf_8, vf_9, vf_10, vf_11, vf_12, vf_13, vf_14, vf_15, vf_16, vf_17, vf_18, vf_19, sj, x_add (show 4 < 8 by decide)]
    refine hq _ ?_
    obtain ⟨a1, a2, a3, a4, a5, a6⟩ := h2
    have g : ∀ q, q ≠ 19 → vu U1 19 4 (U1 19 4 + nI 1) q = U1 q := fun q e => vu_off e
    exact ⟨by rw [g 0 (by decide)]; exact a1, vR_congr (by rw [g 0 (by decide)]) (fun q q1 q2 => g q (by omega)) a2, fun i hi => gR_same (fun q q1 q2 => g q (by omega)) (a3 i hi), hR_congr (by rw [g 0 (by decide)]) (fun q q1 q2 => g q (by omega)) a4, ct_bpM a5 (by decide), tR_congr (fun k _ _ => by rw [g 0 (by decide)]) (fun q q1 q2 => g q (by omega)) a6⟩
  | succ d ih =>
    intro i U j3 j4 hd h1
    have hi : i < 12 := by omega
    obtain ⟨a1, a2, a3, a4, a5, a6⟩ := id h1
    obtain ⟨s1, s2, s3, s4, s5, s6, s7, s8, s9⟩ := a6
    have hx := mt_ix_nI (j := 12 + i) (n := 24) (by omega) (by decide)
    have hfi := a3 (12 + i) (by omega)
    have hfi : gR U (12 + i) ((z_dn z y i).1 (12 + i)) := hfi
    have hsel := x_isel (n := n) (w := w) (c := c) (f := f) (nm := i) a2
    have hsel : sm_MD_isSelected [.inr (some c), .inl (nI i)] (n, w, imr c U f) = some (some (.inl (bI (a_sl z.2.1 i))), (n, w, imr c U f)) := hsel
    rw [k_MD_concludeIfDone_48]
    simp only [k_MD_concludeIfDone_54, mt_kk, mt_l0, lget, lput, mt_pop, g_nil, g_const, g_null, g_iload, g_aload, g_istore, g_astore, g_iinc, g_add, g_sub, g_mul, g_and, g_xor, g_div, g_rem, g_dup, g_dup2, g_pop, g_get, g_putI, g_putZ, g_putA, g_iald, g_zald, g_iast, g_zast, g_aald, g_aast, g_alen, g_new, g_newI, g_newA, g_objinit, l_fall, l_ifeq, l_ifne, l_iflt, l_ifge, l_ifgt, l_ifle, l_iceq, l_icne, l_iclt, l_icge, l_icgt, l_icle, l_nullN, l_nullS, l_nonnullN, l_nonnullS, l_acne, l_callV, l_callI, l_callS, l_ret, l_iret, l_zret, l_aret, l_after, List.length_cons, List.length_nil, Nat.reduceAdd, Nat.reduceLT, Nat.reduceLeDiff, Nat.reduceEqDiff, and_self, and_true, true_and, if_true, if_false, reduceIte, ite_true, ite_false, beq_self_eq_true, Nat.zero_add, Option.toList_some, Option.toList_none, List.cons_append, List.nil_append, gj_0, gj_1, gj_2, gj_3, gj_4, gj_5, gj_6, gj_7, gj_8, gj_9, gj_10, gj_11, gj_12, gj_13, gj_14, gj_15, gj_16, gj_17, gj_18, gj_19, gj_20, gj_21, gj_22, gj_23, gj_24, gj_25, gj_26, gj_27, pj_4, pj_5, pj_9, pj_10, pj_11, pj_12, pj_19, pj_20, pj_26, ij_1, ij_2, ij_3, ij_4, ij_5, ij_6, ij_7, ij_8, ij_9, ij_10, ij_11, ij_12, ij_13, ij_14, ij_15, ij_16, ij_17, ij_18, ij_19, vf_1, vf_2, vf_3, vf_4, vf_5, vf_6, vf_7, vf_8, vf_9, vf_10, vf_11, vf_12, vf_13, vf_14, vf_15, vf_16, vf_17, vf_18, vf_19, sj, eq_false (nI_ge hi (show 12 < 2 ^ 31 by decide))]
    have h59 := lp_list (n := n) (w := w) (c := c) (f := f) s6 hi Q j1 (a_nl y.2.2.2.1 12).length 0 (by omega)
    refine h59 ?_
    have hno : (y.2.1 = false ∨ ¬ (((z_dn z y i).1 (12 + i)).isSome = true ∧ a_sl z.2.1 i = true ∧ y.2.2.2.1 i = none)) → z_dn z y (i + 1) = z_dn z y i := by
      intro h
      unfold z_dn
      cases hd2 : y.2.1 with
      | false => rfl
      | true =>
        rw [if_pos rfl, if_pos rfl]
        have h2 := h.resolve_left (by rw [hd2]; decide)
        unfold z_dn at h2
        rw [hd2, if_pos rfl] at h2
        simp only [a_de, if_neg h2]
    have hgo : z_dn z y (i + 1) = z_dn z y i → mt_T cd_MD_concludeIfDone 142 ([some (.inr (some c)), j1, some (.inl (nI i)), some (.inl (bI (y.2.2.2.1 i).isSome)), some (.inl (nI (a_nl y.2.2.2.1 12).length))], [], (n, w, imr c U f)) Q := by
      intro e
      simp only [k_MD_concludeIfDone_142, mt_kk, mt_l0, lget, lput, mt_pop, g_nil, g_const, g_null, g_iload, g_aload, g_istore, g_astore, g_iinc, g_add, g_sub, g_mul, g_and, g_xor, g_div, g_rem, g_dup, g_dup2, g_pop, g_get, g_putI, g_putZ, g_putA, g_iald, g_zald, g_iast, g_zast, g_aald, g_aast, g_alen, g_new, g_newI, g_newA, g_objinit, l_fall, l_ifeq, l_ifne, l_iflt, l_ifge, l_ifgt, l_ifle, l_iceq, l_icne, l_iclt, l_icge, l_icgt, l_icle, l_nullN, l_nullS, l_nonnullN, l_nonnullS, l_acne, l_callV, l_callI, l_callS, l_ret, l_iret, l_zret, l_aret, l_after, List.length_cons, List.length_nil, Nat.reduceAdd, Nat.reduceLT, Nat.reduceLeDiff, Nat.reduceEqDiff, and_self, and_true, true_and, if_true, if_false, reduceIte, ite_true, ite_false, beq_self_eq_true, Nat.zero_add, Option.toList_some, Option.toList_none, List.cons_append, List.nil_append, gj_0, gj_1, gj_2, gj_3, gj_4, gj_5, gj_6, gj_7, gj_8, gj_9, gj_10, gj_11, gj_12, gj_13, gj_14, gj_15, gj_16, gj_17, gj_18, gj_19, gj_20, gj_21, gj_22, gj_23, gj_24, gj_25, gj_26, gj_27, pj_4, pj_5, pj_9, pj_10, pj_11, pj_12, pj_19, pj_20, pj_26, ij_1, ij_2, ij_3, ij_4, ij_5, ij_6, ij_7, ij_8, ij_9, ij_10, ij_11, ij_12, ij_13, ij_14, ij_15, ij_16, ij_17, ij_18, ij_19, vf_1, vf_2, vf_3, vf_4, vf_5, vf_6, vf_7, vf_8, vf_9, vf_10, vf_11, vf_12, vf_13, vf_14, vf_15, vf_16, vf_17, vf_18, vf_19, sj, nI_add]
      exact ih (i + 1) U _ _ (by omega) (by rw [e]; exact h1)
    cases hdel : y.2.1 with
    | false =>
      have s5 : U 0 11 = nI 0 := by have := s5; rw [hdel] at this; exact this
      simp only [k_MD_concludeIfDone_95, mt_kk, mt_l0, lget, lput, mt_pop, g_nil, g_const, g_null, g_iload, g_aload, g_istore, g_astore, g_iinc, g_add, g_sub, g_mul, g_and, g_xor, g_div, g_rem, g_dup, g_dup2, g_pop, g_get, g_putI, g_putZ, g_putA, g_iald, g_zald, g_iast, g_zast, g_aald, g_aast, g_alen, g_new, g_newI, g_newA, g_objinit, l_fall, l_ifeq, l_ifne, l_iflt, l_ifge, l_ifgt, l_ifle, l_iceq, l_icne, l_iclt, l_icge, l_icgt, l_icle, l_nullN, l_nullS, l_nonnullN, l_nonnullS, l_acne, l_callV, l_callI, l_callS, l_ret, l_iret, l_zret, l_aret, l_after, List.length_cons, List.length_nil, Nat.reduceAdd, Nat.reduceLT, Nat.reduceLeDiff, Nat.reduceEqDiff, and_self, and_true, true_and, if_true, if_false, reduceIte, ite_true, ite_false, beq_self_eq_true, Nat.zero_add, Option.toList_some, Option.toList_none, List.cons_append, List.nil_append, gj_0, gj_1, gj_2, gj_3, gj_4, gj_5, gj_6, gj_7, gj_8, gj_9, gj_10, gj_11, gj_12, gj_13, gj_14, gj_15, gj_16, gj_17, gj_18, gj_19, gj_20, gj_21, gj_22, gj_23, gj_24, gj_25, gj_26, gj_27, pj_4, pj_5, pj_9, pj_10, pj_11, pj_12, pj_19, pj_20, pj_26, ij_1, ij_2, ij_3, ij_4, ij_5, ij_6, ij_7, ij_8, ij_9, ij_10, ij_11, ij_12, ij_13, ij_14, ij_15, ij_16, ij_17, ij_18, ij_19, vf_1, vf_2, vf_3, vf_4, vf_5, vf_6, vf_7, vf_8, vf_9, vf_10, vf_11, vf_12, vf_13, vf_14, vf_15, vf_16, vf_17, vf_18, vf_19, sj, s5, e_0]
      exact hgo (hno (Or.inl hdel))
    | true =>
      have s5 : U 0 11 = nI 1 := by have := s5; rw [hdel] at this; exact this
      cases hfx : (z_dn z y i).1 (12 + i) with
      | none =>
        rw [hfx] at hfi
        have hfi : U 1 (12 + i) = nI 0 := hfi
        simp only [k_MD_concludeIfDone_95, k_MD_concludeIfDone_102, mt_kk, mt_l0, lget, lput, mt_pop, g_nil, g_const, g_null, g_iload, g_aload, g_istore, g_astore, g_iinc, g_add, g_sub, g_mul, g_and, g_xor, g_div, g_rem, g_dup, g_dup2, g_pop, g_get, g_putI, g_putZ, g_putA, g_iald, g_zald, g_iast, g_zast, g_aald, g_aast, g_alen, g_new, g_newI, g_newA, g_objinit, l_fall, l_ifeq, l_ifne, l_iflt, l_ifge, l_ifgt, l_ifle, l_iceq, l_icne, l_iclt, l_icge, l_icgt, l_icle, l_nullN, l_nullS, l_nonnullN, l_nonnullS, l_acne, l_callV, l_callI, l_callS, l_ret, l_iret, l_zret, l_aret, l_after, List.length_cons, List.length_nil, Nat.reduceAdd, Nat.reduceLT, Nat.reduceLeDiff, Nat.reduceEqDiff, and_self, and_true, true_and, if_true, if_false, reduceIte, ite_true, ite_false, beq_self_eq_true, Nat.zero_add, Option.toList_some, Option.toList_none, List.cons_append, List.nil_append, gj_0, gj_1, gj_2, gj_3, gj_4, gj_5, gj_6, gj_7, gj_8, gj_9, gj_10, gj_11, gj_12, gj_13, gj_14, gj_15, gj_16, gj_17, gj_18, gj_19, gj_20, gj_21, gj_22, gj_23, gj_24, gj_25, gj_26, gj_27, pj_4, pj_5, pj_9, pj_10, pj_11, pj_12, pj_19, pj_20, pj_26, ij_1, ij_2, ij_3, ij_4, ij_5, ij_6, ij_7, ij_8, ij_9, ij_10, ij_11, ij_12, ij_13, ij_14, ij_15, ij_16, ij_17, ij_18, ij_19, vf_1, vf_2, vf_3, vf_4, vf_5, vf_6, vf_7, vf_8, vf_9, vf_10, vf_11, vf_12, vf_13, vf_14, vf_15, vf_16, vf_17, vf_18, vf_19, sj, s5, e_1, e_0, nI_add, hx, hfi]
        exact hgo (hno (Or.inr (by rw [hfx]; exact fun h => by cases h.1)))
      | some u =>
        rw [hfx] at hfi
        cases hs : a_sl z.2.1 i with
        | false =>
          rw [hs] at hsel
          simp only [k_MD_concludeIfDone_95, k_MD_concludeIfDone_102, k_MD_concludeIfDone_114, k_MD_concludeIfDone_119, mt_kk, mt_l0, lget, lput, mt_pop, g_nil, g_const, g_null, g_iload, g_aload, g_istore, g_astore, g_iinc, g_add, g_sub, g_mul, g_and, g_xor, g_div, g_rem, g_dup, g_dup2, g_pop, g_get, g_putI, g_putZ, g_putA, g_iald, g_zald, g_iast, g_zast, g_aald, g_aast, g_alen, g_new, g_newI, g_newA, g_objinit, l_fall, l_ifeq, l_ifne, l_iflt, l_ifge, l_ifgt, l_ifle, l_iceq, l_icne, l_iclt, l_icge, l_icgt, l_icle, l_nullN, l_nullS, l_nonnullN, l_nonnullS, l_acne, l_callV, l_callI, l_callS, l_ret, l_iret, l_zret, l_aret, l_after, List.length_cons, List.length_nil, Nat.reduceAdd, Nat.reduceLT, Nat.reduceLeDiff, Nat.reduceEqDiff, and_self, and_true, true_and, if_true, if_false, reduceIte, ite_true, ite_false, beq_self_eq_true, Nat.zero_add, Option.toList_some, Option.toList_none, List.cons_append, List.nil_append, gj_0, gj_1, gj_2, gj_3, gj_4, gj_5, gj_6, gj_7, gj_8, gj_9, gj_10, gj_11, gj_12, gj_13, gj_14, gj_15, gj_16, gj_17, gj_18, gj_19, gj_20, gj_21, gj_22, gj_23, gj_24, gj_25, gj_26, gj_27, pj_4, pj_5, pj_9, pj_10, pj_11, pj_12, pj_19, pj_20, pj_26, ij_1, ij_2, ij_3, ij_4, ij_5, ij_6, ij_7, ij_8, ij_9, ij_10, ij_11, ij_12, ij_13, ij_14, ij_15, ij_16, ij_17, ij_18, ij_19, vf_1, vf_2, vf_3, vf_4, vf_5, vf_6, vf_7, vf_8, vf_9, vf_10, vf_11, vf_12, vf_13, vf_14, vf_15, vf_16, vf_17, vf_18, vf_19, sj, s5, e_1, e_0, nI_add, hx, hfi.1, hsel, bI_f]
          exact hgo (hno (Or.inr (by rw [hs]; exact fun h => by cases h.2.1)))
        | true =>
          rw [hs] at hsel
          cases hn : y.2.2.2.1 i with
          | some v =>
            have hgo2 := hgo (hno (Or.inr (by rw [hn]; exact fun h => by cases h.2.2)))
            rw [hn] at hgo2
            have hgo2 : mt_T cd_MD_concludeIfDone 142 ([some (.inr (some c)), j1, some (.inl (nI i)), some (.inl (nI 1)), some (.inl (nI (a_nl y.2.2.2.1 12).length))], [], (n, w, imr c U f)) Q := hgo2
            simp only [k_MD_concludeIfDone_95, k_MD_concludeIfDone_102, k_MD_concludeIfDone_114, k_MD_concludeIfDone_119, k_MD_concludeIfDone_122, mt_kk, mt_l0, lget, lput, mt_pop, g_nil, g_const, g_null, g_iload, g_aload, g_istore, g_astore, g_iinc, g_add, g_sub, g_mul, g_and, g_xor, g_div, g_rem, g_dup, g_dup2, g_pop, g_get, g_putI, g_putZ, g_putA, g_iald, g_zald, g_iast, g_zast, g_aald, g_aast, g_alen, g_new, g_newI, g_newA, g_objinit, l_fall, l_ifeq, l_ifne, l_iflt, l_ifge, l_ifgt, l_ifle, l_iceq, l_icne, l_iclt, l_icge, l_icgt, l_icle, l_nullN, l_nullS, l_nonnullN, l_nonnullS, l_acne, l_callV, l_callI, l_callS, l_ret, l_iret, l_zret, l_aret, l_after, List.length_cons, List.length_nil, Nat.reduceAdd, Nat.reduceLT, Nat.reduceLeDiff, Nat.reduceEqDiff, and_self, and_true, true_and, if_true, if_false, reduceIte, ite_true, ite_false, beq_self_eq_true, Nat.zero_add, Option.toList_some, Option.toList_none, List.cons_append, List.nil_append, gj_0, gj_1, gj_2, gj_3, gj_4, gj_5, gj_6, gj_7, gj_8, gj_9, gj_10, gj_11, gj_12, gj_13, gj_14, gj_15, gj_16, gj_17, gj_18, gj_19, gj_20, gj_21, gj_22, gj_23, gj_24, gj_25, gj_26, gj_27, pj_4, pj_5, pj_9, pj_10, pj_11, pj_12, pj_19, pj_20, pj_26, ij_1, ij_2, ij_3, ij_4, ij_5, ij_6, ij_7, ij_8, ij_9, ij_10, ij_11, ij_12, ij_13, ij_14, ij_15, ij_16, ij_17, ij_18, ij_19, vf_1, vf_2, vf_3, vf_4, vf_5, vf_6, vf_7, vf_8, vf_9, vf_10, vf_11, vf_12, vf_13, vf_14, vf_15, vf_16, vf_17, vf_18, vf_19, sj, s5, e_1, e_0, nI_add, hx, hfi.1, hsel, bI_t, Option.isSome_some]
            exact hgo2
          | none =>
            simp only [k_MD_concludeIfDone_95, k_MD_concludeIfDone_102, k_MD_concludeIfDone_114, k_MD_concludeIfDone_119, k_MD_concludeIfDone_122, k_MD_concludeIfDone_126, k_MD_concludeIfDone_142, mt_kk, mt_l0, lget, lput, mt_pop, g_nil, g_const, g_null, g_iload, g_aload, g_istore, g_astore, g_iinc, g_add, g_sub, g_mul, g_and, g_xor, g_div, g_rem, g_dup, g_dup2, g_pop, g_get, g_putI, g_putZ, g_putA, g_iald, g_zald, g_iast, g_zast, g_aald, g_aast, g_alen, g_new, g_newI, g_newA, g_objinit, l_fall, l_ifeq, l_ifne, l_iflt, l_ifge, l_ifgt, l_ifle, l_iceq, l_icne, l_iclt, l_icge, l_icgt, l_icle, l_nullN, l_nullS, l_nonnullN, l_nonnullS, l_acne, l_callV, l_callI, l_callS, l_ret, l_iret, l_zret, l_aret, l_after, List.length_cons, List.length_nil, Nat.reduceAdd, Nat.reduceLT, Nat.reduceLeDiff, Nat.reduceEqDiff, and_self, and_true, true_and, if_true, if_false, reduceIte, ite_true, ite_false, beq_self_eq_true, Nat.zero_add, Option.toList_some, Option.toList_none, List.cons_append, List.nil_append, gj_0, gj_1, gj_2, gj_3, gj_4, gj_5, gj_6, gj_7, gj_8, gj_9, gj_10, gj_11, gj_12, gj_13, gj_14, gj_15, gj_16, gj_17, gj_18, gj_19, gj_20, gj_21, gj_22, gj_23, gj_24, gj_25, gj_26, gj_27, pj_4, pj_5, pj_9, pj_10, pj_11, pj_12, pj_19, pj_20, pj_26, ij_1, ij_2, ij_3, ij_4, ij_5, ij_6, ij_7, ij_8, ij_9, ij_10, ij_11, ij_12, ij_13, ij_14, ij_15, ij_16, ij_17, ij_18, ij_19, vf_1, vf_2, vf_3, vf_4, vf_5, vf_6, vf_7, vf_8, vf_9, vf_10, vf_11, vf_12, vf_13, vf_14, vf_15, vf_16, vf_17, vf_18, vf_19, sj, s5, e_1, e_0, nI_add, hx, hfi.1, hsel, bI_t, bI_f, Option.isSome_none, z_0, x_add (show 6 < 8 by decide), up_ne (show 19 ≠ 1 by decide)]
            have e : z_dn z y (i + 1) = (va_up (z_dn z y i).1 (12 + i) none, a_bp (z_dn z y i).2 6) := by
              unfold z_dn at hfx ⊢
              rw [hdel] at hfx ⊢
              rw [if_pos rfl] at hfx ⊢
              rw [if_pos rfl]
              simp only [a_de]
              rw [if_pos ⟨by rw [hfx]; rfl, hs, hn⟩]
            refine ih (i + 1) _ _ _ (by omega) ?_
            rw [e]
            exact dR_del h1 (by omega)
theorem lp_done {U : v_N} {nt : Nat → Option (Int32 × Int32)} {op : Nat → Bool} (h : oR U nt) (ho : ∀ e k, (a_nl nt 12)[e]? = some k → U 11 e = bI (op k)) (Q : m_R → Prop) (hq : mt_T cd_MD_concludeIfDone 37 ([some (.inr (some c)), some (.inl (bI (a_hl op (a_nl nt 12) (a_nl nt 12).length))), some (.inl (nI (a_nl nt 12).length)), none, none], [], (n, w, imr c U f)) Q) (d : Nat) : ∀ (e : Nat), e + d = (a_nl nt 12).length → mt_T cd_MD_concludeIfDone 4 ([some (.inr (some c)), some (.inl (bI (a_hl op (a_nl nt 12) e))), some (.inl (nI e)), none, none], [], (n, w, imr c U f)) Q := by
  have hlen := nl_len (nt := nt) 12
  induction d with
  | zero =>
    intro e hd
    have hd : e = (a_nl nt 12).length := hd
    subst hd
    rw [k_MD_concludeIfDone_4]
    simp only [mt_kk, mt_l0, lget, lput, mt_pop, g_nil, g_const, g_null, g_iload, g_aload, g_istore, g_astore, g_iinc, g_add, g_sub, g_mul, g_and, g_xor, g_div, g_rem, g_dup, g_dup2, g_pop, g_get, g_putI, g_putZ, g_putA, g_iald, g_zald, g_iast, g_zast, g_aald, g_aast, g_alen, g_new, g_newI, g_newA, g_objinit, l_fall, l_ifeq, l_ifne, l_iflt, l_ifge, l_ifgt, l_ifle, l_iceq, l_icne, l_iclt, l_icge, l_icgt, l_icle, l_nullN, l_nullS, l_nonnullN, l_nonnullS, l_acne, l_callV, l_callI, l_callS, l_ret, l_iret, l_zret, l_aret, l_after, List.length_cons, List.length_nil, Nat.reduceAdd, Nat.reduceLT, Nat.reduceLeDiff, Nat.reduceEqDiff, and_self, and_true, true_and, if_true, if_false, reduceIte, ite_true, ite_false, beq_self_eq_true, Nat.zero_add, Option.toList_some, Option.toList_none, List.cons_append, List.nil_append, gj_0, gj_1, gj_2, gj_3, gj_4, gj_5, gj_6, gj_7, gj_8, gj_9, gj_10, gj_11, gj_12, gj_13, gj_14, gj_15, gj_16, gj_17, gj_18, gj_19, gj_20, gj_21, gj_22, gj_23, gj_24, gj_25, gj_26, gj_27, pj_4, pj_5, pj_9, pj_10, pj_11, pj_12, pj_19, pj_20, pj_26, ij_1, ij_2, ij_3, ij_4, ij_5, ij_6, ij_7, ij_8, ij_9, ij_10, ij_11, ij_12, ij_13, ij_14, ij_15, ij_16, ij_17, ij_18, ij_19, vf_1, vf_2, vf_3, vf_4, vf_5, vf_6, vf_7, vf_8, vf_9, vf_10, vf_11, vf_12, vf_13, vf_14, vf_15, vf_16, vf_17, vf_18, vf_19, sj, h.1, eq_true (Int32.le_refl (nI (a_nl nt 12).length))]
    exact hq
  | succ d ih =>
    intro e hd
    have hkl : e < (a_nl nt 12).length := by omega
    have hx := mt_ix_nI (j := e) (n := 12) (by omega) (by decide)
    have h5 := ho e _ (nl_getD hkl)
    have h6 := ih (e + 1) (by omega)
    simp only [a_hl] at h6
    rw [k_MD_concludeIfDone_4]
    cases hl : a_hl op (a_nl nt 12) e with
    | false =>
      rw [hl, Bool.false_and] at h6
      simp only [k_MD_concludeIfDone_12, k_MD_concludeIfDone_29, k_MD_concludeIfDone_30, mt_kk, mt_l0, lget, lput, mt_pop, g_nil, g_const, g_null, g_iload, g_aload, g_istore, g_astore, g_iinc, g_add, g_sub, g_mul, g_and, g_xor, g_div, g_rem, g_dup, g_dup2, g_pop, g_get, g_putI, g_putZ, g_putA, g_iald, g_zald, g_iast, g_zast, g_aald, g_aast, g_alen, g_new, g_newI, g_newA, g_objinit, l_fall, l_ifeq, l_ifne, l_iflt, l_ifge, l_ifgt, l_ifle, l_iceq, l_icne, l_iclt, l_icge, l_icgt, l_icle, l_nullN, l_nullS, l_nonnullN, l_nonnullS, l_acne, l_callV, l_callI, l_callS, l_ret, l_iret, l_zret, l_aret, l_after, List.length_cons, List.length_nil, Nat.reduceAdd, Nat.reduceLT, Nat.reduceLeDiff, Nat.reduceEqDiff, and_self, and_true, true_and, if_true, if_false, reduceIte, ite_true, ite_false, beq_self_eq_true, Nat.zero_add, Option.toList_some, Option.toList_none, List.cons_append, List.nil_append, gj_0, gj_1, gj_2, gj_3, gj_4, gj_5, gj_6, gj_7, gj_8, gj_9, gj_10, gj_11, gj_12, gj_13, gj_14, gj_15, gj_16, gj_17, gj_18, gj_19, gj_20, gj_21, gj_22, gj_23, gj_24, gj_25, gj_26, gj_27, pj_4, pj_5, pj_9, pj_10, pj_11, pj_12, pj_19, pj_20, pj_26, ij_1, ij_2, ij_3, ij_4, ij_5, ij_6, ij_7, ij_8, ij_9, ij_10, ij_11, ij_12, ij_13, ij_14, ij_15, ij_16, ij_17, ij_18, ij_19, vf_1, vf_2, vf_3, vf_4, vf_5, vf_6, vf_7, vf_8, vf_9, vf_10, vf_11, vf_12, vf_13, vf_14, vf_15, vf_16, vf_17, vf_18, vf_19, sj, h.1, eq_false (nI_ge hkl (show (a_nl nt 12).length < 2 ^ 31 by omega)), bI_f, e_0, nI_add]
      exact h6
    | true =>
      rw [hl, Bool.true_and] at h6
      cases hop : op ((a_nl nt 12).getD e 0) with
      | true =>
        rw [hop] at h5 h6
        simp only [k_MD_concludeIfDone_12, k_MD_concludeIfDone_16, k_MD_concludeIfDone_29, k_MD_concludeIfDone_30, mt_kk, mt_l0, lget, lput, mt_pop, g_nil, g_const, g_null, g_iload, g_aload, g_istore, g_astore, g_iinc, g_add, g_sub, g_mul, g_and, g_xor, g_div, g_rem, g_dup, g_dup2, g_pop, g_get, g_putI, g_putZ, g_putA, g_iald, g_zald, g_iast, g_zast, g_aald, g_aast, g_alen, g_new, g_newI, g_newA, g_objinit, l_fall, l_ifeq, l_ifne, l_iflt, l_ifge, l_ifgt, l_ifle, l_iceq, l_icne, l_iclt, l_icge, l_icgt, l_icle, l_nullN, l_nullS, l_nonnullN, l_nonnullS, l_acne, l_callV, l_callI, l_callS, l_ret, l_iret, l_zret, l_aret, l_after, List.length_cons, List.length_nil, Nat.reduceAdd, Nat.reduceLT, Nat.reduceLeDiff, Nat.reduceEqDiff, and_self, and_true, true_and, if_true, if_false, reduceIte, ite_true, ite_false, beq_self_eq_true, Nat.zero_add, Option.toList_some, Option.toList_none, List.cons_append, List.nil_append, gj_0, gj_1, gj_2, gj_3, gj_4, gj_5, gj_6, gj_7, gj_8, gj_9, gj_10, gj_11, gj_12, gj_13, gj_14, gj_15, gj_16, gj_17, gj_18, gj_19, gj_20, gj_21, gj_22, gj_23, gj_24, gj_25, gj_26, gj_27, pj_4, pj_5, pj_9, pj_10, pj_11, pj_12, pj_19, pj_20, pj_26, ij_1, ij_2, ij_3, ij_4, ij_5, ij_6, ij_7, ij_8, ij_9, ij_10, ij_11, ij_12, ij_13, ij_14, ij_15, ij_16, ij_17, ij_18, ij_19, vf_1, vf_2, vf_3, vf_4, vf_5, vf_6, vf_7, vf_8, vf_9, vf_10, vf_11, vf_12, vf_13, vf_14, vf_15, vf_16, vf_17, vf_18, vf_19, sj, h.1, eq_false (nI_ge hkl (show (a_nl nt 12).length < 2 ^ 31 by omega)), bI_t, e_1, hx, h5, nI_add]
        exact h6
      | false =>
        rw [hop] at h5 h6
        simp only [k_MD_concludeIfDone_12, k_MD_concludeIfDone_16, k_MD_concludeIfDone_25, k_MD_concludeIfDone_30, mt_kk, mt_l0, lget, lput, mt_pop, g_nil, g_const, g_null, g_iload, g_aload, g_istore, g_astore, g_iinc, g_add, g_sub, g_mul, g_and, g_xor, g_div, g_rem, g_dup, g_dup2, g_pop, g_get, g_putI, g_putZ, g_putA, g_iald, g_zald, g_iast, g_zast, g_aald, g_aast, g_alen, g_new, g_newI, g_newA, g_objinit, l_fall, l_ifeq, l_ifne, l_iflt, l_ifge, l_ifgt, l_ifle, l_iceq, l_icne, l_iclt, l_icge, l_icgt, l_icle, l_nullN, l_nullS, l_nonnullN, l_nonnullS, l_acne, l_callV, l_callI, l_callS, l_ret, l_iret, l_zret, l_aret, l_after, List.length_cons, List.length_nil, Nat.reduceAdd, Nat.reduceLT, Nat.reduceLeDiff, Nat.reduceEqDiff, and_self, and_true, true_and, if_true, if_false, reduceIte, ite_true, ite_false, beq_self_eq_true, Nat.zero_add, Option.toList_some, Option.toList_none, List.cons_append, List.nil_append, gj_0, gj_1, gj_2, gj_3, gj_4, gj_5, gj_6, gj_7, gj_8, gj_9, gj_10, gj_11, gj_12, gj_13, gj_14, gj_15, gj_16, gj_17, gj_18, gj_19, gj_20, gj_21, gj_22, gj_23, gj_24, gj_25, gj_26, gj_27, pj_4, pj_5, pj_9, pj_10, pj_11, pj_12, pj_19, pj_20, pj_26, ij_1, ij_2, ij_3, ij_4, ij_5, ij_6, ij_7, ij_8, ij_9, ij_10, ij_11, ij_12, ij_13, ij_14, ij_15, ij_16, ij_17, ij_18, ij_19, vf_1, vf_2, vf_3, vf_4, vf_5, vf_6, vf_7, vf_8, vf_9, vf_10, vf_11, vf_12, vf_13, vf_14, vf_15, vf_16, vf_17, vf_18, vf_19, sj, h.1, eq_false (nI_ge hkl (show (a_nl nt 12).length < 2 ^ 31 by omega)), bI_t, bI_f, e_1, e_0, hx, h5, nI_add]
        exact h6
theorem x_mcon {U : v_N} {z : a_Z} {y : a_S} (h : dR U z) (hy : z.2.2.2.2.2 = some y) (hen : y.2.2.1 = true) (ho : ∀ k, y.2.2.2.2.1 k = true → (y.2.2.2.1 k).isSome = true) (h2 : ∀ k, (y.2.2.2.1 k).isSome = true → k < 12) : mt_P sm_MD_concludeIfDone [.inr (some c)] (n, w, imr c U f) (d_Qv n w c f (z_co z y)) := by
  have hs := h.2.2.2.2.2
  rw [hy] at hs
  obtain ⟨s1, s2, s3, s4, s5, s6, s7, s8, s9⟩ := hs
  refine mt_P_of ?_
  simp only [k_MD_concludeIfDone_0, mt_kk, mt_l0, lget, lput, mt_pop, g_nil, g_const, g_null, g_iload, g_aload, g_istore, g_astore, g_iinc, g_add, g_sub, g_mul, g_and, g_xor, g_div, g_rem, g_dup, g_dup2, g_pop, g_get, g_putI, g_putZ, g_putA, g_iald, g_zald, g_iast, g_zast, g_aald, g_aast, g_alen, g_new, g_newI, g_newA, g_objinit, l_fall, l_ifeq, l_ifne, l_iflt, l_ifge, l_ifgt, l_ifle, l_iceq, l_icne, l_iclt, l_icge, l_icgt, l_icle, l_nullN, l_nullS, l_nonnullN, l_nonnullS, l_acne, l_callV, l_callI, l_callS, l_ret, l_iret, l_zret, l_aret, l_after, List.length_cons, List.length_nil, Nat.reduceAdd, Nat.reduceLT, Nat.reduceLeDiff, Nat.reduceEqDiff, and_self, and_true, true_and, if_true, if_false, reduceIte, ite_true, ite_false, beq_self_eq_true, Nat.zero_add, Option.toList_some, Option.toList_none, List.cons_append, List.nil_append, gj_0, gj_1, gj_2, gj_3, gj_4, gj_5, gj_6, gj_7, gj_8, gj_9, gj_10, gj_11, gj_12, gj_13, gj_14, gj_15, gj_16, gj_17, gj_18, gj_19, gj_20, gj_21, gj_22, gj_23, gj_24, gj_25, gj_26, gj_27, pj_4, pj_5, pj_9, pj_10, pj_11, pj_12, pj_19, pj_20, pj_26, ij_1, ij_2, ij_3, ij_4, ij_5, ij_6, ij_7, ij_8, ij_9, ij_10, ij_11, ij_12, ij_13, ij_14, ij_15, ij_16, ij_17, ij_18, ij_19, vf_1, vf_2, vf_3, vf_4, vf_5, vf_6, vf_7, vf_8, vf_9, vf_10, vf_11, vf_12, vf_13, vf_14, vf_15, vf_16, vf_17, vf_18, vf_19, sj]
  refine lp_done s6 (s7 hen) _ ?_ (a_nl y.2.2.2.1 12).length 0 (by omega)
  rw [hl_ho ho h2]
  unfold z_co
  cases hop : a_ho y.2.2.2.2.1 12 with
  | true =>
    simp only [k_MD_concludeIfDone_37, k_MD_concludeIfDone_41, mt_kk, mt_l0, lget, lput, mt_pop, g_nil, g_const, g_null, g_iload, g_aload, g_istore, g_astore, g_iinc, g_add, g_sub, g_mul, g_and, g_xor, g_div, g_rem, g_dup, g_dup2, g_pop, g_get, g_putI, g_putZ, g_putA, g_iald, g_zald, g_iast, g_zast, g_aald, g_aast, g_alen, g_new, g_newI, g_newA, g_objinit, l_fall, l_ifeq, l_ifne, l_iflt, l_ifge, l_ifgt, l_ifle, l_iceq, l_icne, l_iclt, l_icge, l_icgt, l_icle, l_nullN, l_nullS, l_nonnullN, l_nonnullS, l_acne, l_callV, l_callI, l_callS, l_ret, l_iret, l_zret, l_aret, l_after, List.length_cons, List.length_nil, Nat.reduceAdd, Nat.reduceLT, Nat.reduceLeDiff, Nat.reduceEqDiff, and_self, and_true, true_and, if_true, if_false, reduceIte, ite_true, ite_false, beq_self_eq_true, Nat.zero_add, Option.toList_some, Option.toList_none, List.cons_append, List.nil_append, gj_0, gj_1, gj_2, gj_3, gj_4, gj_5, gj_6, gj_7, gj_8, gj_9, gj_10, gj_11, gj_12, gj_13, gj_14, gj_15, gj_16, gj_17, gj_18, gj_19, gj_20, gj_21, gj_22, gj_23, gj_24, gj_25, gj_26, gj_27, pj_4, pj_5, pj_9, pj_10, pj_11, pj_12, pj_19, pj_20, pj_26, ij_1, ij_2, ij_3, ij_4, ij_5, ij_6, ij_7, ij_8, ij_9, ij_10, ij_11, ij_12, ij_13, ij_14, ij_15, ij_16, ij_17, ij_18, ij_19, vf_1, vf_2, vf_3, vf_4, vf_5, vf_6, vf_7, vf_8, vf_9, vf_10, vf_11, vf_12, vf_13, vf_14, vf_15, vf_16, vf_17, vf_18, vf_19, sj, Bool.not_true, bI_f, e_0]
    refine ⟨U, rfl, ?_⟩
    obtain ⟨a1, a2, a3, a4, a5, a6⟩ := h
    rw [hy] at a6
    exact ⟨a1, a2, a3, a4, a5, a6⟩
  | false =>
    simp only [k_MD_concludeIfDone_37, k_MD_concludeIfDone_42, mt_kk, mt_l0, lget, lput, mt_pop, g_nil, g_const, g_null, g_iload, g_aload, g_istore, g_astore, g_iinc, g_add, g_sub, g_mul, g_and, g_xor, g_div, g_rem, g_dup, g_dup2, g_pop, g_get, g_putI, g_putZ, g_putA, g_iald, g_zald, g_iast, g_zast, g_aald, g_aast, g_alen, g_new, g_newI, g_newA, g_objinit, l_fall, l_ifeq, l_ifne, l_iflt, l_ifge, l_ifgt, l_ifle, l_iceq, l_icne, l_iclt, l_icge, l_icgt, l_icle, l_nullN, l_nullS, l_nonnullN, l_nonnullS, l_acne, l_callV, l_callI, l_callS, l_ret, l_iret, l_zret, l_aret, l_after, List.length_cons, List.length_nil, Nat.reduceAdd, Nat.reduceLT, Nat.reduceLeDiff, Nat.reduceEqDiff, and_self, and_true, true_and, if_true, if_false, reduceIte, ite_true, ite_false, beq_self_eq_true, Nat.zero_add, Option.toList_some, Option.toList_none, List.cons_append, List.nil_append, gj_0, gj_1, gj_2, gj_3, gj_4, gj_5, gj_6, gj_7, gj_8, gj_9, gj_10, gj_11, gj_12, gj_13, gj_14, gj_15, gj_16, gj_17, gj_18, gj_19, gj_20, gj_21, gj_22, gj_23, gj_24, gj_25, gj_26, gj_27, pj_4, pj_5, pj_9, pj_10, pj_11, pj_12, pj_19, pj_20, pj_26, ij_1, ij_2, ij_3, ij_4, ij_5, ij_6, ij_7, ij_8, ij_9, ij_10, ij_11, ij_12, ij_13, ij_14, ij_15, ij_16, ij_17, ij_18, ij_19, vf_1, vf_2, vf_3, vf_4, vf_5, vf_6, vf_7, vf_8, vf_9, vf_10, vf_11, vf_12, vf_13, vf_14, vf_15, vf_16, vf_17, vf_18, vf_19, sj, Bool.not_false, bI_t, e_1, Bool.false_eq_true]
    refine mt_call (x_finA h) ?_
    rintro r ⟨U1, rfl, h1⟩
    simp only [k_MD_concludeIfDone_46, mt_kk, mt_l0, lget, lput, mt_pop, g_nil, g_const, g_null, g_iload, g_aload, g_istore, g_astore, g_iinc, g_add, g_sub, g_mul, g_and, g_xor, g_div, g_rem, g_dup, g_dup2, g_pop, g_get, g_putI, g_putZ, g_putA, g_iald, g_zald, g_iast, g_zast, g_aald, g_aast, g_alen, g_new, g_newI, g_newA, g_objinit, l_fall, l_ifeq, l_ifne, l_iflt, l_ifge, l_ifgt, l_ifle, l_iceq, l_icne, l_iclt, l_icge, l_icgt, l_icle, l_nullN, l_nullS, l_nonnullN, l_nonnullS, l_acne, l_callV, l_callI, l_callS, l_ret, l_iret, l_zret, l_aret, l_after, List.length_cons, List.length_nil, Nat.reduceAdd, Nat.reduceLT, Nat.reduceLeDiff, Nat.reduceEqDiff, and_self, and_true, true_and, if_true, if_false, reduceIte, ite_true, ite_false, beq_self_eq_true, Nat.zero_add, Option.toList_some, Option.toList_none, List.cons_append, List.nil_append, gj_0, gj_1, gj_2, gj_3, gj_4, gj_5, gj_6, gj_7, gj_8, gj_9, gj_10, gj_11, gj_12, gj_13, gj_14, gj_15, gj_16, gj_17, gj_18, gj_19, gj_20, gj_21, gj_22, gj_23, gj_24, gj_25, gj_26, gj_27, pj_4, pj_5, pj_9, pj_10, pj_11, pj_12, pj_19, pj_20, pj_26, ij_1, ij_2, ij_3, ij_4, ij_5, ij_6, ij_7, ij_8, ij_9, ij_10, ij_11, ij_12, ij_13, ij_14, ij_15, ij_16, ij_17, ij_18, ij_19, vf_1, vf_2, vf_3, vf_4, vf_5, vf_6, vf_7, vf_8, vf_9, vf_10, vf_11, vf_12, vf_13, vf_14, vf_15, vf_16, vf_17, vf_18, vf_19, sj]
    refine lp_con (z := z_fl z) (y := y) hy _ (fun U2 h3 => ⟨U2, rfl, h3⟩) _ 12 0 U1 _ _ (by omega) ?_
    have e : z_dn (z_fl z) y 0 = ((z_fl z).2.2.1, (z_fl z).2.2.2.2.1) := by
      unfold z_dn
      split <;> rfl
    rw [e]
    obtain ⟨a1, a2, a3, a4, a5, a6⟩ := h1
    have a6 : tR U1 (some y) := by rw [← hy]; exact a6
    exact ⟨a1, a2, a3, a4, a5, a6⟩
end MD
