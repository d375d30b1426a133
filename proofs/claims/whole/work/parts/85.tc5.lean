/-! The class: signatures, entries. -/
/-- the items of the message at o -/
def iT (V : v_N) (o : Nat) (l : List Nat) : Prop := V o 6 = nI l.length ∧ ∀ j, j < l.length → V (o + 1) j = nI (l.getD j 0)
theorem iT_add {V : v_N} {o c : Nat} {l : List Nat} (h : iT V o l) : iT (vu (vu V (o + 1) l.length (nI c)) o 6 (nI (l.length + 1))) o (l ++ [c]) := by
  refine ⟨?_, fun j hj => ?_⟩
  · rw [vu_same, List.length_append]; rfl
  · rw [up_ne (by omega), gd_app]
    by_cases hc : j = l.length
    · subst hc
      rw [vu_same, if_pos rfl]
    · rw [vu_slot hc, if_neg hc]
      rw [List.length_append] at hj
      simp only [List.length_cons, List.length_nil] at hj
      exact h.2 j (by omega)
theorem sg_len {g : Nat → Nat} {blk att : Nat} : ∀ (k : Nat), (a_sg g blk att k).length = k
  | 0 => rfl
  | k + 1 => by simp only [a_sg, List.length_append, sg_len k, List.length_cons, List.length_nil]
section TC
variable {n w b : Nat} {f : Nat → Option m_E}
theorem lp_sig {V0 : v_N} {mo o nm blk att : Nat} {l : List Nat} (hm : kd mo = 8) (hm1 : kd (mo + 1) = 9) (hmo : mo + 1 < 188) (ho : kd o = 16) (hi : iR (o + 1)) (hne : mo ≠ 0 ∧ mo ≠ o ∧ mo ≠ o + 1 ∧ mo ≠ o + 1 + 1 ∧ mo + 1 ≠ o ∧ mo + 1 ≠ o + 1 ∧ mo + 1 ≠ o + 1 + 1) (hr : rR V0 (o + 1) l) (hby : a_by l) (hb0 : V0 0 11 = nI blk) (hb1 : 1 ≤ blk) (hb8 : blk ≤ 8) (hat : att ≤ 2) (Q : m_R → Prop) (hq : ∀ V1, iT V1 mo (a_sg (fun j => l.getD j 0) blk att (l.length / blk)) → (∀ k, k ≠ 6 → V1 mo k = V0 mo k) → ch V0 V1 (fun q => q = mo ∨ q = mo + 1) → Q (none, (n, w, img b V1 f))) (d : Nat) : ∀ (i : Nat) (V : v_N), i + d = l.length / blk → iT V mo (a_sg (fun j => l.getD j 0) blk att i) → (∀ k, k ≠ 6 → V mo k = V0 mo k) → ch V0 V (fun q => q = mo ∨ q = mo + 1) → mt_T cd_TC_sendSignature 58 ([some (.inr (some b)), some (.inl (nI nm)), some (.inl (nI att)), some (.inr (some (b + o))), some (.inr (some (b + mo))), some (.inl (nI (l.length / blk))), some (.inl (nI i))], [], (n, w, img b V f)) Q := by
  have hle : l.length / blk ≤ l.length := Nat.div_le_self _ _
  have h40 := hby.1
  induction d with
  | zero =>
    intro i V hd h1 h2 h3
    have hd : i = l.length / blk := hd
    subst hd
    simp only [k_TC_sendSignature_58, k_TC_sendSignature_95, mt_kk, mt_l0, lget, lput, fnth, fset, gf, gi, ga, mt_is, mt_pop, g_nil, g_const, g_null, g_iload, g_aload, g_istore, g_astore, g_iinc, g_add, g_sub, g_mul, g_and, g_xor, g_div, g_rem, g_dup, g_dup2, g_pop, g_get, g_putI, g_putZ, g_putA, g_iald, g_zald, g_iast, g_zast, g_aald, g_aast, g_alen, g_new, g_newI, g_newA, g_objinit, l_fall, l_ifeq, l_ifne, l_iflt, l_ifge, l_ifgt, l_ifle, l_iceq, l_icne, l_iclt, l_icge, l_icgt, l_icle, l_nullN, l_nullS, l_nonnullN, l_nonnullS, l_acne, l_callV, l_callI, l_callS, l_ret, l_iret, l_zret, l_aret, l_after, List.length_cons, List.length_nil, Nat.reduceAdd, Nat.reduceLT, Nat.reduceLeDiff, Nat.reduceEqDiff, and_self, and_true, true_and, if_true, if_false, reduceIte, ite_true, ite_false, beq_self_eq_true, Nat.zero_add, Option.toList_some, Option.toList_none, List.cons_append, List.nil_append, eq_true (Int32.le_refl (nI (l.length / blk)))]
    exact hq V h1 h2 h3
  | succ d ih =>
    intro i V hd h1 h2 h3
    have hr2 : rR V (o + 1) l := rR_congr (h3 _ (by omega)) (h3 _ (by omega)) hr
    have e1 : (nI (l.length / blk) ≤ nI i) = False := eq_false (nI_ge (by omega) (by omega))
    have e0 : V 0 11 = nI blk := by rw [h3 0 (by omega)]; exact hb0
    have hlt : i * blk + blk ≤ l.length := by
      have hA : (i + 1) * blk ≤ l.length / blk * blk := Nat.mul_le_mul_right _ (by omega)
      have hB : l.length / blk * blk ≤ l.length := Nat.div_mul_le_self _ _
      rw [Nat.add_mul, Nat.one_mul] at hA
      omega
    have h1' : V mo 6 = nI i := by rw [h1.1, sg_len]
    have ho' : o < 188 := Nat.lt_of_succ_lt (iR0 hi)
    rw [k_TC_sendSignature_58]
    simp only [k_TC_sendSignature_65, k_TC_sendSignature_86, k_TC_sendSignature_89, mt_kk, mt_l0, lget, lput, fnth, fset, gf, gi, ga, mt_is, mt_pop, g_nil, g_const, g_null, g_iload, g_aload, g_istore, g_astore, g_iinc, g_add, g_sub, g_mul, g_and, g_xor, g_div, g_rem, g_dup, g_dup2, g_pop, g_get, g_putI, g_putZ, g_putA, g_iald, g_zald, g_iast, g_zast, g_aald, g_aast, g_alen, g_new, g_newI, g_newA, g_objinit, l_fall, l_ifeq, l_ifne, l_iflt, l_ifge, l_ifgt, l_ifle, l_iceq, l_icne, l_iclt, l_icge, l_icgt, l_icle, l_nullN, l_nullS, l_nonnullN, l_nonnullS, l_acne, l_callV, l_callI, l_callS, l_ret, l_iret, l_zret, l_aret, l_after, List.length_cons, List.length_nil, Nat.reduceAdd, Nat.reduceLT, Nat.reduceLeDiff, Nat.reduceEqDiff, and_self, and_true, true_and, if_true, if_false, reduceIte, ite_true, ite_false, beq_self_eq_true, Nat.zero_add, Option.toList_some, Option.toList_none, List.cons_append, List.nil_append, e1, if_0, e0, im_Sf ho' ho, im_Ro (iR0 hi) hi.1, pk_mul, x_sums hi hr2 h40 hby.2 hlt hb8 hat, im_Ms (Nat.lt_of_succ_lt hmo) hm, x_addItem hm hm1 hmo h1' (show i < 40 by omega), nI_add]
    have h9 := iT_add (c := sw (fun j => l.getD (i * blk + j) 0) blk att) h1
    rw [sg_len] at h9
    refine ih (i + 1) _ (by omega) h9 (fun k hk => ?_) (ch_u (ch_u h3 (Or.inr rfl)) (Or.inl rfl))
    rw [vu_slot hk, up_ne (by omega)]
    exact h2 k hk
theorem x_sig {V : v_N} {fs : Nat → a_F} {l0 : List a_M} {k blk att : Nat} (hk : k < 12) (hf : fR V (104 + 3 * (12 + k)) (fs (12 + k))) (hb0 : V 0 11 = nI blk) (hb1 : 1 ≤ blk) (hb8 : blk ≤ 8) (hat : att ≤ 2) (hl : lR V 6 l0) (hlen : l0.length < 13) : mt_P sm_TC_sendSignature [.inr (some b), .inl (nI k), .inl (nI att)] (n, w, img b V f) (fun r => ∃ V1, r = (none, (n, w, img b V1 f)) ∧ lR V1 6 (l0 ++ [a_sm fs blk k att]) ∧ ch V V1 (fun q => 6 ≤ q ∧ q < 34)) := by
  obtain ⟨k1, k2, k3, k4, k5, k6⟩ := kd_file (12 + k) (by omega)
  have hir := iR_file (p := 12 + k) (by omega)
  obtain ⟨hr, h40⟩ := fR_row hf
  have hby := a_by_row hf
  obtain ⟨p, hP, hc⟩ := lP_of hl
  have hpm := Nat.mod_lt (p + l0.length) (show 0 < 13 by decide)
  obtain ⟨m1, m2, m3, m4⟩ := iL_ms (o := 6) (Or.inl rfl) hpm
  generalize hx : fs (12 + k) = x at hf hr h40 hby
  generalize hmo : 6 + 1 + 1 + 2 * ((p + l0.length) % 13) = mo at m1 m2 m3 m4
  have happ := x_Li_append (n := n) (w := w) (b := b) (f := f) (k := nI 3) (nm := nI k) (Or.inl rfl) hP.1 hlen hP.2.1 hc
  rw [hmo] at happ
  have hdiv := pk_div (a := (a_row x).length) (d := blk) (by omega) (by omega) (by omega)
  have e1 : (nI 1 ≤ nI blk) = True := eq_true (nI_le hb1 (by omega))
  have e2 : (nI blk = 0) = False := eq_false (nI_ne0 (by omega) (by omega))
  have g11 : vu (vu (vu (vu (vu V mo 0 (nI 3)) mo 1 (nI k)) mo 6 (nI 0)) 6 2 (nI (l0.length + 1))) mo 4 (nI att) 0 11 = nI blk := by
    rw [up_ne (by omega), up_ne (by omega), up_ne (by omega), up_ne (by omega), up_ne (by omega)]; exact hb0
  have gl : vu (vu (vu (vu (vu V mo 0 (nI 3)) mo 1 (nI k)) mo 6 (nI 0)) 6 2 (nI (l0.length + 1))) mo 4 (nI att) (104 + 3 * (12 + k) + 1) 1 = nI (a_row x).length := by
    rw [up_ne (by omega), up_ne (by omega), up_ne (by omega), up_ne (by omega), up_ne (by omega)]; exact hr.1
  refine mt_P_of ?_
  simp only [k_TC_sendSignature_0, k_TC_sendSignature_6, k_TC_sendSignature_12, mt_kk, mt_l0, lget, lput, fnth, fset, gf, gi, ga, mt_is, mt_pop, g_nil, g_const, g_null, g_iload, g_aload, g_istore, g_astore, g_iinc, g_add, g_sub, g_mul, g_and, g_xor, g_div, g_rem, g_dup, g_dup2, g_pop, g_get, g_putI, g_putZ, g_putA, g_iald, g_zald, g_iast, g_zast, g_aald, g_aast, g_alen, g_new, g_newI, g_newA, g_objinit, l_fall, l_ifeq, l_ifne, l_iflt, l_ifge, l_ifgt, l_ifle, l_iceq, l_icne, l_iclt, l_icge, l_icgt, l_icle, l_nullN, l_nullS, l_nonnullN, l_nonnullS, l_acne, l_callV, l_callI, l_callS, l_ret, l_iret, l_zret, l_aret, l_after, List.length_cons, List.length_nil, Nat.reduceAdd, Nat.reduceLT, Nat.reduceLeDiff, Nat.reduceEqDiff, and_self, and_true, true_and, if_true, if_false, reduceIte, ite_true, ite_false, beq_self_eq_true, Nat.zero_add, Option.toList_some, Option.toList_none, List.cons_append, List.nil_append, if_0, if_6, x_slot1 hk, happ]
  simp only [k_TC_sendSignature_21, k_TC_sendSignature_41, k_TC_sendSignature_53, mt_kk, mt_l0, lget, lput, fnth, fset, gf, gi, ga, mt_is, mt_pop, g_nil, g_const, g_null, g_iload, g_aload, g_istore, g_astore, g_iinc, g_add, g_sub, g_mul, g_and, g_xor, g_div, g_rem, g_dup, g_dup2, g_pop, g_get, g_putI, g_putZ, g_putA, g_iald, g_zald, g_iast, g_zast, g_aald, g_aast, g_alen, g_new, g_newI, g_newA, g_objinit, l_fall, l_ifeq, l_ifne, l_iflt, l_ifge, l_ifgt, l_ifle, l_iceq, l_icne, l_iclt, l_icge, l_icgt, l_icle, l_nullN, l_nullS, l_nonnullN, l_nonnullS, l_acne, l_callV, l_callI, l_callS, l_ret, l_iret, l_zret, l_aret, l_after, List.length_cons, List.length_nil, Nat.reduceAdd, Nat.reduceLT, Nat.reduceLeDiff, Nat.reduceEqDiff, and_self, and_true, true_and, if_true, if_false, reduceIte, ite_true, ite_false, beq_self_eq_true, Nat.zero_add, Option.toList_some, Option.toList_none, List.cons_append, List.nil_append, if_0, im_Ms m2 m1, pf_Ms_4 m2 m1, g11, gl, e1, e2, im_Sf k2 k1, im_Ro k4 k3, hdiv]
  refine lp_sig (V0 := vu (vu (vu (vu (vu V mo 0 (nI 3)) mo 1 (nI k)) mo 6 (nI 0)) 6 2 (nI (l0.length + 1))) mo 4 (nI att)) m1 m3 m4 k1 hir ⟨by omega, by omega, by omega, by omega, by omega, by omega, by omega⟩ (rR_congr ?_ ?_ hr) hby g11 hb1 hb8 hat _ (fun V1 h1 h2 h3 => ⟨V1, rfl, ?_, ?_⟩) ((a_row x).length / blk) 0 _ (by omega) ⟨?_, fun j hj => by cases hj⟩ (fun _ _ => rfl) ch_0
  · rw [vu_off (by omega), vu_off (by omega), vu_off (by omega), vu_off (by omega), vu_off (by omega)]
  · rw [vu_off (by omega), vu_off (by omega), vu_off (by omega), vu_off (by omega), vu_off (by omega)]
  · rw [vu_slot (by decide), up_ne (by omega), vu_same]; rfl
  · rw [← hmo] at h1 h2 h3
    refine lR_new (m := a_sm fs blk k att) hP hlen ?_ ?_ ?_ ⟨?_, ?_, fun e => (by cases e), fun _ => ⟨?_, ?_, ?_, ?_⟩, fun e => (by cases e)⟩
    · rw [h3 6 (by omega), up_ne (by omega), vu_slot (by decide), up_ne (by omega), up_ne (by omega), up_ne (by omega)]
    · rw [h3 6 (by omega), up_ne (by omega), vu_same]
    · intro q q1 q2 q3 q4
      rw [h3 q (by omega), vu_off q3, vu_off (by omega), vu_off q3, vu_off q3, vu_off q3]
    · rw [h2 0 (by decide), vu_slot (by decide), up_ne (by omega), vu_slot (by decide), vu_slot (by decide), vu_same]; rfl
    · rw [h2 1 (by decide), vu_slot (by decide), up_ne (by omega), vu_slot (by decide), vu_same]; rfl
    · rw [h2 4 (by decide), vu_same]; rfl
    · show _ = nI (a_sg _ blk att _).length
      rw [hx]; exact h1.1
    · show (a_sg _ blk att _).length ≤ 40
      rw [sg_len, hx]; exact Nat.le_trans (Nat.div_le_self _ _) h40
    · show ∀ j, j < (a_sg _ blk att _).length → _ = nI ((a_sg _ blk att _).getD j 0)
      rw [hx]; exact h1.2
  · intro q hq
    rw [h3 q (by omega), vu_off (by omega), vu_off (by omega), vu_off (by omega), vu_off (by omega), vu_off (by omega)]
theorem x_note {V : v_N} {mo k : Nat} {num wh : Int32} {q0 : Bool} {x : Option (Int32 × Int32)} (hm : kd mo = 8) (hmo : mo < 176) (hk : k < 12) (h1 : V mo 1 = nI k) (h2 : V mo 2 = num) (h3 : V mo 3 = wh) (he : eR V (176 + k) x q0) : mt_P sm_TC_noteEntry [.inr (some b), .inr (some (b + mo))] (n, w, img b V f) (fun r => ∃ V1, r = (none, (n, w, img b V1 f)) ∧ eR V1 (176 + k) (some (num, wh)) q0 ∧ ch V V1 (fun q => q = 176 + k)) := by
  obtain ⟨k1, k2⟩ := kd_entry k hk
  have hm2 : mo < 188 := by omega
  refine mt_P_of ?_
  simp only [k_TC_noteEntry_0, k_TC_noteEntry_8, k_TC_noteEntry_13, k_TC_noteEntry_34, mt_kk, mt_l0, lget, lput, fnth, fset, gf, gi, ga, mt_is, mt_pop, g_nil, g_const, g_null, g_iload, g_aload, g_istore, g_astore, g_iinc, g_add, g_sub, g_mul, g_and, g_xor, g_div, g_rem, g_dup, g_dup2, g_pop, g_get, g_putI, g_putZ, g_putA, g_iald, g_zald, g_iast, g_zast, g_aald, g_aast, g_alen, g_new, g_newI, g_newA, g_objinit, l_fall, l_ifeq, l_ifne, l_iflt, l_ifge, l_ifgt, l_ifle, l_iceq, l_icne, l_iclt, l_icge, l_icgt, l_icle, l_nullN, l_nullS, l_nonnullN, l_nonnullS, l_acne, l_callV, l_callI, l_callS, l_ret, l_iret, l_zret, l_aret, l_after, List.length_cons, List.length_nil, Nat.reduceAdd, Nat.reduceLT, Nat.reduceLeDiff, Nat.reduceEqDiff, and_self, and_true, true_and, if_true, if_false, reduceIte, ite_true, ite_false, beq_self_eq_true, Nat.zero_add, Option.toList_some, Option.toList_none, List.cons_append, List.nil_append, if_0, im_Ms hm2 hm, h1, x_entryOf hk, im_En k2 k1, pf_En_0 k2 k1, pf_En_2 k2 k1, pf_En_3 k2 k1, z_1, up_ne (show mo ≠ 176 + k by omega), h2, h3]
  refine ⟨_, rfl, ⟨?_, ?_, fun y hy => ?_⟩, ch_u (ch_u (ch_u ch_0 rfl) rfl) rfl⟩
  · rw [vu_slot (by decide), vu_slot (by decide), vu_same]; rfl
  · rw [vu_slot (by decide), vu_slot (by decide), vu_slot (by decide)]; exact he.2.1
  · cases hy
    exact ⟨by rw [vu_slot (by decide), vu_same], by rw [vu_same]⟩
theorem x_fail {V : v_N} {k : Nat} (hk : k < 12) : sm_TC_failEntry [.inr (some b), .inl (nI k)] (n, w, img b V f) = some (none, (n, w, img b (vu (vu V (176 + k) 1 (nI 0)) 103 3 (V 103 3 + nI 1)) f)) := by
  obtain ⟨k1, k2⟩ := kd_entry k hk
  have hx := mt_ix_nI (j := 3) (n := 8) (by decide) (by decide)
  refine mt_sem_eq ?_
  simp only [k_TC_failEntry_0, k_TC_failEntry_5, k_TC_failEntry_10, k_TC_failEntry_25, mt_kk, mt_l0, lget, lput, fnth, fset, gf, gi, ga, mt_is, mt_pop, g_nil, g_const, g_null, g_iload, g_aload, g_istore, g_astore, g_iinc, g_add, g_sub, g_mul, g_and, g_xor, g_div, g_rem, g_dup, g_dup2, g_pop, g_get, g_putI, g_putZ, g_putA, g_iald, g_zald, g_iast, g_zast, g_aald, g_aast, g_alen, g_new, g_newI, g_newA, g_objinit, l_fall, l_ifeq, l_ifne, l_iflt, l_ifge, l_ifgt, l_ifle, l_iceq, l_icne, l_iclt, l_icge, l_icgt, l_icle, l_nullN, l_nullS, l_nonnullN, l_nonnullS, l_acne, l_callV, l_callI, l_callS, l_ret, l_iret, l_zret, l_aret, l_after, List.length_cons, List.length_nil, Nat.reduceAdd, Nat.reduceLT, Nat.reduceLeDiff, Nat.reduceEqDiff, and_self, and_true, true_and, if_true, if_false, reduceIte, ite_true, ite_false, beq_self_eq_true, Nat.zero_add, Option.toList_some, Option.toList_none, List.cons_append, List.nil_append, if_0, x_entryOf hk, im_En k2 k1, pf_En_1 k2 k1, z_0, if_103, hx, uf_103, up_ne (show 103 ≠ 176 + k by omega)]
theorem lp_open {V : v_N} {op : Nat → Bool} (he : ∀ k, k < 12 → V (176 + k) 1 = bI (op k)) (Q : m_R → Prop) (hq : Q (some (.inl (bI (a_ho op 12))), (n, w, img b V f))) (d : Nat) : ∀ (i : Nat), i + d = 12 → a_ho op i = false → mt_T cd_TC_hasOpenEntry 2 ([some (.inr (some b)), some (.inl (nI i))], [], (n, w, img b V f)) Q := by
  induction d with
  | zero =>
    intro i hd h1
    have hd : i = 12 := hd
    subst hd
    rw [h1] at hq
    simp only [k_TC_hasOpenEntry_2, k_TC_hasOpenEntry_28, mt_kk, mt_l0, lget, lput, fnth, fset, gf, gi, ga, mt_is, mt_pop, g_nil, g_const, g_null, g_iload, g_aload, g_istore, g_astore, g_iinc, g_add, g_sub, g_mul, g_and, g_xor, g_div, g_rem, g_dup, g_dup2, g_pop, g_get, g_putI, g_putZ, g_putA, g_iald, g_zald, g_iast, g_zast, g_aald, g_aast, g_alen, g_new, g_newI, g_newA, g_objinit, l_fall, l_ifeq, l_ifne, l_iflt, l_ifge, l_ifgt, l_ifle, l_iceq, l_icne, l_iclt, l_icge, l_icgt, l_icle, l_nullN, l_nullS, l_nonnullN, l_nonnullS, l_acne, l_callV, l_callI, l_callS, l_ret, l_iret, l_zret, l_aret, l_after, List.length_cons, List.length_nil, Nat.reduceAdd, Nat.reduceLT, Nat.reduceLeDiff, Nat.reduceEqDiff, and_self, and_true, true_and, if_true, if_false, reduceIte, ite_true, ite_false, beq_self_eq_true, Nat.zero_add, Option.toList_some, Option.toList_none, List.cons_append, List.nil_append, eq_true (Int32.le_refl (nI 12)), z_0]
    exact hq
  | succ d ih =>
    intro i hd h1
    have hi : i < 12 := by omega
    obtain ⟨k1, k2⟩ := kd_entry i hi
    have hx := mt_ix_nI (j := i) (n := 12) hi (by decide)
    rw [k_TC_hasOpenEntry_2]
    cases ho : op i with
    | false =>
      simp only [k_TC_hasOpenEntry_8, k_TC_hasOpenEntry_22, mt_kk, mt_l0, lget, lput, fnth, fset, gf, gi, ga, mt_is, mt_pop, g_nil, g_const, g_null, g_iload, g_aload, g_istore, g_astore, g_iinc, g_add, g_sub, g_mul, g_and, g_xor, g_div, g_rem, g_dup, g_dup2, g_pop, g_get, g_putI, g_putZ, g_putA, g_iald, g_zald, g_iast, g_zast, g_aald, g_aast, g_alen, g_new, g_newI, g_newA, g_objinit, l_fall, l_ifeq, l_ifne, l_iflt, l_ifge, l_ifgt, l_ifle, l_iceq, l_icne, l_iclt, l_icge, l_icgt, l_icle, l_nullN, l_nullS, l_nonnullN, l_nonnullS, l_acne, l_callV, l_callI, l_callS, l_ret, l_iret, l_zret, l_aret, l_after, List.length_cons, List.length_nil, Nat.reduceAdd, Nat.reduceLT, Nat.reduceLeDiff, Nat.reduceEqDiff, and_self, and_true, true_and, if_true, if_false, reduceIte, ite_true, ite_false, beq_self_eq_true, Nat.zero_add, Option.toList_some, Option.toList_none, List.cons_append, List.nil_append, eq_false (nI_ge hi (show 12 < 2 ^ 31 by decide)), if_0, if_62, hx, hi, im_En k2 k1, he i hi, ho, bI_f, e_0, nI_add]
      refine ih (i + 1) (by omega) ?_
      simp only [a_ho, h1, ho, Bool.or_false]
    | true =>
      have h12 : a_ho op 12 = true := by
        have hgen : ∀ m, i < m → a_ho op m = true := by
          intro m
          induction m with
          | zero => intro h; omega
          | succ m ihm =>
            intro h
            by_cases e : i = m
            · subst e; simp only [a_ho, ho, Bool.or_true]
            · simp only [a_ho, ihm (by omega), Bool.true_or]
        exact hgen 12 hi
      rw [h12] at hq
      simp only [k_TC_hasOpenEntry_8, k_TC_hasOpenEntry_20, mt_kk, mt_l0, lget, lput, fnth, fset, gf, gi, ga, mt_is, mt_pop, g_nil, g_const, g_null, g_iload, g_aload, g_istore, g_astore, g_iinc, g_add, g_sub, g_mul, g_and, g_xor, g_div, g_rem, g_dup, g_dup2, g_pop, g_get, g_putI, g_putZ, g_putA, g_iald, g_zald, g_iast, g_zast, g_aald, g_aast, g_alen, g_new, g_newI, g_newA, g_objinit, l_fall, l_ifeq, l_ifne, l_iflt, l_ifge, l_ifgt, l_ifle, l_iceq, l_icne, l_iclt, l_icge, l_icgt, l_icle, l_nullN, l_nullS, l_nonnullN, l_nonnullS, l_acne, l_callV, l_callI, l_callS, l_ret, l_iret, l_zret, l_aret, l_after, List.length_cons, List.length_nil, Nat.reduceAdd, Nat.reduceLT, Nat.reduceLeDiff, Nat.reduceEqDiff, and_self, and_true, true_and, if_true, if_false, reduceIte, ite_true, ite_false, beq_self_eq_true, Nat.zero_add, Option.toList_some, Option.toList_none, List.cons_append, List.nil_append, eq_false (nI_ge hi (show 12 < 2 ^ 31 by decide)), if_0, if_62, hx, hi, im_En k2 k1, he i hi, ho, bI_t, e_1, z_1]
      exact hq
theorem x_hasOpen {V : v_N} {op : Nat → Bool} (he : ∀ k, k < 12 → V (176 + k) 1 = bI (op k)) : sm_TC_hasOpenEntry [.inr (some b)] (n, w, img b V f) = some (some (.inl (bI (a_ho op 12))), (n, w, img b V f)) := by
  refine mt_sem_eq ?_
  simp only [k_TC_hasOpenEntry_0, mt_kk, mt_l0, lget, lput, fnth, fset, gf, gi, ga, mt_is, mt_pop, g_nil, g_const, g_null, g_iload, g_aload, g_istore, g_astore, g_iinc, g_add, g_sub, g_mul, g_and, g_xor, g_div, g_rem, g_dup, g_dup2, g_pop, g_get, g_putI, g_putZ, g_putA, g_iald, g_zald, g_iast, g_zast, g_aald, g_aast, g_alen, g_new, g_newI, g_newA, g_objinit, l_fall, l_ifeq, l_ifne, l_iflt, l_ifge, l_ifgt, l_ifle, l_iceq, l_icne, l_iclt, l_icge, l_icgt, l_icle, l_nullN, l_nullS, l_nonnullN, l_nonnullS, l_acne, l_callV, l_callI, l_callS, l_ret, l_iret, l_zret, l_aret, l_after, List.length_cons, List.length_nil, Nat.reduceAdd, Nat.reduceLT, Nat.reduceLeDiff, Nat.reduceEqDiff, and_self, and_true, true_and, if_true, if_false, reduceIte, ite_true, ite_false, beq_self_eq_true, Nat.zero_add, Option.toList_some, Option.toList_none, List.cons_append, List.nil_append]
  exact lp_open he (fun x => x = _) rfl 12 0 (by omega) rfl
end TC
