/-! The class: deliver. What a session keeps true, and what a delivery does. -/
def y_m3 (nt : Nat → Option (Int32 × Int32)) (m : a_M) : Prop := m.1 = 3 ∧ m.2.1 < 12 ∧ (m.2.2.1 = 1 ∨ m.2.2.1 = 2) ∧ (nt m.2.1).isSome = true ∧ (∀ x ∈ m.2.2.2.2.2, x < 2 ^ 25) ∧ m.2.2.2.2.2.length ≤ 40
def y_m4 (blk : Nat) (nt : Nat → Option (Int32 × Int32)) (m : a_M) : Prop := m.2.1 < 12 ∧ (nt m.2.1).isSome = true ∧ (m.1 = 5 ∨ m.1 = 4 ∧ (m.2.2.1 = 1 ∨ m.2.2.1 = 2) ∧ (∀ x ∈ m.2.2.2.2.2, x < 1000) ∧ a_sz blk m.2.2.2.2.2 ≤ 40 ∧ m.2.2.2.2.2.length ≤ 40)
def y_m1 (nt : Nat → Option (Int32 × Int32)) (m : a_M) : Prop := m.1 = 1 ∧ m.2.1 < 12 ∧ m.2.2.1 = 0 ∧ m.2.2.2.2.2 = [] ∧ ∀ k, (nt k).isSome = true → k < m.2.1
def y_ok (y : a_S) : Prop := (∀ k, (y.2.2.2.1 k).isSome = true → k < 12) ∧ (∀ k, y.2.2.2.2.1 k = true → (y.2.2.2.1 k).isSome = true) ∧
  (y.2.2.1 = false → y.2.2.2.2.2.1 = [] ∧ (∀ k, y.2.2.2.2.1 k = false) ∧ ∃ es : List a_M, y.2.2.2.2.2.2 = es ++ [a_end] ∧ es.length ≤ 12 ∧ (∀ m ∈ es, y_m1 y.2.2.2.1 m) ∧ es.Pairwise (fun a c => a.2.1 < c.2.1)) ∧
  (y.2.2.1 = true → y.2.2.2.2.2.1.length + y.2.2.2.2.2.2.length ≤ 12 ∧ (∀ m ∈ y.2.2.2.2.2.1, y_m3 y.2.2.2.1 m) ∧ ∀ m ∈ y.2.2.2.2.2.2, y_m4 y.1 y.2.2.2.1 m)
/-- a session concludes where nothing is open -/
def z_co (z : a_Z) (y : a_S) : a_Z := if a_ho y.2.2.2.2.1 12 = true then (z.1, z.2.1, z.2.2.1, z.2.2.2.1, z.2.2.2.2.1, some y) else z_cc z y
/-- a delta has come: journal, counts, what is open, what goes to the sender -/
def s_d4 (z : a_Z) (y : a_S) (m : a_M) : a_J × (Nat → Int32) × (Nat → Bool) × List a_M :=
  if dg (fun i => (a_rb (a_row (z.2.2.1 (12 + m.2.1))) y.1 [] m.2.2.2.2.2).getD i 0) (a_rb (a_row (z.2.2.1 (12 + m.2.1))) y.1 [] m.2.2.2.2.2).length = m.2.2.2.1 then (some (m.2.1, a_rb (a_row (z.2.2.1 (12 + m.2.1))) y.1 [] m.2.2.2.2.2, (match y.2.2.2.1 m.2.1 with
    | some u => u.2
    | none => 0)), z.2.2.2.2.1, va_up y.2.2.2.2.1 m.2.1 false, y.2.2.2.2.2.1)
  else if m.2.2.1 = 1 then (z.2.2.2.1, a_bp z.2.2.2.2.1 2, y.2.2.2.2.1, y.2.2.2.2.2.1 ++ [a_sm z.2.2.1 y.1 m.2.1 2])
  else (z.2.2.2.1, a_bp z.2.2.2.2.1 3, va_up y.2.2.2.2.1 m.2.1 false, y.2.2.2.2.2.1)
def s_e2 (z : a_Z) (y : a_S) : (Nat → Bool) × List a_M × (Nat → Int32) := a_op z.2.2.1 y.1 y.2.2.2.1 (y.2.2.2.2.1, y.2.2.2.2.2.1, z.2.2.2.2.1) 12
def z_s (z : a_Z) (jr : a_J) (ct : Nat → Int32) (y : a_S) : a_Z := (z.1, z.2.1, z.2.2.1, jr, ct, some y)
def s_rc (z : a_Z) (y : a_S) (m : a_M) : a_Z :=
  if m.1 = 1 then z_s z z.2.2.2.1 z.2.2.2.2.1 (y.1, y.2.1, y.2.2.1, va_up y.2.2.2.1 m.2.1 (some (m.2.2.2.1, m.2.2.2.2.1)), y.2.2.2.2)
  else if m.1 = 2 then z_co (z_s z z.2.2.2.1 (s_e2 z y).2.2 (y.1, y.2.1, true, y.2.2.2.1, (s_e2 z y).1, (s_e2 z y).2.1, y.2.2.2.2.2.2)) (y.1, y.2.1, true, y.2.2.2.1, (s_e2 z y).1, (s_e2 z y).2.1, y.2.2.2.2.2.2)
  else if m.1 = 4 then z_co (z_s z (s_d4 z y m).1 (s_d4 z y m).2.1 (y.1, y.2.1, y.2.2.1, y.2.2.2.1, (s_d4 z y m).2.2.1, (s_d4 z y m).2.2.2, y.2.2.2.2.2.2)) (y.1, y.2.1, y.2.2.1, y.2.2.2.1, (s_d4 z y m).2.2.1, (s_d4 z y m).2.2.2, y.2.2.2.2.2.2)
  else z_co (z_s z z.2.2.2.1 (a_bp z.2.2.2.2.1 3) (y.1, y.2.1, y.2.2.1, y.2.2.2.1, va_up y.2.2.2.2.1 m.2.1 false, y.2.2.2.2.2)) (y.1, y.2.1, y.2.2.1, y.2.2.2.1, va_up y.2.2.2.2.1 m.2.1 false, y.2.2.2.2.2)
def s_dv (z : a_Z) (k : Int32) : Int32 × a_Z := match z.2.2.2.2.2 with
  | none => (nI 0, z)
  | some y => if k = nI 0 then (match y.2.2.2.2.2.1 with
      | [] => (nI 0, z)
      | m :: t => (nI m.1, z_s z z.2.2.2.1 (a_ac z.2.2.1 z.2.2.2.2.1 y.1 m) (y.1, y.2.1, y.2.2.1, y.2.2.2.1, y.2.2.2.2.1, t, y.2.2.2.2.2.2 ++ [a_an z.2.2.1 y.1 m])))
    else if k = nI 1 then (match y.2.2.2.2.2.2 with
      | [] => (nI 0, z)
      | m :: t => (nI m.1, s_rc (z_fl z) (y.1, y.2.1, y.2.2.1, y.2.2.2.1, y.2.2.2.2.1, y.2.2.2.2.2.1, t) m))
    else (nI 0, z)
theorem rb_len {old : List Nat} {blk : Nat} : ∀ (items acc : List Nat), (a_rb old blk acc items).length ≤ acc.length + a_sz blk items
  | [], acc => Nat.le_refl _
  | x :: t, acc => by
    have h := rb_len (old := old) (blk := blk) t (acc ++ (if x < 256 then [x] else a_rb1 old ((x - 256) * blk) blk))
    have h1 := rb1_len (old := old) (p := (x - 256) * blk) blk
    simp only [a_rb, a_sz]
    rw [List.length_append] at h
    split at h
    · rename_i hc
      rw [if_pos hc]
      simp only [List.length_cons, List.length_nil] at h
      simp only [if_pos hc]
      omega
    · rename_i hc
      rw [if_neg hc]
      simp only [if_neg hc]
      omega
theorem rb1_by {old : List Nat} (h : ∀ x ∈ old, x < 256) {p : Nat} : ∀ (m : Nat), ∀ x ∈ a_rb1 old p m, x < 256
  | 0, x, hx => by cases hx
  | m + 1, x, hx => by
    simp only [a_rb1] at hx
    rcases List.mem_append.mp hx with h1 | h1
    · exact rb1_by h m x h1
    · split at h1
      · rename_i hc
        rw [List.mem_singleton] at h1
        rw [h1, List.getD_eq_getElem?_getD, List.getElem?_eq_getElem hc]
        exact h _ (List.getElem_mem _)
      · cases h1
theorem rb_by {old : List Nat} (h : ∀ x ∈ old, x < 256) {blk : Nat} : ∀ (items acc : List Nat), (∀ x ∈ acc, x < 256) → ∀ x ∈ a_rb old blk acc items, x < 256
  | [], acc, ha, x, hx => ha x hx
  | y :: t, acc, ha, x, hx => by
    simp only [a_rb] at hx
    refine rb_by h t _ (fun u hu => ?_) x hx
    rcases List.mem_append.mp hu with h1 | h1
    · exact ha u h1
    · split at h1
      · rename_i hc
        rw [List.mem_singleton] at h1
        rw [h1]; exact hc
      · exact rb1_by h blk u h1
section TC
variable {n w b : Nat} {f : Nat → Option m_E}
/-- lines, list, journal and counts have changed -/
theorem cR_new {V V1 : v_N} {z : a_Z} {y : a_S} {jr : a_J} {ct : Nat → Int32} {en : Bool} {nt : Nat → Option (Int32 × Int32)} {op : Nat → Bool} {l0 l1 : List a_M} (h : cR V z) (hy : z.2.2.2.2.2 = some y) (h0 : V1 0 = V 0) (hk : ∀ q, 2 ≤ q ∧ q < 6 ∨ 104 ≤ q ∧ q < 176 → V1 q = V q) (hj : jR V1 jr) (hc : ∀ k, k < 8 → V1 103 k = ct k) (hl0 : lR V1 6 l0) (hl1 : lR V1 34 l1) (he : ∀ k, k < 12 → eR V1 (176 + k) (nt k) (op k)) : cR V1 (z_s z jr ct (y.1, y.2.1, en, nt, op, l0, l1)) := by
  obtain ⟨a1, a2, a3, a4, a5, a6⟩ := h
  rw [hy] at a6
  obtain ⟨s1, s2, s3, s4, s5, s6, s7, s8⟩ := a6
  exact ⟨by rw [h0]; exact a1, uR_congr (fun q q1 q2 => hk q (by omega)) a2, fun i hi => fR_congr (fun q q1 q2 => hk q (by omega)) (a3 i hi), hj, hc, by rw [h0]; exact s1, by rw [h0]; exact s2, s3, s4, by rw [h0]; exact s5, hl0, hl1, he⟩
theorem x_rdelta {V : v_N} {z : a_Z} {y : a_S} {m : a_M} {mo : Nat} (h : cR V z) (hy : z.2.2.2.2.2 = some y) (hjn : z.2.2.2.1 = none) (hmo : 35 < mo ∧ mo + 1 < 62) (hm : kd mo = 8) (hm1 : kd (mo + 1) = 9) (hms : mR V mo m) (hk4 : m.1 = 4) (hm4 : y_m4 y.1 y.2.2.2.1 m) (hl0 : y.2.2.2.2.2.1.length < 13) : mt_P sm_TC_receiveDelta [.inr (some b), .inr (some (b + mo))] (n, w, img b V f) (c_Qv n w b f (z_s z (s_d4 z y m).1 (s_d4 z y m).2.1 (y.1, y.2.1, y.2.2.1, y.2.2.2.1, (s_d4 z y m).2.2.1, (s_d4 z y m).2.2.2, y.2.2.2.2.2.2)) V (fun q => q < 34 ∨ 62 ≤ q)) := by
  obtain ⟨a1, a2, a3, ⟨p, hp, j1, j2⟩, a5, a6⟩ := id h
  rw [hjn] at j2
  have j2 : V 63 2 = nI 0 := j2
  rw [hy] at a6
  obtain ⟨s1, s2, s3, s4, s5, s6, s7, s8⟩ := a6
  obtain ⟨hnm, hns, hm4⟩ := hm4
  obtain ⟨hat, hx, hsz, hbl⟩ : (m.2.2.1 = 1 ∨ m.2.2.1 = 2) ∧ (∀ x ∈ m.2.2.2.2.2, x < 1000) ∧ a_sz y.1 m.2.2.2.2.2 ≤ 40 ∧ m.2.2.2.2.2.length ≤ 40 := by
    rcases hm4 with e | e
    · omega
    · exact e.2
  obtain ⟨mk, mn, -, mb, md⟩ := hms
  obtain ⟨mb1, mb2, mb3, mb4⟩ := mb (Or.inr hk4)
  have md := md hk4
  obtain ⟨q1, q2, q3, q4, q5, q6⟩ := kd_file (12 + m.2.1) (by omega)
  have hir := iR_file (p := 12 + m.2.1) (by omega)
  obtain ⟨k1, k2⟩ := kd_entry m.2.1 hnm
  have hfi := a3 (12 + m.2.1) (by omega)
  obtain ⟨hr, h40⟩ := fR_row hfi
  have hby := fR_by hfi
  have hei := s8 m.2.1 hnm
  obtain ⟨u, hu⟩ := Option.isSome_iff_exists.mp hns
  obtain ⟨hu2, hu3⟩ := hei.2.2 u hu
  have hms2 : mo < 188 := by omega
  refine mt_P_of ?_
  simp only [k_TC_receiveDelta_0, k_TC_receiveDelta_8, k_TC_receiveDelta_18, k_TC_receiveDelta_23, k_TC_receiveDelta_28, mt_kk, mt_l0, lget, lput, fnth, fset, gf, gi, ga, mt_is, mt_pop, g_nil, g_const, g_null, g_iload, g_aload, g_istore, g_astore, g_iinc, g_add, g_sub, g_mul, g_and, g_xor, g_div, g_rem, g_dup, g_dup2, g_pop, g_get, g_putI, g_putZ, g_putA, g_iald, g_zald, g_iast, g_zast, g_aald, g_aast, g_alen, g_new, g_newI, g_newA, g_objinit, l_fall, l_ifeq, l_ifne, l_iflt, l_ifge, l_ifgt, l_ifle, l_iceq, l_icne, l_iclt, l_icge, l_icgt, l_icle, l_nullN, l_nullS, l_nonnullN, l_nonnullS, l_acne, l_callV, l_callI, l_callS, l_ret, l_iret, l_zret, l_aret, l_after, List.length_cons, List.length_nil, Nat.reduceAdd, Nat.reduceLT, Nat.reduceLeDiff, Nat.reduceEqDiff, and_self, and_true, true_and, if_true, if_false, reduceIte, ite_true, ite_false, beq_self_eq_true, Nat.zero_add, Option.toList_some, Option.toList_none, List.cons_append, List.nil_append, if_0, im_Ms hms2 hm, mn, x_entryOf hnm, x_slot1 hnm, im_Sf q2 q1]
  refine mt_call (x_rebuild (items := m.2.2.2.2.2) hm hm1 (by omega) hir (by omega) ⟨mb2, mb4⟩ hr h40 s2 s4 hbl hx hsz) ?_
  rintro r ⟨V1, rfl, g1, g2⟩
  have hrl := rb_len (old := a_row (z.2.2.1 (12 + m.2.1))) (blk := y.1) m.2.2.2.2.2 []
  have hrb := rb_by hby (blk := y.1) m.2.2.2.2.2 [] (fun x hx => by cases hx)
  have hRl : (a_rb (a_row (z.2.2.1 (12 + m.2.1))) y.1 [] m.2.2.2.2.2).length ≤ 40 := by
    rw [List.length_nil] at hrl; omega
  unfold s_d4
  generalize hR : a_rb (a_row (z.2.2.1 (12 + m.2.1))) y.1 [] m.2.2.2.2.2 = R at g1 hrb hRl
  have gg : ∀ q, q ≠ 101 → q ≠ 102 → V1 q = V q := fun q e1 e2 => g2 q (by omega)
  have c5 : V1 mo 5 = m.2.2.2.1 := by rw [gg mo (by omega) (by omega)]; exact md
  have c1 : V1 mo 1 = nI m.2.1 := by rw [gg mo (by omega) (by omega)]; exact mn
  have c4 : V1 mo 4 = nI m.2.2.1 := by rw [gg mo (by omega) (by omega)]; exact mb1
  have ce : V1 (176 + m.2.1) 3 = u.2 := by rw [gg _ (by omega) (by omega)]; exact hu3
  by_cases hd : dg (fun i => R.getD i 0) R.length = m.2.2.2.1
  · simp only [if_pos hd]
    simp only [k_TC_receiveDelta_37, k_TC_receiveDelta_44, k_TC_receiveDelta_51, mt_kk, mt_l0, lget, lput, fnth, fset, gf, gi, ga, mt_is, mt_pop, g_nil, g_const, g_null, g_iload, g_aload, g_istore, g_astore, g_iinc, g_add, g_sub, g_mul, g_and, g_xor, g_div, g_rem, g_dup, g_dup2, g_pop, g_get, g_putI, g_putZ, g_putA, g_iald, g_zald, g_iast, g_zast, g_aald, g_aast, g_alen, g_new, g_newI, g_newA, g_objinit, l_fall, l_ifeq, l_ifne, l_iflt, l_ifge, l_ifgt, l_ifle, l_iceq, l_icne, l_iclt, l_icge, l_icgt, l_icle, l_nullN, l_nullS, l_nonnullN, l_nonnullS, l_acne, l_callV, l_callI, l_callS, l_ret, l_iret, l_zret, l_aret, l_after, List.length_cons, List.length_nil, Nat.reduceAdd, Nat.reduceLT, Nat.reduceLeDiff, Nat.reduceEqDiff, and_self, and_true, true_and, if_true, if_false, reduceIte, ite_true, ite_false, beq_self_eq_true, Nat.zero_add, Option.toList_some, Option.toList_none, List.cons_append, List.nil_append, if_0, if_101, if_63, x_digest iR_rb g1 hRl, im_Ms hms2 hm, c5, c1, hd, im_En k2 k1, ce]
    refine mt_call (x_Jo_append (p := p) hp (by rw [gg 63 (by omega) (by omega)]; exact j1) (by rw [gg 63 (by omega) (by omega)]; exact j2) iR_rb ⟨by omega, by omega, by omega⟩ ⟨by omega, by omega⟩ ⟨by omega, by omega⟩ hRl g1) ?_
    rintro r ⟨V2, rfl, e1, e2, e3, e4, e5, e6⟩
    simp only [k_TC_receiveDelta_70, k_TC_receiveDelta_116, mt_kk, mt_l0, lget, lput, fnth, fset, gf, gi, ga, mt_is, mt_pop, g_nil, g_const, g_null, g_iload, g_aload, g_istore, g_astore, g_iinc, g_add, g_sub, g_mul, g_and, g_xor, g_div, g_rem, g_dup, g_dup2, g_pop, g_get, g_putI, g_putZ, g_putA, g_iald, g_zald, g_iast, g_zast, g_aald, g_aast, g_alen, g_new, g_newI, g_newA, g_objinit, l_fall, l_ifeq, l_ifne, l_iflt, l_ifge, l_ifgt, l_ifle, l_iceq, l_icne, l_iclt, l_icge, l_icgt, l_icle, l_nullN, l_nullS, l_nonnullN, l_nonnullS, l_acne, l_callV, l_callI, l_callS, l_ret, l_iret, l_zret, l_aret, l_after, List.length_cons, List.length_nil, Nat.reduceAdd, Nat.reduceLT, Nat.reduceLeDiff, Nat.reduceEqDiff, and_self, and_true, true_and, if_true, if_false, reduceIte, ite_true, ite_false, beq_self_eq_true, Nat.zero_add, Option.toList_some, Option.toList_none, List.cons_append, List.nil_append, im_En k2 k1, pf_En_1 k2 k1, z_0]
    have gh : ∀ q, q < 63 ∨ 103 ≤ q → q ≠ 176 + m.2.1 → vu V2 (176 + m.2.1) 1 (nI 0) q = V q := fun q hq hq2 => by rw [vu_off hq2, e6 q (by omega), gg q (by omega) (by omega)]
    refine ⟨_, rfl, cR_new h hy (gh 0 (by omega) (by omega)) (fun q hq => gh q (by omega) (by omega)) ?_ (fun k hk => by rw [gh 103 (by omega) (by omega)]; exact a5 k hk) (lR_congr (fun q g3 g4 => gh q (by omega) (by omega)) s6) (lR_congr (fun q g3 g4 => gh q (by omega) (by omega)) s7) (fun k hk => ?_), fun q hq => gh q (by omega) (by omega)⟩
    · refine ⟨p, hp, by rw [up_ne (by omega)]; exact e4, by rw [up_ne (by omega)]; exact e5, hnm, by rw [up_ne (by omega)]; exact e2, ?_, rR_congr (vu_off (by omega)) (vu_off (by omega)) e1, hRl, hrb⟩
      rw [up_ne (by omega), e3, hu]
    · unfold va_up
      by_cases hkk : k = m.2.1
      · subst hkk
        rw [if_pos rfl]
        refine ⟨?_, vu_same, fun y2 hy2 => ?_⟩
        · rw [vu_slot (by decide), e6 _ (by omega), gg _ (by omega) (by omega)]; exact hei.1
        · rw [vu_slot (by decide), vu_slot (by decide), e6 _ (by omega), gg _ (by omega) (by omega)]; exact hei.2.2 y2 hy2
      · rw [if_neg hkk]
        exact eR_congr (gh _ (by omega) (by omega)) (s8 k hk)
  · simp only [if_neg hd]
    have hx2 := mt_ix_nI (j := 2) (n := 8) (by decide) (by decide)
    have e9 := nI_eqE (a := m.2.2.1) (b := 1) (by omega) (by decide)
    by_cases ha : m.2.2.1 = 1
    · simp only [if_pos ha]
      simp only [k_TC_receiveDelta_37, k_TC_receiveDelta_44, k_TC_receiveDelta_78, k_TC_receiveDelta_86, mt_kk, mt_l0, lget, lput, fnth, fset, gf, gi, ga, mt_is, mt_pop, g_nil, g_const, g_null, g_iload, g_aload, g_istore, g_astore, g_iinc, g_add, g_sub, g_mul, g_and, g_xor, g_div, g_rem, g_dup, g_dup2, g_pop, g_get, g_putI, g_putZ, g_putA, g_iald, g_zald, g_iast, g_zast, g_aald, g_aast, g_alen, g_new, g_newI, g_newA, g_objinit, l_fall, l_ifeq, l_ifne, l_iflt, l_ifge, l_ifgt, l_ifle, l_iceq, l_icne, l_iclt, l_icge, l_icgt, l_icle, l_nullN, l_nullS, l_nonnullN, l_nonnullS, l_acne, l_callV, l_callI, l_callS, l_ret, l_iret, l_zret, l_aret, l_after, List.length_cons, List.length_nil, Nat.reduceAdd, Nat.reduceLT, Nat.reduceLeDiff, Nat.reduceEqDiff, and_self, and_true, true_and, if_true, if_false, reduceIte, ite_true, ite_false, beq_self_eq_true, Nat.zero_add, Option.toList_some, Option.toList_none, List.cons_append, List.nil_append, if_0, if_101, if_103, x_digest iR_rb g1 hRl, im_Ms hms2 hm, c5, c4, e9, ha, hd, hx2, uf_103, up_ne (show mo ≠ 103 by omega), c1]
      refine mt_call (x_sig (fs := z.2.2.1) (blk := y.1) (att := 2) (l0 := y.2.2.2.2.2.1) hnm (fR_congr (fun q g3 g4 => by rw [vu_off (by omega), gg q (by omega) (by omega)]) hfi) (by rw [up_ne (by omega), gg 0 (by omega) (by omega)]; exact s2) s3 s4 (by decide) (lR_congr (fun q g3 g4 => by rw [vu_off (by omega), gg q (by omega) (by omega)]) s6) hl0) ?_
      rintro r ⟨V2, rfl, e1, e2⟩
      simp only [k_TC_receiveDelta_105, k_TC_receiveDelta_116, mt_kk, mt_l0, lget, lput, fnth, fset, gf, gi, ga, mt_is, mt_pop, g_nil, g_const, g_null, g_iload, g_aload, g_istore, g_astore, g_iinc, g_add, g_sub, g_mul, g_and, g_xor, g_div, g_rem, g_dup, g_dup2, g_pop, g_get, g_putI, g_putZ, g_putA, g_iald, g_zald, g_iast, g_zast, g_aald, g_aast, g_alen, g_new, g_newI, g_newA, g_objinit, l_fall, l_ifeq, l_ifne, l_iflt, l_ifge, l_ifgt, l_ifle, l_iceq, l_icne, l_iclt, l_icge, l_icgt, l_icle, l_nullN, l_nullS, l_nonnullN, l_nonnullS, l_acne, l_callV, l_callI, l_callS, l_ret, l_iret, l_zret, l_aret, l_after, List.length_cons, List.length_nil, Nat.reduceAdd, Nat.reduceLT, Nat.reduceLeDiff, Nat.reduceEqDiff, and_self, and_true, true_and, if_true, if_false, reduceIte, ite_true, ite_false, beq_self_eq_true, Nat.zero_add, Option.toList_some, Option.toList_none, List.cons_append, List.nil_append]
      have gh : ∀ q, q < 6 ∨ 34 ≤ q → q ≠ 101 → q ≠ 102 → q ≠ 103 → V2 q = V q := fun q hq e3 e4 e5 => by rw [e2 q (by omega), vu_off e5, gg q e3 e4]
      refine ⟨V2, rfl, cR_new h hy (gh 0 (by omega) (by omega) (by omega) (by omega)) (fun q hq => gh q (by omega) (by omega) (by omega) (by omega)) ?_ ?_ e1 (lR_congr (fun q g3 g4 => gh q (by omega) (by omega) (by omega) (by omega)) s7) (fun k hk => eR_congr (gh _ (by omega) (by omega) (by omega) (by omega)) (s8 k hk)), fun q hq => gh q (by omega) (by omega) (by omega) (by omega)⟩
      · exact jR_congr (fun q g3 g4 => gh q (by omega) (by omega) (by omega) (by omega)) h.2.2.2.1
      · have h8 := ct_bp (j := 2) (V1 := V1) (ct := z.2.2.2.2.1) (by decide) (fun k hk => by rw [gg 103 (by omega) (by omega)]; exact a5 k hk)
        intro k hk
        rw [e2 103 (by omega)]
        exact h8 k hk
    · simp only [if_neg ha]
      simp only [k_TC_receiveDelta_37, k_TC_receiveDelta_44, k_TC_receiveDelta_78, k_TC_receiveDelta_108, k_TC_receiveDelta_116, mt_kk, mt_l0, lget, lput, fnth, fset, gf, gi, ga, mt_is, mt_pop, g_nil, g_const, g_null, g_iload, g_aload, g_istore, g_astore, g_iinc, g_add, g_sub, g_mul, g_and, g_xor, g_div, g_rem, g_dup, g_dup2, g_pop, g_get, g_putI, g_putZ, g_putA, g_iald, g_zald, g_iast, g_zast, g_aald, g_aast, g_alen, g_new, g_newI, g_newA, g_objinit, l_fall, l_ifeq, l_ifne, l_iflt, l_ifge, l_ifgt, l_ifle, l_iceq, l_icne, l_iclt, l_icge, l_icgt, l_icle, l_nullN, l_nullS, l_nonnullN, l_nonnullS, l_acne, l_callV, l_callI, l_callS, l_ret, l_iret, l_zret, l_aret, l_after, List.length_cons, List.length_nil, Nat.reduceAdd, Nat.reduceLT, Nat.reduceLeDiff, Nat.reduceEqDiff, and_self, and_true, true_and, if_true, if_false, reduceIte, ite_true, ite_false, beq_self_eq_true, Nat.zero_add, Option.toList_some, Option.toList_none, List.cons_append, List.nil_append, if_0, if_101, x_digest iR_rb g1 hRl, im_Ms hms2 hm, c5, c4, e9, ha, hd, c1, x_fail hnm]
      have gh : ∀ q, q ≠ 101 → q ≠ 102 → q ≠ 103 → q ≠ 176 + m.2.1 → vu (vu V1 (176 + m.2.1) 1 (nI 0)) 103 3 (V1 103 3 + nI 1) q = V q := fun q e3 e4 e5 e6 => by rw [vu_off e5, vu_off e6, gg q e3 e4]
      refine ⟨_, rfl, cR_new h hy (gh 0 (by omega) (by omega) (by omega) (by omega)) (fun q hq => gh q (by omega) (by omega) (by omega) (by omega)) ?_ ?_ (lR_congr (fun q g3 g4 => gh q (by omega) (by omega) (by omega) (by omega)) s6) (lR_congr (fun q g3 g4 => gh q (by omega) (by omega) (by omega) (by omega)) s7) (fun k hk => ?_), fun q hq => gh q (by omega) (by omega) (by omega) (by omega)⟩
      · exact jR_congr (fun q g3 g4 => gh q (by omega) (by omega) (by omega) (by omega)) h.2.2.2.1
      · have h8 := ct_bp (j := 3) (V1 := vu V1 (176 + m.2.1) 1 (nI 0)) (ct := z.2.2.2.2.1) (by decide) (fun k hk => by rw [up_ne (by omega), gg 103 (by omega) (by omega)]; exact a5 k hk)
        rw [up_ne (by omega)] at h8
        exact h8
      · unfold va_up
        by_cases hkk : k = m.2.1
        · subst hkk
          rw [if_pos rfl]
          refine ⟨?_, ?_, fun y2 hy2 => ?_⟩
          · rw [up_ne (by omega), vu_slot (by decide), gg _ (by omega) (by omega)]; exact hei.1
          · rw [up_ne (by omega), vu_same]; rfl
          · exact ⟨by rw [up_ne (by omega), vu_slot (by decide), gg _ (by omega) (by omega)]; exact (hei.2.2 y2 hy2).1, by rw [up_ne (by omega), vu_slot (by decide), gg _ (by omega) (by omega)]; exact (hei.2.2 y2 hy2).2⟩
        · rw [if_neg hkk]
          exact eR_congr (gh _ (by omega) (by omega) (by omega) (by omega)) (s8 k hk)
end TC
