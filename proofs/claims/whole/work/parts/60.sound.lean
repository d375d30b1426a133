/-! The small machine over the kit: what its memory is in the heap, and that each of its ops is sound at its instruction. -/
def lw_good : List Cond := lw_tbl.filter goodWord
theorem lw_good_ok {w : Cond} (h : w ∈ lw_good) : (w.onTables && w.keeps) = true ∨ ∃ ty, w = .arrayClass ty := by
  have h2 := (List.mem_filter.mp h).2
  unfold goodWord at h2
  split at h2
  · exact Or.inr ⟨_, rfl⟩
  · exact Or.inl h2
def tv : m_V → Value
  | .inl x => .int x
  | .inr r => va_rf r
theorem tv_cat (x : m_V) : (tv x).category = 1 := by
  cases x with
  | inl _ => rfl
  | inr r => cases r <;> rfl
def te (ca : Nat → ClassId) : m_E → va_E
  | .inl (c, fs) => .inr (c, fs.map tv)
  | .inr (t, n, .inl f) => .inl (ca t, n, .inl f)
  | .inr (t, n, .inr f) => .inl (ca t, n, .inr (.inr (.inr (.inr f))))
def tm (ca : Nat → ClassId) (f : Nat → Option m_E) : Nat → va_E := fun a => match f a with
  | some e => te ca e
  | none => .inr (0, [])
theorem tm_at {ca : Nat → ClassId} {f : Nat → Option m_E} {a : Nat} {e : m_E} (h : f a = some e) : tm ca f a = te ca e := by
  unfold tm
  rw [h]
theorem tm_up {ca : Nat → ClassId} {f : Nat → Option m_E} {a : Nat} {e : m_E} : tm ca (va_up f a (some e)) = va_up (tm ca f) a (te ca e) := by
  funext b
  unfold tm va_up
  by_cases h : b = a
  · simp [h]
  · simp [h]
def mt_rg (b0 n : Nat) : List Nat := List.range' b0 (n - b0)
def mt_ws (ca : Nat → ClassId) (b0 : Nat) (M : m_M) : va_W := va_pl (mt_rg b0 M.1) (tm ca M.2.2)
def mt_A (b0 : Nat) : Nat → Prop := fun q => b0 ≤ q
def mt_wf (b0 : Nat) (M : m_M) : Prop := ∀ (a : Nat) (e : m_E), M.2.2 a = some e → b0 ≤ a ∧ a < M.1
theorem mt_mem {b0 n a : Nat} : a ∈ mt_rg b0 n ↔ b0 ≤ a ∧ a < n := by
  unfold mt_rg
  rw [List.mem_range'_1]
  omega
theorem mt_push {b0 n : Nat} (h : b0 ≤ n) : mt_rg b0 (n + 1) = mt_rg b0 n ++ [n] := by
  unfold mt_rg
  rw [show n + 1 - b0 = (n - b0) + 1 by omega, List.range'_concat]
  congr 2
  omega
theorem mt_at {ca : Nat → ClassId} {b0 i : Nat} {M : m_M} {q : Nat × va_E} (h : (mt_ws ca b0 M)[i]? = some q) : q.1 = b0 + i ∧ b0 ≤ q.1 ∧ q.1 < M.1 := by
  unfold mt_ws va_pl at h
  rw [List.getElem?_map] at h
  cases hb : (mt_rg b0 M.1)[i]? with
  | none => rw [hb] at h; cases h
  | some a =>
    rw [hb] at h
    have h' : (a, tm ca M.2.2 a) = q := Option.some.inj h
    subst h'
    unfold mt_rg at hb
    obtain ⟨hl, he⟩ := List.getElem?_eq_some_iff.mp hb
    rw [List.getElem_range'] at he
    rw [List.length_range'] at hl
    refine ⟨?_, ?_, ?_⟩
    · show a = b0 + i
      omega
    · show b0 ≤ a
      omega
    · show a < M.1
      omega
theorem mt_D (ca : Nat → ClassId) (b0 : Nat) (M : m_M) : va_D (mt_A b0) (mt_ws ca b0 M) := by
  refine ⟨fun i j p q hi hj hpq => ?_, fun k q hk => (mt_at hk).2.1⟩
  have h1 := (mt_at hi).1
  have h2 := (mt_at hj).1
  omega
theorem mt_pl {ca : Nat → ClassId} {b0 a : Nat} {M : m_M} {e : m_E} (hw : mt_wf b0 M) (h : M.2.2 a = some e) : ∃ k : Nat, (mt_ws ca b0 M)[k]? = some (a, te ca e) := by
  obtain ⟨k, hk⟩ := va_pl_get (X := []) (f := tm ca M.2.2) (mt_mem.mpr (hw a e h))
  rw [tm_at h] at hk
  exact ⟨k, hk⟩
theorem mt_set {ca : Nat → ClassId} {b0 a k : Nat} {M : m_M} {e0 e : m_E} (hw : mt_wf b0 M) (h : M.2.2 a = some e0) (hk : (mt_ws ca b0 M)[k]? = some (a, te ca e0)) : (mt_ws ca b0 M).set k (a, te ca e) = mt_ws ca b0 (mup M a e) := by
  have hk2 : ([] ++ va_pl (mt_rg b0 M.1) (tm ca M.2.2))[k]? = some (a, tm ca M.2.2 a) := by
    rw [tm_at h]
    exact hk
  have h3 := va_pl_set (X := []) (e := te ca e) (mt_D ca b0 M) (mt_mem.mpr (hw a e0 h)) hk2
  show (va_pl (mt_rg b0 M.1) (tm ca M.2.2)).set k (a, te ca e) = va_pl (mt_rg b0 M.1) (tm ca (va_up M.2.2 a (some e)))
  rw [tm_up]
  exact h3
theorem mt_new {ca : Nat → ClassId} {b0 w : Nat} {M : m_M} {e : m_E} (h : b0 ≤ M.1) : mt_ws ca b0 M ++ [(M.1, te ca e)] = mt_ws ca b0 (mnew M w e) := by
  show va_pl (mt_rg b0 M.1) (tm ca M.2.2) ++ [(M.1, te ca e)] = va_pl (mt_rg b0 (M.1 + 1)) (tm ca (va_up M.2.2 M.1 (some e)))
  rw [mt_push h, tm_up]
  exact va_pl_push (fun q => by have := (mt_mem.mp q).2; omega)
theorem wf_up {b0 a : Nat} {M : m_M} {e0 e : m_E} (hw : mt_wf b0 M) (h : M.2.2 a = some e0) : mt_wf b0 (mup M a e) := by
  intro b e1 h1
  by_cases hb : b = a
  · subst hb
    exact hw _ _ h
  · have h2 : M.2.2 b = some e1 := by
      simp only [mup, va_up, hb, if_false] at h1
      exact h1
    exact hw _ _ h2
theorem wf_new {b0 w : Nat} {M : m_M} {e : m_E} (hw : mt_wf b0 M) (h : b0 ≤ M.1) : mt_wf b0 (mnew M w e) := by
  intro b e1 h1
  by_cases hb : b = M.1
  · subst hb
    exact ⟨h, Nat.lt_succ_self _⟩
  · have h2 : M.2.2 b = some e1 := by
      simp only [mnew, va_up, hb, if_false] at h1
      exact h1
    have h3 := hw _ _ h2
    exact ⟨h3.1, Nat.lt_succ_of_lt h3.2⟩
-- locals
def ml : Nat → List (Option m_V) → List (Nat × Value)
  | _, [] => []
  | i, none :: t => ml (i + 1) t
  | i, some x :: t => (i, tv x) :: ml (i + 1) t
theorem ml_mem {q : Nat × Value} : ∀ {L : List (Option m_V)} {i : Nat}, q ∈ ml i L → ∃ (j : Nat) (x : m_V), q = (i + j, tv x) ∧ lget L j = some x
  | [], i, h => by cases h
  | none :: t, i, h => by
    obtain ⟨j, x, h1, h2⟩ := ml_mem (L := t) (i := i + 1) h
    exact ⟨j + 1, x, by rw [h1, Nat.add_assoc, Nat.add_comm 1 j], h2⟩
  | some y :: t, i, h => by
    rcases List.mem_cons.mp h with h | h
    · exact ⟨0, y, h, rfl⟩
    · obtain ⟨j, x, h1, h2⟩ := ml_mem (L := t) (i := i + 1) h
      exact ⟨j + 1, x, by rw [h1, Nat.add_assoc, Nat.add_comm 1 j], h2⟩
theorem ml_in {x : m_V} : ∀ {L : List (Option m_V)} {i j : Nat}, lget L j = some x → (i + j, tv x) ∈ ml i L
  | [], i, j, h => by simp [lget] at h
  | none :: t, i, 0, h => by simp [lget] at h
  | some y :: t, i, 0, h => by
    simp only [lget, Option.some.injEq] at h
    subst h
    exact List.mem_cons_self
  | none :: t, i, j + 1, h => by
    have h2 := ml_in (i := i + 1) (show lget t j = some x from h)
    rw [Nat.add_assoc, Nat.add_comm 1 j] at h2
    exact h2
  | some y :: t, i, j + 1, h => by
    have h2 := ml_in (i := i + 1) (show lget t j = some x from h)
    rw [Nat.add_assoc, Nat.add_comm 1 j] at h2
    exact List.mem_cons_of_mem _ h2
theorem lget_put {x y : m_V} : ∀ {L : List (Option m_V)} {i j : Nat}, lget (lput L i x) j = some y → (j = i ∧ y = x) ∨ (j ≠ i ∧ lget L j = some y)
  | [], i, j, h => by simp [lput, lget] at h
  | a :: t, 0, 0, h => by
    simp only [lput, lget, Option.some.injEq] at h
    exact Or.inl ⟨rfl, h.symm⟩
  | a :: t, 0, j + 1, h => Or.inr ⟨by omega, h⟩
  | a :: t, i + 1, 0, h => Or.inr ⟨by omega, h⟩
  | a :: t, i + 1, j + 1, h => by
    rcases lget_put (L := t) (i := i) (j := j) h with ⟨h1, h2⟩ | ⟨h1, h2⟩
    · exact Or.inl ⟨by omega, h2⟩
    · exact Or.inr ⟨by omega, h2⟩
theorem lget_at {ls : Array Slot} {nL i : Nat} {L : List (Option m_V)} {x : m_V} (h : lv_has ls nL (ml 0 L)) (hl : lget L i = some x) : ls[i]? = some (.val (tv x)) := by
  have h2 := ml_in (i := 0) hl
  rw [Nat.zero_add] at h2
  exact h.2.2 _ h2
theorem lput_at {ls : Array Slot} {nL i : Nat} {L : List (Option m_V)} {x : m_V} (h : lv_has ls nL ((i, tv x) :: (ml 0 L).filter (fun q => !(q.1 == i) && !(q.1 + 1 == i && q.2.category == 2)))) : lv_has ls nL (ml 0 (lput L i x)) := by
  refine ⟨h.1, h.2.1, fun q hq => h.2.2 q ?_⟩
  obtain ⟨j, y, h1, h2⟩ := ml_mem hq
  rw [Nat.zero_add] at h1
  subst h1
  rcases lget_put h2 with ⟨h3, h4⟩ | ⟨h3, h4⟩
  · subst h3; subst h4
    exact List.mem_cons_self
  · refine List.mem_cons_of_mem _ (List.mem_filter.mpr ⟨?_, ?_⟩)
    · have h5 := ml_in (i := 0) h4
      rw [Nat.zero_add] at h5
      exact h5
    · have h6 := tv_cat y
      simp [h3, h6]
theorem ml_args : ∀ (n i : Nat) (av : List m_V) (q : Nat × Value), q ∈ ml i (mt_l0 n av) → q ∈ lv_args i (av.map tv)
  | 0, i, av, q, h => by cases h
  | n + 1, i, [], q, h => by
    have h2 := ml_args n (i + 1) [] q h
    cases h2
  | n + 1, i, x :: t, q, h => by
    have hc : (if (tv x).category = 2 then i + 2 else i + 1) = i + 1 := by rw [tv_cat]; rfl
    show q ∈ (i, tv x) :: lv_args (if (tv x).category = 2 then i + 2 else i + 1) (t.map tv)
    rw [hc]
    rcases List.mem_cons.mp h with h | h
    · rw [h]; exact List.mem_cons_self
    · exact List.mem_cons_of_mem _ (ml_args n (i + 1) t q h)
theorem tv_len : ∀ (av : List m_V), (lg_sl (av.map tv)).length = av.length
  | [] => rfl
  | x :: t => by
    have h := tv_len t
    have hc := tv_cat x
    simp only [lg_sl, List.map_cons, List.flatMap_cons, List.length_append] at h ⊢
    rw [h, hc]
    simp
    omega
theorem tv_sum : ∀ (st : List m_V), ((st.map tv).map fun v => v.category).sum = st.length
  | [] => rfl
  | x :: t => by
    have h := tv_sum t
    have hc := tv_cat x
    simp only [List.map_cons, List.sum_cons, List.length_cons]
    rw [h, hc]
    omega
theorem mt_pop_ok : ∀ (n : Nat) (acc st av st' : List m_V), mt_pop n acc st = some (av, st') → av.reverse ++ st' = acc.reverse ++ st ∧ av.length = acc.length + n
  | 0, acc, st, av, st', h => by
    simp only [mt_pop, Option.some.injEq, Prod.mk.injEq] at h
    rw [h.1, h.2]
    exact ⟨rfl, rfl⟩
  | n + 1, acc, [], av, st', h => by simp [mt_pop] at h
  | n + 1, acc, x :: st, av, st', h => by
    obtain ⟨h1, h2⟩ := mt_pop_ok n (x :: acc) st av st' h
    rw [h1]
    refine ⟨by simp, ?_⟩
    rw [h2, List.length_cons]
    omega
-- array classes, and what goes with every state
def mt_tys (ca : Nat → ClassId) : List (ClassId × FieldType) := [(ca 0, .int), (ca 1, .boolean), (ca 2, .object "TreeCarrier$Message"), (ca 3, .object "TreeCarrier$StoredFile"), (ca 4, .object "TreeCarrier$Entry"), (ca 5, .object "TreeCarrier$JournalRecord")]
def mt_isN : Cond → Bool
  | .fieldLinkNest .. => true
  | .methodLinkNest .. => true
  | _ => false
theorem lw_nest_is : lw_nest.all mt_isN = true := by decide +kernel
theorem mt_isN_on {w : Cond} (h : mt_isN w = true) : w.onTables = true := by
  unfold mt_isN at h
  split at h
  · rfl
  · rfl
  · cases h
theorem mt_isN_warm {w : Cond} (h : mt_isN w = true) {s U : State} (hW : s.WarmedH U.vm) (hz : va_Nw w s) : va_Nw w U := by
  unfold mt_isN at h
  split at h
  · exact va_Nw.warmF hW hz
  · exact va_Nw.warmM hW hz
  · cases h
def mt_K (D : va_G) (ca : Nat → ClassId) (U : State) : Prop := va_K D mCl (mt_tys ca) U ∧ (∀ w ∈ lw_nest, va_Nw w U) ∧ va_AO "TreeCarrier$Message" U ∧ va_AO "TreeCarrier$StoredFile" U ∧ va_AO "TreeCarrier$Entry" U ∧ va_AO "TreeCarrier$JournalRecord" U
theorem mt_K_warm {D : va_G} {ca : Nat → ClassId} {s U : State} (hW : s.WarmedH U.vm) (h : mt_K D ca s) : mt_K D ca U :=
  ⟨va_K.moved hW.alike h.1, fun w hw => mt_isN_warm (List.all_eq_true.mp lw_nest_is w hw) hW (h.2.1 w hw), va_AO.moved hW.alike h.2.2.1, va_AO.moved hW.alike h.2.2.2.1, va_AO.moved hW.alike h.2.2.2.2.1, va_AO.moved hW.alike h.2.2.2.2.2⟩
theorem mt_K_same {D : va_G} {ca : Nat → ClassId} {u U : State} (hv : u.vm = U.vm) (h : mt_K D ca u) : mt_K D ca U := by
  have ha : u.vm.Alike U.vm := by rw [hv]; exact Vm.Alike.refl U.vm
  exact ⟨va_K.moved ha h.1, fun w hw => va_Nw.same (mt_isN_on (List.all_eq_true.mp lw_nest_is w hw)) hv (h.2.1 w hw), va_AO.moved ha h.2.2.1, va_AO.moved ha h.2.2.2.1, va_AO.moved ha h.2.2.2.2.1, va_AO.moved ha h.2.2.2.2.2⟩
/-- a method's world at its start, and its end -/
def mt_U (D : va_G) (ca : Nat → ClassId) (b0 : Nat) (M : m_M) (U : State) : Prop := U.heap.size = M.1 ∧ b0 ≤ M.1 ∧ mt_wf b0 M ∧ va_P D mCl (mt_ws ca b0 M) U.heap ∧ mt_K D ca U
def mt_Q (D : va_G) (ca : Nat → ClassId) (b0 : Nat) (v : Option m_V) (M : m_M) : Array Value → State → Outcome → State → Prop := fun _ s o t => o = .returned (v.map tv) ∧ mt_wf b0 M ∧ va_P D mCl (mt_ws ca b0 M) t.heap ∧ va_F (mt_A b0) s t
def mt_mo (M M1 : m_M) : Prop := M.1 ≤ M1.1 ∧ M.2.1 ≤ M1.2.1
theorem mt_mo0 {M : m_M} : mt_mo M M := ⟨Nat.le_refl _, Nat.le_refl _⟩
theorem mt_mo2 {M M1 M2 : m_M} (h : mt_mo M M1) (h2 : mt_mo M1 M2) : mt_mo M M2 := ⟨Nat.le_trans h.1 h2.1, Nat.le_trans h.2 h2.2⟩
/-- method y, of frames fr and locals lo, called with av on memory M, returns v with memory M' -/
def mt_Ok (l : Launch) (D : va_G) (ca : Nat → ClassId) (b0 : Nat) (y : MethodName) (cc : ByteArray) (nL : Nat) (ret : Option FieldType) (fr lo : Nat) (av : List m_V) (M : m_M) (v : Option m_V) (M' : m_M) : Prop :=
  Met l y (.code y cc nL ret :: lw_good) { frames := fr, cells := M'.1 - M.1, slots := M'.2.1 - M.2.1, locals := lo } (va_Pc (av.map tv) (mt_U D ca b0 M)) (mt_Q D ca b0 v M') (M'.1 - M.1) (M'.2.1 - M.2.1) (mt_A b0)
def mt_OkS (y : MethodName) (cc : ByteArray) (nL : Nat) (ret : Option FieldType) (fr lo : Nat) (sem : List m_V → m_M → Option m_R) : Prop :=
  ∀ (av : List m_V) (M : m_M) (r : m_R), av.length ≤ nL → sem av M = some r → mt_mo M r.2 ∧ ∀ (l : Launch) (D : va_G) (ca : Nat → ClassId) (b0 : Nat), mt_Ok l D ca b0 y cc nL ret fr lo av M r.1 r.2
/-- which return instruction goes with which answer -/
def mt_ret (cc : ByteArray) (ret : Option FieldType) (pc : Nat) (v : Option m_V) : Prop :=
  (decode cc pc = .ok (.return_, 1) ∧ ret = none ∧ v = none) ∨
  (decode cc pc = .ok (.ireturn, 1) ∧ ∃ (ty : FieldType) (x : Int32), ret = some ty ∧ v = some (.inl x) ∧ narrow ty (.int x) = .int x) ∨
  (decode cc pc = .ok (.areturn, 1) ∧ ∃ (n : String) (x : Option Nat), ret = some (.object n) ∧ v = some (.inr x))
/-- the machine stands in a method's body at pc with q, and will come to Q -/
def mt_G (p : Program) (l : Launch) (e : Env) (R : Room) (s : State) (m : MethodId) (args : Array Value) (below : List Frame) (meth : Method) (c : Code) (Q : State → Prop) (nL : Nat) (D : va_G) (ca : Nat → ClassId) (b0 w0 : Nat) (M' : m_M) (pc : Nat) (q : m_C) : Prop :=
  (q.2.2.1 ≤ M'.1 ∧ q.2.2.2.1 ≤ M'.2.1) ∧ (mt_wf b0 q.2.2 → ∀ (H : Heap) (locs : List Loc) (ls : Array Slot) (cells slots : Nat), va_P D mCl (mt_ws ca b0 q.2.2) H → va_S (mt_A b0) s.heap H locs → cells + s.heap.size = q.2.2.1 → slots + w0 = q.2.2.2.1 → lv_has ls nL (ml 0 q.1) → W p l e R s m args below meth c H locs cells slots Q (F0 m pc ls (q.2.1.map tv)))
def mt_C (p : Program) (l : Launch) (e : Env) (R : Room) (s : State) (m : MethodId) (args : Array Value) (below : List Frame) (meth : Method) (c : Code) (Q : State → Prop) (cc : ByteArray) (nL : Nat) (own nm : String) (ret : Option FieldType) (fr lo : Nat) (D : va_G) (ca : Nat → ClassId) (b0 w0 : Nat) (v : Option m_V) (M' : m_M) : Prop :=
  p.tables.exec = Jvm.exec ∧ c.code = cc ∧ c.maxLocals = nL ∧ s.vm.findClass own = some m.cls ∧ (∀ w ∈ lw_good, w.before args s = true) ∧ mt_K D ca s ∧ b0 ≤ s.heap.size ∧ (fr ≤ R.frames ∧ lo ≤ R.locals ∧ M'.1 ≤ R.cells + s.heap.size ∧ M'.2.1 ≤ R.slots + w0) ∧ meth.name = nm ∧
  ∀ (H : Heap) (locs : List Loc) (ls : Array Slot) (cells slots pc : Nat), mt_ret cc ret pc v → mt_wf b0 M' → va_P D mCl (mt_ws ca b0 M') H → va_S (mt_A b0) s.heap H locs → cells + s.heap.size = M'.1 → slots + w0 = M'.2.1 → W p l e R s m args below meth c H locs cells slots Q (F0 m pc ls (v.toList.map tv))
/-- a plain op, from pc to pc'; a block's last op, at pc: heap and slots only grow, and the machine follows -/
def mt_Sp (Z : Nat → State → Prop) (cc : ByteArray) (nL : Nat) (own nm : String) (ret : Option FieldType) (fr lo pc pc' : Nat) (o : m_S) : Prop :=
  ∀ (q q' : m_C), o q = some q' → mt_mo q.2.2 q'.2.2 ∧ ∀ (p : Program) (l : Launch) (e : Env) (R : Room) (s : State) (m : MethodId) (args : Array Value) (below : List Frame) (meth : Method) (c : Code) (Q : State → Prop) (D : va_G) (ca : Nat → ClassId) (b0 w0 : Nat) (v : Option m_V) (M' : m_M),
    mt_C p l e R s m args below meth c Q cc nL own nm ret fr lo D ca b0 w0 v M' → Z b0 s → mt_G p l e R s m args below meth c Q nL D ca b0 w0 M' pc' q' → mt_G p l e R s m args below meth c Q nL D ca b0 w0 M' pc q
def mt_Sl (Z : Nat → State → Prop) (cc : ByteArray) (nL : Nat) (own nm : String) (ret : Option FieldType) (fr lo pc : Nat) (o : m_O) : Prop :=
  ∀ (q : m_C) (z : (Nat × m_C) ⊕ m_R), o q = some z → (∀ x, z = .inl x → mt_mo q.2.2 x.2.2.2) ∧ (∀ r, z = .inr r → mt_mo q.2.2 r.2) ∧ ∀ (p : Program) (l : Launch) (e : Env) (R : Room) (s : State) (m : MethodId) (args : Array Value) (below : List Frame) (meth : Method) (c : Code) (Q : State → Prop) (D : va_G) (ca : Nat → ClassId) (b0 w0 : Nat) (v : Option m_V) (M' : m_M),
    mt_C p l e R s m args below meth c Q cc nL own nm ret fr lo D ca b0 w0 v M' → Z b0 s →
    (∀ x, z = .inl x → mt_G p l e R s m args below meth c Q nL D ca b0 w0 M' x.1 x.2) → (∀ r, z = .inr r → r = (v, M')) → mt_G p l e R s m args below meth c Q nL D ca b0 w0 M' pc q
section SB
variable {Z : Nat → State → Prop} {cc : ByteArray} {nL : Nat} {own nm : String} {ret : Option FieldType} {fr lo pc pc' : Nat}
theorem mt_nil {last : m_O} (h : mt_Sl Z cc nL own nm ret fr lo pc last) : mt_Sl Z cc nL own nm ret fr lo pc (mt_b ([], last)) := h
theorem mt_cons {o : m_S} {ops : List m_S} {last : m_O} (h1 : mt_Sp Z cc nL own nm ret fr lo pc pc' o) (h2 : mt_Sl Z cc nL own nm ret fr lo pc' (mt_b (ops, last))) : mt_Sl Z cc nL own nm ret fr lo pc (mt_b (o :: ops, last)) := by
  intro q z hq
  simp only [mt_b, mt_seq] at hq
  cases ho : o q with
  | none => simp [ho] at hq
  | some q1 =>
    simp only [ho] at hq
    obtain ⟨ha, hb⟩ := h1 q q1 ho
    obtain ⟨hc, hd, he⟩ := h2 q1 z hq
    exact ⟨fun x hx => mt_mo2 ha (hc x hx), fun r hr => mt_mo2 ha (hd r hr), fun p l e R s m args below meth c Q D ca b0 w0 v M' C hz hg hr => hb p l e R s m args below meth c Q D ca b0 w0 v M' C hz (he p l e R s m args below meth c Q D ca b0 w0 v M' C hz hg hr)⟩
/-- a method's code is sound: each of its blocks is -/
def mt_Sc (Z : Nat → State → Prop) (cc : ByteArray) (nL : Nat) (own nm : String) (ret : Option FieldType) (fr lo : Nat) (code : List m_B) : Prop := ∀ x ∈ code, mt_Sl Z cc nL own nm ret fr lo x.1 (mt_b x.2)
theorem mt_sc0 : mt_Sc Z cc nL own nm ret fr lo [] := fun x h => by cases h
theorem mt_sc1 {x : m_B} {t : List m_B} (h1 : mt_Sl Z cc nL own nm ret fr lo x.1 (mt_b x.2)) (h2 : mt_Sc Z cc nL own nm ret fr lo t) : mt_Sc Z cc nL own nm ret fr lo (x :: t) := fun y hy => by
  rcases List.mem_cons.mp hy with h | h
  · rw [h]; exact h1
  · exact h2 y h
theorem mt_cd_mem {i : Nat} {y : List m_S × m_O} : ∀ {code : List m_B}, mt_cd code i = some y → (i, y) ∈ code
  | [], h => by simp [mt_cd] at h
  | x :: t, h => by
    simp only [mt_cd] at h
    split at h
    · next he =>
      have h2 : x.2 = y := Option.some.inj h
      rw [← he, ← h2]
      exact List.mem_cons_self
    · exact List.mem_cons_of_mem _ (mt_cd_mem h)
theorem mt_grow {code : List m_B} {r : m_R} (hs : mt_Sc Z cc nL own nm ret fr lo code) : ∀ (n pc : Nat) (q : m_C), mt_run code n pc q = some r → mt_mo q.2.2 r.2
  | 0, pc, q, h => by simp [mt_run] at h
  | n + 1, pc, q, h => by
    simp only [mt_run] at h
    cases h1 : mt_cd code pc with
    | none => simp [h1] at h
    | some x =>
      simp only [h1] at h
      cases h2 : mt_b x q with
      | none => simp [h2] at h
      | some z =>
        simp only [h2] at h
        obtain ⟨ha, hb, -⟩ := hs _ (mt_cd_mem h1) q z h2
        cases z with
        | inl y => exact mt_mo2 (ha y rfl) (mt_grow hs n y.1 y.2 h)
        | inr r' =>
          have h3 : r' = r := Option.some.inj h
          rw [← h3]
          exact hb r' rfl
theorem mt_sound {p : Program} {l : Launch} {e : Env} {R : Room} {s : State} {m : MethodId} {args : Array Value} {below : List Frame} {meth : Method} {c : Code} {Q : State → Prop} {D : va_G} {ca : Nat → ClassId} {b0 w0 : Nat} {v : Option m_V} {M' : m_M} {code : List m_B}
    (hs : mt_Sc Z cc nL own nm ret fr lo code) (C : mt_C p l e R s m args below meth c Q cc nL own nm ret fr lo D ca b0 w0 v M') (hz : Z b0 s) : ∀ (n pc : Nat) (q : m_C), mt_run code n pc q = some (v, M') → mt_G p l e R s m args below meth c Q nL D ca b0 w0 M' pc q
  | 0, pc, q, h => by simp [mt_run] at h
  | n + 1, pc, q, h => by
    simp only [mt_run] at h
    cases h1 : mt_cd code pc with
    | none => simp [h1] at h
    | some x =>
      simp only [h1] at h
      cases h2 : mt_b x q with
      | none => simp [h2] at h
      | some z =>
        simp only [h2] at h
        refine (hs _ (mt_cd_mem h1) q z h2).2.2 p l e R s m args below meth c Q D ca b0 w0 v M' C hz (fun y hy => ?_) (fun r hr => ?_)
        · subst hy
          exact mt_sound hs C hz n y.1 y.2 h
        · subst hr
          exact Option.some.inj h
end SB
/-- the heap is no larger than the room that was used -/
theorem mt_size {p : Program} {l : Launch} {e : Env} {R : Room} {s : State} {m : MethodId} {args : Array Value} {below : List Frame} {meth : Method} {c : Code} {Q : State → Prop} {H : Heap} {locs : List Loc} {cells slots : Nat} {g : JFrame} (k : H.size ≤ s.heap.size + cells → W p l e R s m args below meth c H locs cells slots Q g) : W p l e R s m args below meth c H locs cells slots Q g := by
  intro T hT X
  refine k ?_ T hT X
  have h := X.same.2.2.1
  have h2 : (T.setVm s.vm).heap = H := hT
  rw [h2] at h
  exact h
theorem va_at_lt {D : va_G} {cl : List vw_C} {q : Nat × va_E} {H : Heap} (h : va_at D cl q H) : q.1 < H.size := h.lt
theorem mt_size2 {s : State} {D : va_G} {ca : Nat → ClassId} {b0 : Nat} {M : m_M} {H : Heap} {locs : List Loc} (hb : b0 ≤ s.heap.size) (hP : va_P D mCl (mt_ws ca b0 M) H) (hS : va_S (mt_A b0) s.heap H locs) (hM : s.heap.size ≤ M.1) : M.1 ≤ H.size := by
  by_cases h : s.heap.size < M.1
  · obtain ⟨k, hk⟩ := va_pl_get (X := []) (f := tm ca M.2.2) (mt_mem.mpr (show b0 ≤ M.1 - 1 ∧ M.1 - 1 < M.1 by omega))
    have h2 := va_at_lt (hP k _ hk)
    simp only at h2
    omega
  · have := hS.1
    omega

section SN
variable {Z : Nat → State → Prop} {cc : ByteArray} {nL : Nat} {own nm : String} {ret : Option FieldType} {fr lo pc n : Nat}
theorem sn_iconst {i : Int} {x : Int32} (d : decode cc pc = .ok (.iconst i, 1)) (hv : Int32.ofInt i = x) (hn : pc + 1 = n) : mt_Sp Z cc nL own nm ret fr lo pc n (o_const x) := by
  rintro ⟨lv, st, M⟩ q' hq
  simp only [o_const, reduceCtorEq, Option.some.injEq] at hq
  subst hq
  subst hn
  exact ⟨mt_mo0, fun p l e R s m args below meth c Q D ca b0 w0 v M' C hz hg => ⟨hg.1, fun hw H locs ls cells slots h1 h2 h3 h4 h5 => lv_iconst C.1 C.2.1 d hv (hg.2 hw H locs ls cells slots h1 h2 h3 h4 h5)⟩⟩
theorem sn_bipush {i : Int} {x : Int32} (d : decode cc pc = .ok (.bipush i, 2)) (hv : (Int8.ofInt i).toInt32 = x) (hn : pc + 2 = n) : mt_Sp Z cc nL own nm ret fr lo pc n (o_const x) := by
  rintro ⟨lv, st, M⟩ q' hq
  simp only [o_const, reduceCtorEq, Option.some.injEq] at hq
  subst hq
  subst hn
  exact ⟨mt_mo0, fun p l e R s m args below meth c Q D ca b0 w0 v M' C hz hg => ⟨hg.1, fun hw H locs ls cells slots h1 h2 h3 h4 h5 => lv_bipush C.1 C.2.1 d hv (hg.2 hw H locs ls cells slots h1 h2 h3 h4 h5)⟩⟩
theorem sn_sipush {i : Int} {x : Int32} (d : decode cc pc = .ok (.sipush i, 3)) (hv : (Int16.ofInt i).toInt32 = x) (hn : pc + 3 = n) : mt_Sp Z cc nL own nm ret fr lo pc n (o_const x) := by
  rintro ⟨lv, st, M⟩ q' hq
  simp only [o_const, reduceCtorEq, Option.some.injEq] at hq
  subst hq
  subst hn
  exact ⟨mt_mo0, fun p l e R s m args below meth c Q D ca b0 w0 v M' C hz hg => ⟨hg.1, fun hw H locs ls cells slots h1 h2 h3 h4 h5 => lv_sipush C.1 C.2.1 d hv (hg.2 hw H locs ls cells slots h1 h2 h3 h4 h5)⟩⟩
theorem sn_ldc {i : Nat} {x : Int32} (d : decode cc pc = .ok (.ldc i, 2)) (hword : Cond.constant own i x ∈ lw_good) (hn : pc + 2 = n) : mt_Sp Z cc nL own nm ret fr lo pc n (o_const x) := by
  rintro ⟨lv, st, M⟩ q' hq
  simp only [o_const, reduceCtorEq, Option.some.injEq] at hq
  subst hq
  subst hn
  exact ⟨mt_mo0, fun p l e R s m args below meth c Q D ca b0 w0 v M' C hz hg => ⟨hg.1, fun hw H locs ls cells slots h1 h2 h3 h4 h5 => lv_ldc C.1 C.2.1 C.2.2.2.1 (C.2.2.2.2.1 _ hword) d (hg.2 hw H locs ls cells slots h1 h2 h3 h4 h5)⟩⟩
theorem sn_null (d : decode cc pc = .ok (.aconst_null, 1)) (hn : pc + 1 = n) : mt_Sp Z cc nL own nm ret fr lo pc n (o_null) := by
  rintro ⟨lv, st, M⟩ q' hq
  simp only [o_null, reduceCtorEq, Option.some.injEq] at hq
  subst hq
  subst hn
  exact ⟨mt_mo0, fun p l e R s m args below meth c Q D ca b0 w0 v M' C hz hg => ⟨hg.1, fun hw H locs ls cells slots h1 h2 h3 h4 h5 => lv_null C.1 C.2.1 d (hg.2 hw H locs ls cells slots h1 h2 h3 h4 h5)⟩⟩
theorem sn_add (d : decode cc pc = .ok (.iadd, 1)) (hn : pc + 1 = n) : mt_Sp Z cc nL own nm ret fr lo pc n (o_add) := by
  rintro ⟨lv, st, M⟩ q' hq
  rcases st with _ | ⟨y | y, _ | ⟨x | x, st⟩⟩ <;> simp only [o_add, reduceCtorEq, Option.some.injEq] at hq
  subst hq
  subst hn
  exact ⟨mt_mo0, fun p l e R s m args below meth c Q D ca b0 w0 v M' C hz hg => ⟨hg.1, fun hw H locs ls cells slots h1 h2 h3 h4 h5 => lv_iadd C.1 C.2.1 d (hg.2 hw H locs ls cells slots h1 h2 h3 h4 h5)⟩⟩
theorem sn_sub (d : decode cc pc = .ok (.isub, 1)) (hn : pc + 1 = n) : mt_Sp Z cc nL own nm ret fr lo pc n (o_sub) := by
  rintro ⟨lv, st, M⟩ q' hq
  rcases st with _ | ⟨y | y, _ | ⟨x | x, st⟩⟩ <;> simp only [o_sub, reduceCtorEq, Option.some.injEq] at hq
  subst hq
  subst hn
  exact ⟨mt_mo0, fun p l e R s m args below meth c Q D ca b0 w0 v M' C hz hg => ⟨hg.1, fun hw H locs ls cells slots h1 h2 h3 h4 h5 => lv_isub C.1 C.2.1 d (hg.2 hw H locs ls cells slots h1 h2 h3 h4 h5)⟩⟩
theorem sn_mul (d : decode cc pc = .ok (.imul, 1)) (hn : pc + 1 = n) : mt_Sp Z cc nL own nm ret fr lo pc n (o_mul) := by
  rintro ⟨lv, st, M⟩ q' hq
  rcases st with _ | ⟨y | y, _ | ⟨x | x, st⟩⟩ <;> simp only [o_mul, reduceCtorEq, Option.some.injEq] at hq
  subst hq
  subst hn
  exact ⟨mt_mo0, fun p l e R s m args below meth c Q D ca b0 w0 v M' C hz hg => ⟨hg.1, fun hw H locs ls cells slots h1 h2 h3 h4 h5 => lv_imul C.1 C.2.1 d (hg.2 hw H locs ls cells slots h1 h2 h3 h4 h5)⟩⟩
theorem sn_and (d : decode cc pc = .ok (.iand, 1)) (hn : pc + 1 = n) : mt_Sp Z cc nL own nm ret fr lo pc n (o_and) := by
  rintro ⟨lv, st, M⟩ q' hq
  rcases st with _ | ⟨y | y, _ | ⟨x | x, st⟩⟩ <;> simp only [o_and, reduceCtorEq, Option.some.injEq] at hq
  subst hq
  subst hn
  exact ⟨mt_mo0, fun p l e R s m args below meth c Q D ca b0 w0 v M' C hz hg => ⟨hg.1, fun hw H locs ls cells slots h1 h2 h3 h4 h5 => lv_iand C.1 C.2.1 d (hg.2 hw H locs ls cells slots h1 h2 h3 h4 h5)⟩⟩
theorem sn_xor (d : decode cc pc = .ok (.ixor, 1)) (hn : pc + 1 = n) : mt_Sp Z cc nL own nm ret fr lo pc n (o_xor) := by
  rintro ⟨lv, st, M⟩ q' hq
  rcases st with _ | ⟨y | y, _ | ⟨x | x, st⟩⟩ <;> simp only [o_xor, reduceCtorEq, Option.some.injEq] at hq
  subst hq
  subst hn
  exact ⟨mt_mo0, fun p l e R s m args below meth c Q D ca b0 w0 v M' C hz hg => ⟨hg.1, fun hw H locs ls cells slots h1 h2 h3 h4 h5 => lv_ixor C.1 C.2.1 d (hg.2 hw H locs ls cells slots h1 h2 h3 h4 h5)⟩⟩
theorem sn_div (d : decode cc pc = .ok (.idiv, 1)) (hn : pc + 1 = n) : mt_Sp Z cc nL own nm ret fr lo pc n o_div := by
  rintro ⟨lv, st, M⟩ q' hq
  rcases st with _ | ⟨y | y, _ | ⟨x | x, st⟩⟩ <;> simp only [o_div, reduceCtorEq, Option.some.injEq] at hq
  by_cases hne : y = 0
  · rw [if_pos hne] at hq; cases hq
  · rw [if_neg hne] at hq
    have hq := Option.some.inj hq
    subst hq
    subst hn
    exact ⟨mt_mo0, fun p l e R s m args below meth c Q D ca b0 w0 v M' C hz hg => ⟨hg.1, fun hw H locs ls cells slots h1 h2 h3 h4 h5 => lv_idiv C.1 C.2.1 d hne (hg.2 hw H locs ls cells slots h1 h2 h3 h4 h5)⟩⟩
theorem sn_rem (d : decode cc pc = .ok (.irem, 1)) (hn : pc + 1 = n) : mt_Sp Z cc nL own nm ret fr lo pc n o_rem := by
  rintro ⟨lv, st, M⟩ q' hq
  rcases st with _ | ⟨y | y, _ | ⟨x | x, st⟩⟩ <;> simp only [o_rem, reduceCtorEq, Option.some.injEq] at hq
  by_cases hne : y = 0
  · rw [if_pos hne] at hq; cases hq
  · rw [if_neg hne] at hq
    have hq := Option.some.inj hq
    subst hq
    subst hn
    exact ⟨mt_mo0, fun p l e R s m args below meth c Q D ca b0 w0 v M' C hz hg => ⟨hg.1, fun hw H locs ls cells slots h1 h2 h3 h4 h5 => lv_irem C.1 C.2.1 d hne (hg.2 hw H locs ls cells slots h1 h2 h3 h4 h5)⟩⟩
theorem sn_dup (d : decode cc pc = .ok (.dup, 1)) (hn : pc + 1 = n) : mt_Sp Z cc nL own nm ret fr lo pc n (o_dup) := by
  rintro ⟨lv, st, M⟩ q' hq
  rcases st with _ | ⟨x, st⟩ <;> simp only [o_dup, reduceCtorEq, Option.some.injEq] at hq
  subst hq
  subst hn
  exact ⟨mt_mo0, fun p l e R s m args below meth c Q D ca b0 w0 v M' C hz hg => ⟨hg.1, fun hw H locs ls cells slots h1 h2 h3 h4 h5 => lv_dup C.1 C.2.1 d (tv_cat x) (hg.2 hw H locs ls cells slots h1 h2 h3 h4 h5)⟩⟩
theorem sn_dup2 (d : decode cc pc = .ok (.dup2, 1)) (hn : pc + 1 = n) : mt_Sp Z cc nL own nm ret fr lo pc n (o_dup2) := by
  rintro ⟨lv, st, M⟩ q' hq
  rcases st with _ | ⟨x, _ | ⟨y, st⟩⟩ <;> simp only [o_dup2, reduceCtorEq, Option.some.injEq] at hq
  subst hq
  subst hn
  exact ⟨mt_mo0, fun p l e R s m args below meth c Q D ca b0 w0 v M' C hz hg => ⟨hg.1, fun hw H locs ls cells slots h1 h2 h3 h4 h5 => lv_dup2_11 C.1 C.2.1 d (tv_cat x) (tv_cat y) (hg.2 hw H locs ls cells slots h1 h2 h3 h4 h5)⟩⟩
theorem sn_pop (d : decode cc pc = .ok (.pop, 1)) (hn : pc + 1 = n) : mt_Sp Z cc nL own nm ret fr lo pc n (o_pop) := by
  rintro ⟨lv, st, M⟩ q' hq
  rcases st with _ | ⟨x, st⟩ <;> simp only [o_pop, reduceCtorEq, Option.some.injEq] at hq
  subst hq
  subst hn
  exact ⟨mt_mo0, fun p l e R s m args below meth c Q D ca b0 w0 v M' C hz hg => ⟨hg.1, fun hw H locs ls cells slots h1 h2 h3 h4 h5 => lv_pop C.1 C.2.1 d (tv_cat x) (hg.2 hw H locs ls cells slots h1 h2 h3 h4 h5)⟩⟩
theorem sn_iload_n {k : Fin 4} {i : Nat} (hi : (k : Nat) = i) (d : decode cc pc = .ok (.iload_n k, 1)) (hn : pc + 1 = n) : mt_Sp Z cc nL own nm ret fr lo pc n (o_iload i) := by
  rintro ⟨lv, st, M⟩ q' hq
  simp only [o_iload] at hq
  cases hl : lget lv i with
  | none => simp [hl] at hq
  | some x =>
    simp only [hl] at hq
    subst hn
    cases x with
    | inr x => simp at hq
    | inl x =>
      simp only [Option.some.injEq] at hq
      subst hq
      exact ⟨mt_mo0, fun p l e R s m args below meth c Q D ca b0 w0 v M' C hz hg => ⟨hg.1, fun hw H locs ls cells slots h1 h2 h3 h4 h5 => lv_iload_n C.1 C.2.1 d hi (lget_at h5 hl) (hg.2 hw H locs ls cells slots h1 h2 h3 h4 h5)⟩⟩
theorem sn_iload {i : Nat} (d : decode cc pc = .ok (.iload i, 2)) (hn : pc + 2 = n) : mt_Sp Z cc nL own nm ret fr lo pc n (o_iload i) := by
  rintro ⟨lv, st, M⟩ q' hq
  simp only [o_iload] at hq
  cases hl : lget lv i with
  | none => simp [hl] at hq
  | some x =>
    simp only [hl] at hq
    subst hn
    cases x with
    | inr x => simp at hq
    | inl x =>
      simp only [Option.some.injEq] at hq
      subst hq
      exact ⟨mt_mo0, fun p l e R s m args below meth c Q D ca b0 w0 v M' C hz hg => ⟨hg.1, fun hw H locs ls cells slots h1 h2 h3 h4 h5 => lv_iload C.1 C.2.1 d (lget_at h5 hl) (hg.2 hw H locs ls cells slots h1 h2 h3 h4 h5)⟩⟩
theorem sn_aload_n {k : Fin 4} {i : Nat} (hi : (k : Nat) = i) (d : decode cc pc = .ok (.aload_n k, 1)) (hn : pc + 1 = n) : mt_Sp Z cc nL own nm ret fr lo pc n (o_aload i) := by
  rintro ⟨lv, st, M⟩ q' hq
  simp only [o_aload] at hq
  cases hl : lget lv i with
  | none => simp [hl] at hq
  | some x =>
    simp only [hl] at hq
    subst hn
    cases x with
    | inl x => simp at hq
    | inr x =>
      simp only [Option.some.injEq] at hq
      subst hq
      cases x with
      | none => exact ⟨mt_mo0, fun p l e R s m args below meth c Q D ca b0 w0 v M' C hz hg => ⟨hg.1, fun hw H locs ls cells slots h1 h2 h3 h4 h5 => lv_aload_nN C.1 C.2.1 d hi (lget_at h5 hl) (hg.2 hw H locs ls cells slots h1 h2 h3 h4 h5)⟩⟩
      | some x => exact ⟨mt_mo0, fun p l e R s m args below meth c Q D ca b0 w0 v M' C hz hg => ⟨hg.1, fun hw H locs ls cells slots h1 h2 h3 h4 h5 => lv_aload_n C.1 C.2.1 d hi (lget_at h5 hl) (hg.2 hw H locs ls cells slots h1 h2 h3 h4 h5)⟩⟩
theorem sn_aload {i : Nat} (d : decode cc pc = .ok (.aload i, 2)) (hn : pc + 2 = n) : mt_Sp Z cc nL own nm ret fr lo pc n (o_aload i) := by
  rintro ⟨lv, st, M⟩ q' hq
  simp only [o_aload] at hq
  cases hl : lget lv i with
  | none => simp [hl] at hq
  | some x =>
    simp only [hl] at hq
    subst hn
    cases x with
    | inl x => simp at hq
    | inr x =>
      simp only [Option.some.injEq] at hq
      subst hq
      cases x with
      | none => exact ⟨mt_mo0, fun p l e R s m args below meth c Q D ca b0 w0 v M' C hz hg => ⟨hg.1, fun hw H locs ls cells slots h1 h2 h3 h4 h5 => lv_aloadN C.1 C.2.1 d (lget_at h5 hl) (hg.2 hw H locs ls cells slots h1 h2 h3 h4 h5)⟩⟩
      | some x => exact ⟨mt_mo0, fun p l e R s m args below meth c Q D ca b0 w0 v M' C hz hg => ⟨hg.1, fun hw H locs ls cells slots h1 h2 h3 h4 h5 => lv_aload C.1 C.2.1 d (lget_at h5 hl) (hg.2 hw H locs ls cells slots h1 h2 h3 h4 h5)⟩⟩
theorem sn_istore_n {k : Fin 4} {i : Nat} (hi : (k : Nat) = i) (d : decode cc pc = .ok (.istore_n k, 1)) (hi2 : i < nL) (hn : pc + 1 = n) : mt_Sp Z cc nL own nm ret fr lo pc n (o_istore i) := by
  rintro ⟨lv, st, M⟩ q' hq
  rcases st with _ | ⟨x | x, st⟩ <;> simp only [o_istore, reduceCtorEq, Option.some.injEq] at hq
  subst hq
  subst hn
  exact ⟨mt_mo0, fun p l e R s m args below meth c Q D ca b0 w0 v M' C hz hg => ⟨hg.1, fun hw H locs ls cells slots h1 h2 h3 h4 h5 => lv_istore_n C.1 C.2.1 d hi h5 hi2 rfl (fun ls' h6 => hg.2 hw H locs ls' cells slots h1 h2 h3 h4 (lput_at h6))⟩⟩
theorem sn_istore {i : Nat} (d : decode cc pc = .ok (.istore i, 2)) (hi2 : i < nL) (hn : pc + 2 = n) : mt_Sp Z cc nL own nm ret fr lo pc n (o_istore i) := by
  rintro ⟨lv, st, M⟩ q' hq
  rcases st with _ | ⟨x | x, st⟩ <;> simp only [o_istore, reduceCtorEq, Option.some.injEq] at hq
  subst hq
  subst hn
  exact ⟨mt_mo0, fun p l e R s m args below meth c Q D ca b0 w0 v M' C hz hg => ⟨hg.1, fun hw H locs ls cells slots h1 h2 h3 h4 h5 => lv_istore C.1 C.2.1 d h5 hi2 rfl (fun ls' h6 => hg.2 hw H locs ls' cells slots h1 h2 h3 h4 (lput_at h6))⟩⟩
theorem sn_astore_n {k : Fin 4} {i : Nat} (hi : (k : Nat) = i) (d : decode cc pc = .ok (.astore_n k, 1)) (hi2 : i < nL) (hn : pc + 1 = n) : mt_Sp Z cc nL own nm ret fr lo pc n (o_astore i) := by
  rintro ⟨lv, st, M⟩ q' hq
  rcases st with _ | ⟨x | x, st⟩ <;> simp only [o_astore, reduceCtorEq, Option.some.injEq] at hq
  subst hq
  subst hn
  cases x with
  | none => exact ⟨mt_mo0, fun p l e R s m args below meth c Q D ca b0 w0 v M' C hz hg => ⟨hg.1, fun hw H locs ls cells slots h1 h2 h3 h4 h5 => lv_astore_nN C.1 C.2.1 d hi h5 hi2 rfl (fun ls' h6 => hg.2 hw H locs ls' cells slots h1 h2 h3 h4 (lput_at h6))⟩⟩
  | some x => exact ⟨mt_mo0, fun p l e R s m args below meth c Q D ca b0 w0 v M' C hz hg => ⟨hg.1, fun hw H locs ls cells slots h1 h2 h3 h4 h5 => lv_astore_n C.1 C.2.1 d hi h5 hi2 rfl (fun ls' h6 => hg.2 hw H locs ls' cells slots h1 h2 h3 h4 (lput_at h6))⟩⟩
theorem sn_astore {i : Nat} (d : decode cc pc = .ok (.astore i, 2)) (hi2 : i < nL) (hn : pc + 2 = n) : mt_Sp Z cc nL own nm ret fr lo pc n (o_astore i) := by
  rintro ⟨lv, st, M⟩ q' hq
  rcases st with _ | ⟨x | x, st⟩ <;> simp only [o_astore, reduceCtorEq, Option.some.injEq] at hq
  subst hq
  subst hn
  cases x with
  | none => exact ⟨mt_mo0, fun p l e R s m args below meth c Q D ca b0 w0 v M' C hz hg => ⟨hg.1, fun hw H locs ls cells slots h1 h2 h3 h4 h5 => lv_astoreN C.1 C.2.1 d h5 hi2 rfl (fun ls' h6 => hg.2 hw H locs ls' cells slots h1 h2 h3 h4 (lput_at h6))⟩⟩
  | some x => exact ⟨mt_mo0, fun p l e R s m args below meth c Q D ca b0 w0 v M' C hz hg => ⟨hg.1, fun hw H locs ls cells slots h1 h2 h3 h4 h5 => lv_astore C.1 C.2.1 d h5 hi2 rfl (fun ls' h6 => hg.2 hw H locs ls' cells slots h1 h2 h3 h4 (lput_at h6))⟩⟩
theorem sn_iinc {i : Nat} {k : Int} {x : Int32} (d : decode cc pc = .ok (.iinc i k, 3)) (hi2 : i < nL) (hv : Int32.ofInt k = x) (hn : pc + 3 = n) : mt_Sp Z cc nL own nm ret fr lo pc n (o_iinc i x) := by
  rintro ⟨lv, st, M⟩ q' hq
  simp only [o_iinc] at hq
  cases hl : lget lv i with
  | none => simp [hl] at hq
  | some y =>
    simp only [hl] at hq
    subst hn
    cases y with
    | inr y => simp at hq
    | inl y =>
      simp only [Option.some.injEq] at hq
      subst hq
      refine ⟨mt_mo0, fun p l e R s m args below meth c Q D ca b0 w0 v M' C hz hg => ⟨hg.1, fun hw H locs ls cells slots h1 h2 h3 h4 h5 => ?_⟩⟩
      obtain ⟨k2, hk2⟩ := List.getElem?_of_mem (ml_in (i := 0) hl)
      rw [Nat.zero_add] at hk2
      exact lv_iinc C.1 C.2.1 d h5 hk2 (by rw [hv]) hi2 rfl (fun ls' h6 => hg.2 hw H locs ls' cells slots h1 h2 h3 h4 (lput_at h6))
theorem sn_ifeq {off : Int} {t : Nat} (d : decode cc pc = .ok (.ifCond .eq off, 3)) (ht : (pc : Int) + off = (t : Int)) (hn : pc + 3 = n) : mt_Sl Z cc nL own nm ret fr lo pc (o_ifeq t n) := by
  rintro ⟨lv, st, M⟩ z hq
  rcases st with _ | ⟨x | x, st⟩ <;> simp only [o_ifeq, reduceCtorEq] at hq
  subst hn
  by_cases hc : x = 0
  · rw [if_pos hc] at hq
    have hq := Option.some.inj hq
    subst hq
    refine ⟨fun x hx => by cases hx; exact mt_mo0, fun r hx => (by cases hx), fun p l e R s m args below meth c Q D ca b0 w0 v M' C hz hg hr => ?_⟩
    have hg := hg _ rfl
    exact ⟨hg.1, fun hw H locs ls cells slots h1 h2 h3 h4 h5 => lv_if_eq C.1 C.2.1 d ht (fun _ => (hg.2 hw H locs ls cells slots h1 h2 h3 h4 h5)) (fun h => absurd hc h)⟩
  · rw [if_neg hc] at hq
    have hq := Option.some.inj hq
    subst hq
    refine ⟨fun x hx => by cases hx; exact mt_mo0, fun r hx => (by cases hx), fun p l e R s m args below meth c Q D ca b0 w0 v M' C hz hg hr => ?_⟩
    have hg := hg _ rfl
    exact ⟨hg.1, fun hw H locs ls cells slots h1 h2 h3 h4 h5 => lv_if_eq C.1 C.2.1 d ht (fun h => absurd h hc) (fun _ => (hg.2 hw H locs ls cells slots h1 h2 h3 h4 h5))⟩
theorem sn_iceq {off : Int} {t : Nat} (d : decode cc pc = .ok (.if_icmp .eq off, 3)) (ht : (pc : Int) + off = (t : Int)) (hn : pc + 3 = n) : mt_Sl Z cc nL own nm ret fr lo pc (o_iceq t n) := by
  rintro ⟨lv, st, M⟩ z hq
  rcases st with _ | ⟨y | y, _ | ⟨x | x, st⟩⟩ <;> simp only [o_iceq, reduceCtorEq] at hq
  subst hn
  by_cases hc : x = y
  · rw [if_pos hc] at hq
    have hq := Option.some.inj hq
    subst hq
    refine ⟨fun x hx => by cases hx; exact mt_mo0, fun r hx => (by cases hx), fun p l e R s m args below meth c Q D ca b0 w0 v M' C hz hg hr => ?_⟩
    have hg := hg _ rfl
    exact ⟨hg.1, fun hw H locs ls cells slots h1 h2 h3 h4 h5 => lv_icmp_eq C.1 C.2.1 d ht (fun _ => (hg.2 hw H locs ls cells slots h1 h2 h3 h4 h5)) (fun h => absurd hc h)⟩
  · rw [if_neg hc] at hq
    have hq := Option.some.inj hq
    subst hq
    refine ⟨fun x hx => by cases hx; exact mt_mo0, fun r hx => (by cases hx), fun p l e R s m args below meth c Q D ca b0 w0 v M' C hz hg hr => ?_⟩
    have hg := hg _ rfl
    exact ⟨hg.1, fun hw H locs ls cells slots h1 h2 h3 h4 h5 => lv_icmp_eq C.1 C.2.1 d ht (fun h => absurd h hc) (fun _ => (hg.2 hw H locs ls cells slots h1 h2 h3 h4 h5))⟩
theorem sn_ifne {off : Int} {t : Nat} (d : decode cc pc = .ok (.ifCond .ne off, 3)) (ht : (pc : Int) + off = (t : Int)) (hn : pc + 3 = n) : mt_Sl Z cc nL own nm ret fr lo pc (o_ifne t n) := by
  rintro ⟨lv, st, M⟩ z hq
  rcases st with _ | ⟨x | x, st⟩ <;> simp only [o_ifne, reduceCtorEq] at hq
  subst hn
  by_cases hc : x = 0
  · rw [if_pos hc] at hq
    have hq := Option.some.inj hq
    subst hq
    refine ⟨fun x hx => by cases hx; exact mt_mo0, fun r hx => (by cases hx), fun p l e R s m args below meth c Q D ca b0 w0 v M' C hz hg hr => ?_⟩
    have hg := hg _ rfl
    exact ⟨hg.1, fun hw H locs ls cells slots h1 h2 h3 h4 h5 => lv_if_ne C.1 C.2.1 d ht (fun h => absurd hc h) (fun _ => (hg.2 hw H locs ls cells slots h1 h2 h3 h4 h5))⟩
  · rw [if_neg hc] at hq
    have hq := Option.some.inj hq
    subst hq
    refine ⟨fun x hx => by cases hx; exact mt_mo0, fun r hx => (by cases hx), fun p l e R s m args below meth c Q D ca b0 w0 v M' C hz hg hr => ?_⟩
    have hg := hg _ rfl
    exact ⟨hg.1, fun hw H locs ls cells slots h1 h2 h3 h4 h5 => lv_if_ne C.1 C.2.1 d ht (fun _ => (hg.2 hw H locs ls cells slots h1 h2 h3 h4 h5)) (fun h => absurd h hc)⟩
theorem sn_icne {off : Int} {t : Nat} (d : decode cc pc = .ok (.if_icmp .ne off, 3)) (ht : (pc : Int) + off = (t : Int)) (hn : pc + 3 = n) : mt_Sl Z cc nL own nm ret fr lo pc (o_icne t n) := by
  rintro ⟨lv, st, M⟩ z hq
  rcases st with _ | ⟨y | y, _ | ⟨x | x, st⟩⟩ <;> simp only [o_icne, reduceCtorEq] at hq
  subst hn
  by_cases hc : x = y
  · rw [if_pos hc] at hq
    have hq := Option.some.inj hq
    subst hq
    refine ⟨fun x hx => by cases hx; exact mt_mo0, fun r hx => (by cases hx), fun p l e R s m args below meth c Q D ca b0 w0 v M' C hz hg hr => ?_⟩
    have hg := hg _ rfl
    exact ⟨hg.1, fun hw H locs ls cells slots h1 h2 h3 h4 h5 => lv_icmp_ne C.1 C.2.1 d ht (fun h => absurd hc h) (fun _ => (hg.2 hw H locs ls cells slots h1 h2 h3 h4 h5))⟩
  · rw [if_neg hc] at hq
    have hq := Option.some.inj hq
    subst hq
    refine ⟨fun x hx => by cases hx; exact mt_mo0, fun r hx => (by cases hx), fun p l e R s m args below meth c Q D ca b0 w0 v M' C hz hg hr => ?_⟩
    have hg := hg _ rfl
    exact ⟨hg.1, fun hw H locs ls cells slots h1 h2 h3 h4 h5 => lv_icmp_ne C.1 C.2.1 d ht (fun _ => (hg.2 hw H locs ls cells slots h1 h2 h3 h4 h5)) (fun h => absurd h hc)⟩
theorem sn_iflt {off : Int} {t : Nat} (d : decode cc pc = .ok (.ifCond .lt off, 3)) (ht : (pc : Int) + off = (t : Int)) (hn : pc + 3 = n) : mt_Sl Z cc nL own nm ret fr lo pc (o_iflt t n) := by
  rintro ⟨lv, st, M⟩ z hq
  rcases st with _ | ⟨x | x, st⟩ <;> simp only [o_iflt, reduceCtorEq] at hq
  subst hn
  by_cases hc : x < 0
  · rw [if_pos hc] at hq
    have hq := Option.some.inj hq
    subst hq
    refine ⟨fun x hx => by cases hx; exact mt_mo0, fun r hx => (by cases hx), fun p l e R s m args below meth c Q D ca b0 w0 v M' C hz hg hr => ?_⟩
    have hg := hg _ rfl
    exact ⟨hg.1, fun hw H locs ls cells slots h1 h2 h3 h4 h5 => lv_if_lt C.1 C.2.1 d ht (fun _ => (hg.2 hw H locs ls cells slots h1 h2 h3 h4 h5)) (fun h => absurd hc h)⟩
  · rw [if_neg hc] at hq
    have hq := Option.some.inj hq
    subst hq
    refine ⟨fun x hx => by cases hx; exact mt_mo0, fun r hx => (by cases hx), fun p l e R s m args below meth c Q D ca b0 w0 v M' C hz hg hr => ?_⟩
    have hg := hg _ rfl
    exact ⟨hg.1, fun hw H locs ls cells slots h1 h2 h3 h4 h5 => lv_if_lt C.1 C.2.1 d ht (fun h => absurd h hc) (fun _ => (hg.2 hw H locs ls cells slots h1 h2 h3 h4 h5))⟩
theorem sn_iclt {off : Int} {t : Nat} (d : decode cc pc = .ok (.if_icmp .lt off, 3)) (ht : (pc : Int) + off = (t : Int)) (hn : pc + 3 = n) : mt_Sl Z cc nL own nm ret fr lo pc (o_iclt t n) := by
  rintro ⟨lv, st, M⟩ z hq
  rcases st with _ | ⟨y | y, _ | ⟨x | x, st⟩⟩ <;> simp only [o_iclt, reduceCtorEq] at hq
  subst hn
  by_cases hc : x < y
  · rw [if_pos hc] at hq
    have hq := Option.some.inj hq
    subst hq
    refine ⟨fun x hx => by cases hx; exact mt_mo0, fun r hx => (by cases hx), fun p l e R s m args below meth c Q D ca b0 w0 v M' C hz hg hr => ?_⟩
    have hg := hg _ rfl
    exact ⟨hg.1, fun hw H locs ls cells slots h1 h2 h3 h4 h5 => lv_icmp_lt C.1 C.2.1 d ht (fun _ => (hg.2 hw H locs ls cells slots h1 h2 h3 h4 h5)) (fun h => absurd hc h)⟩
  · rw [if_neg hc] at hq
    have hq := Option.some.inj hq
    subst hq
    refine ⟨fun x hx => by cases hx; exact mt_mo0, fun r hx => (by cases hx), fun p l e R s m args below meth c Q D ca b0 w0 v M' C hz hg hr => ?_⟩
    have hg := hg _ rfl
    exact ⟨hg.1, fun hw H locs ls cells slots h1 h2 h3 h4 h5 => lv_icmp_lt C.1 C.2.1 d ht (fun h => absurd h hc) (fun _ => (hg.2 hw H locs ls cells slots h1 h2 h3 h4 h5))⟩
theorem sn_ifge {off : Int} {t : Nat} (d : decode cc pc = .ok (.ifCond .ge off, 3)) (ht : (pc : Int) + off = (t : Int)) (hn : pc + 3 = n) : mt_Sl Z cc nL own nm ret fr lo pc (o_ifge t n) := by
  rintro ⟨lv, st, M⟩ z hq
  rcases st with _ | ⟨x | x, st⟩ <;> simp only [o_ifge, reduceCtorEq] at hq
  subst hn
  by_cases hc : 0 ≤ x
  · rw [if_pos hc] at hq
    have hq := Option.some.inj hq
    subst hq
    refine ⟨fun x hx => by cases hx; exact mt_mo0, fun r hx => (by cases hx), fun p l e R s m args below meth c Q D ca b0 w0 v M' C hz hg hr => ?_⟩
    have hg := hg _ rfl
    exact ⟨hg.1, fun hw H locs ls cells slots h1 h2 h3 h4 h5 => lv_if_ge C.1 C.2.1 d ht (fun _ => (hg.2 hw H locs ls cells slots h1 h2 h3 h4 h5)) (fun h => absurd hc h)⟩
  · rw [if_neg hc] at hq
    have hq := Option.some.inj hq
    subst hq
    refine ⟨fun x hx => by cases hx; exact mt_mo0, fun r hx => (by cases hx), fun p l e R s m args below meth c Q D ca b0 w0 v M' C hz hg hr => ?_⟩
    have hg := hg _ rfl
    exact ⟨hg.1, fun hw H locs ls cells slots h1 h2 h3 h4 h5 => lv_if_ge C.1 C.2.1 d ht (fun h => absurd h hc) (fun _ => (hg.2 hw H locs ls cells slots h1 h2 h3 h4 h5))⟩
theorem sn_icge {off : Int} {t : Nat} (d : decode cc pc = .ok (.if_icmp .ge off, 3)) (ht : (pc : Int) + off = (t : Int)) (hn : pc + 3 = n) : mt_Sl Z cc nL own nm ret fr lo pc (o_icge t n) := by
  rintro ⟨lv, st, M⟩ z hq
  rcases st with _ | ⟨y | y, _ | ⟨x | x, st⟩⟩ <;> simp only [o_icge, reduceCtorEq] at hq
  subst hn
  by_cases hc : y ≤ x
  · rw [if_pos hc] at hq
    have hq := Option.some.inj hq
    subst hq
    refine ⟨fun x hx => by cases hx; exact mt_mo0, fun r hx => (by cases hx), fun p l e R s m args below meth c Q D ca b0 w0 v M' C hz hg hr => ?_⟩
    have hg := hg _ rfl
    exact ⟨hg.1, fun hw H locs ls cells slots h1 h2 h3 h4 h5 => lv_icmp_ge C.1 C.2.1 d ht (fun _ => (hg.2 hw H locs ls cells slots h1 h2 h3 h4 h5)) (fun h => absurd hc h)⟩
  · rw [if_neg hc] at hq
    have hq := Option.some.inj hq
    subst hq
    refine ⟨fun x hx => by cases hx; exact mt_mo0, fun r hx => (by cases hx), fun p l e R s m args below meth c Q D ca b0 w0 v M' C hz hg hr => ?_⟩
    have hg := hg _ rfl
    exact ⟨hg.1, fun hw H locs ls cells slots h1 h2 h3 h4 h5 => lv_icmp_ge C.1 C.2.1 d ht (fun h => absurd h hc) (fun _ => (hg.2 hw H locs ls cells slots h1 h2 h3 h4 h5))⟩
theorem sn_ifgt {off : Int} {t : Nat} (d : decode cc pc = .ok (.ifCond .gt off, 3)) (ht : (pc : Int) + off = (t : Int)) (hn : pc + 3 = n) : mt_Sl Z cc nL own nm ret fr lo pc (o_ifgt t n) := by
  rintro ⟨lv, st, M⟩ z hq
  rcases st with _ | ⟨x | x, st⟩ <;> simp only [o_ifgt, reduceCtorEq] at hq
  subst hn
  by_cases hc : 0 < x
  · rw [if_pos hc] at hq
    have hq := Option.some.inj hq
    subst hq
    refine ⟨fun x hx => by cases hx; exact mt_mo0, fun r hx => (by cases hx), fun p l e R s m args below meth c Q D ca b0 w0 v M' C hz hg hr => ?_⟩
    have hg := hg _ rfl
    exact ⟨hg.1, fun hw H locs ls cells slots h1 h2 h3 h4 h5 => lv_if_gt C.1 C.2.1 d ht (fun _ => (hg.2 hw H locs ls cells slots h1 h2 h3 h4 h5)) (fun h => absurd hc h)⟩
  · rw [if_neg hc] at hq
    have hq := Option.some.inj hq
    subst hq
    refine ⟨fun x hx => by cases hx; exact mt_mo0, fun r hx => (by cases hx), fun p l e R s m args below meth c Q D ca b0 w0 v M' C hz hg hr => ?_⟩
    have hg := hg _ rfl
    exact ⟨hg.1, fun hw H locs ls cells slots h1 h2 h3 h4 h5 => lv_if_gt C.1 C.2.1 d ht (fun h => absurd h hc) (fun _ => (hg.2 hw H locs ls cells slots h1 h2 h3 h4 h5))⟩
theorem sn_icgt {off : Int} {t : Nat} (d : decode cc pc = .ok (.if_icmp .gt off, 3)) (ht : (pc : Int) + off = (t : Int)) (hn : pc + 3 = n) : mt_Sl Z cc nL own nm ret fr lo pc (o_icgt t n) := by
  rintro ⟨lv, st, M⟩ z hq
  rcases st with _ | ⟨y | y, _ | ⟨x | x, st⟩⟩ <;> simp only [o_icgt, reduceCtorEq] at hq
  subst hn
  by_cases hc : y < x
  · rw [if_pos hc] at hq
    have hq := Option.some.inj hq
    subst hq
    refine ⟨fun x hx => by cases hx; exact mt_mo0, fun r hx => (by cases hx), fun p l e R s m args below meth c Q D ca b0 w0 v M' C hz hg hr => ?_⟩
    have hg := hg _ rfl
    exact ⟨hg.1, fun hw H locs ls cells slots h1 h2 h3 h4 h5 => lv_icmp_gt C.1 C.2.1 d ht (fun _ => (hg.2 hw H locs ls cells slots h1 h2 h3 h4 h5)) (fun h => absurd hc h)⟩
  · rw [if_neg hc] at hq
    have hq := Option.some.inj hq
    subst hq
    refine ⟨fun x hx => by cases hx; exact mt_mo0, fun r hx => (by cases hx), fun p l e R s m args below meth c Q D ca b0 w0 v M' C hz hg hr => ?_⟩
    have hg := hg _ rfl
    exact ⟨hg.1, fun hw H locs ls cells slots h1 h2 h3 h4 h5 => lv_icmp_gt C.1 C.2.1 d ht (fun h => absurd h hc) (fun _ => (hg.2 hw H locs ls cells slots h1 h2 h3 h4 h5))⟩
theorem sn_ifle {off : Int} {t : Nat} (d : decode cc pc = .ok (.ifCond .le off, 3)) (ht : (pc : Int) + off = (t : Int)) (hn : pc + 3 = n) : mt_Sl Z cc nL own nm ret fr lo pc (o_ifle t n) := by
  rintro ⟨lv, st, M⟩ z hq
  rcases st with _ | ⟨x | x, st⟩ <;> simp only [o_ifle, reduceCtorEq] at hq
  subst hn
  by_cases hc : x ≤ 0
  · rw [if_pos hc] at hq
    have hq := Option.some.inj hq
    subst hq
    refine ⟨fun x hx => by cases hx; exact mt_mo0, fun r hx => (by cases hx), fun p l e R s m args below meth c Q D ca b0 w0 v M' C hz hg hr => ?_⟩
    have hg := hg _ rfl
    exact ⟨hg.1, fun hw H locs ls cells slots h1 h2 h3 h4 h5 => lv_if_le C.1 C.2.1 d ht (fun _ => (hg.2 hw H locs ls cells slots h1 h2 h3 h4 h5)) (fun h => absurd hc h)⟩
  · rw [if_neg hc] at hq
    have hq := Option.some.inj hq
    subst hq
    refine ⟨fun x hx => by cases hx; exact mt_mo0, fun r hx => (by cases hx), fun p l e R s m args below meth c Q D ca b0 w0 v M' C hz hg hr => ?_⟩
    have hg := hg _ rfl
    exact ⟨hg.1, fun hw H locs ls cells slots h1 h2 h3 h4 h5 => lv_if_le C.1 C.2.1 d ht (fun h => absurd h hc) (fun _ => (hg.2 hw H locs ls cells slots h1 h2 h3 h4 h5))⟩
theorem sn_icle {off : Int} {t : Nat} (d : decode cc pc = .ok (.if_icmp .le off, 3)) (ht : (pc : Int) + off = (t : Int)) (hn : pc + 3 = n) : mt_Sl Z cc nL own nm ret fr lo pc (o_icle t n) := by
  rintro ⟨lv, st, M⟩ z hq
  rcases st with _ | ⟨y | y, _ | ⟨x | x, st⟩⟩ <;> simp only [o_icle, reduceCtorEq] at hq
  subst hn
  by_cases hc : x ≤ y
  · rw [if_pos hc] at hq
    have hq := Option.some.inj hq
    subst hq
    refine ⟨fun x hx => by cases hx; exact mt_mo0, fun r hx => (by cases hx), fun p l e R s m args below meth c Q D ca b0 w0 v M' C hz hg hr => ?_⟩
    have hg := hg _ rfl
    exact ⟨hg.1, fun hw H locs ls cells slots h1 h2 h3 h4 h5 => lv_icmp_le C.1 C.2.1 d ht (fun _ => (hg.2 hw H locs ls cells slots h1 h2 h3 h4 h5)) (fun h => absurd hc h)⟩
  · rw [if_neg hc] at hq
    have hq := Option.some.inj hq
    subst hq
    refine ⟨fun x hx => by cases hx; exact mt_mo0, fun r hx => (by cases hx), fun p l e R s m args below meth c Q D ca b0 w0 v M' C hz hg hr => ?_⟩
    have hg := hg _ rfl
    exact ⟨hg.1, fun hw H locs ls cells slots h1 h2 h3 h4 h5 => lv_icmp_le C.1 C.2.1 d ht (fun h => absurd h hc) (fun _ => (hg.2 hw H locs ls cells slots h1 h2 h3 h4 h5))⟩
theorem sn_acne {off : Int} {t : Nat} (d : decode cc pc = .ok (.if_acmp .ne off, 3)) (ht : (pc : Int) + off = (t : Int)) (hn : pc + 3 = n) : mt_Sl Z cc nL own nm ret fr lo pc (o_acne t n) := by
  rintro ⟨lv, st, M⟩ z hq
  rcases st with _ | ⟨y | y, _ | ⟨x | x, st⟩⟩ <;> simp only [o_acne, reduceCtorEq] at hq
  subst hn
  by_cases hc : x = y
  · rw [if_pos hc] at hq
    have hq := Option.some.inj hq
    subst hq
    refine ⟨fun x hx => by cases hx; exact mt_mo0, fun r hx => (by cases hx), fun p l e R s m args below meth c Q D ca b0 w0 v M' C hz hg hr => ?_⟩
    have hg := hg _ rfl
    exact ⟨hg.1, fun hw H locs ls cells slots h1 h2 h3 h4 h5 => lv_acmp_ne C.1 C.2.1 d ht (fun h => absurd hc h) (fun _ => (hg.2 hw H locs ls cells slots h1 h2 h3 h4 h5))⟩
  · rw [if_neg hc] at hq
    have hq := Option.some.inj hq
    subst hq
    refine ⟨fun x hx => by cases hx; exact mt_mo0, fun r hx => (by cases hx), fun p l e R s m args below meth c Q D ca b0 w0 v M' C hz hg hr => ?_⟩
    have hg := hg _ rfl
    exact ⟨hg.1, fun hw H locs ls cells slots h1 h2 h3 h4 h5 => lv_acmp_ne C.1 C.2.1 d ht (fun _ => (hg.2 hw H locs ls cells slots h1 h2 h3 h4 h5)) (fun h => absurd h hc)⟩
theorem sn_ifnull {off : Int} {t : Nat} (d : decode cc pc = .ok (.ifnull off, 3)) (ht : (pc : Int) + off = (t : Int)) (hn : pc + 3 = n) : mt_Sl Z cc nL own nm ret fr lo pc (o_ifnull t n) := by
  rintro ⟨lv, st, M⟩ z hq
  rcases st with _ | ⟨x | _ | x, st⟩ <;> simp only [o_ifnull, reduceCtorEq, Option.some.injEq] at hq
  · subst hq
    refine ⟨fun x hx => by cases hx; exact mt_mo0, fun r hx => (by cases hx), fun p l e R s m args below meth c Q D ca b0 w0 v M' C hz hg hr => ?_⟩
    have hg := hg _ rfl
    exact ⟨hg.1, fun hw H locs ls cells slots h1 h2 h3 h4 h5 => lv_ifnullN C.1 C.2.1 d ht (hg.2 hw H locs ls cells slots h1 h2 h3 h4 h5)⟩
  · subst hq
    refine ⟨fun x hx => by cases hx; exact mt_mo0, fun r hx => (by cases hx), fun p l e R s m args below meth c Q D ca b0 w0 v M' C hz hg hr => ?_⟩
    have hg := hg _ rfl
    subst hn
    exact ⟨hg.1, fun hw H locs ls cells slots h1 h2 h3 h4 h5 => lv_ifnull C.1 C.2.1 d (hg.2 hw H locs ls cells slots h1 h2 h3 h4 h5)⟩
theorem sn_ifnonnull {off : Int} {t : Nat} (d : decode cc pc = .ok (.ifnonnull off, 3)) (ht : (pc : Int) + off = (t : Int)) (hn : pc + 3 = n) : mt_Sl Z cc nL own nm ret fr lo pc (o_ifnonnull t n) := by
  rintro ⟨lv, st, M⟩ z hq
  rcases st with _ | ⟨x | _ | x, st⟩ <;> simp only [o_ifnonnull, reduceCtorEq, Option.some.injEq] at hq
  · subst hq
    refine ⟨fun x hx => by cases hx; exact mt_mo0, fun r hx => (by cases hx), fun p l e R s m args below meth c Q D ca b0 w0 v M' C hz hg hr => ?_⟩
    have hg := hg _ rfl
    subst hn
    exact ⟨hg.1, fun hw H locs ls cells slots h1 h2 h3 h4 h5 => lv_ifnonnullN C.1 C.2.1 d (hg.2 hw H locs ls cells slots h1 h2 h3 h4 h5)⟩
  · subst hq
    refine ⟨fun x hx => by cases hx; exact mt_mo0, fun r hx => (by cases hx), fun p l e R s m args below meth c Q D ca b0 w0 v M' C hz hg hr => ?_⟩
    have hg := hg _ rfl
    exact ⟨hg.1, fun hw H locs ls cells slots h1 h2 h3 h4 h5 => lv_ifnonnull C.1 C.2.1 d ht (hg.2 hw H locs ls cells slots h1 h2 h3 h4 h5)⟩
theorem sn_goto {off : Int} (d : decode cc pc = .ok (.goto off, 3)) (ht : (pc : Int) + off = (n : Int)) : mt_Sl Z cc nL own nm ret fr lo pc (o_fall n) := by
  rintro ⟨lv, st, M⟩ z hq
  simp only [o_fall, Option.some.injEq] at hq
  subst hq
  refine ⟨fun x hx => by cases hx; exact mt_mo0, fun r hx => (by cases hx), fun p l e R s m args below meth c Q D ca b0 w0 v M' C hz hg hr => ?_⟩
  have hg := hg _ rfl
  exact ⟨hg.1, fun hw H locs ls cells slots h1 h2 h3 h4 h5 => lv_goto C.1 C.2.1 d ht (hg.2 hw H locs ls cells slots h1 h2 h3 h4 h5)⟩
theorem sn_fall : mt_Sl Z cc nL own nm ret fr lo pc (o_fall pc) := by
  rintro ⟨lv, st, M⟩ z hq
  simp only [o_fall, Option.some.injEq] at hq
  subst hq
  refine ⟨fun x hx => by cases hx; exact mt_mo0, fun r hx => (by cases hx), fun p l e R s m args below meth c Q D ca b0 w0 v M' C hz hg hr => ?_⟩
  exact hg _ rfl
theorem sn_tsw {dflt lw hi : Int} {offs : Array Int} {len : Nat} {t : Nat} {ts : List Nat} (d : decode cc pc = .ok (.tableswitch dflt lw hi offs, len)) (ht : (pc : Int) + dflt = (t : Int)) (ho : ts.map (fun x : Nat => (x : Int)) = offs.toList.map (fun x => (pc : Int) + x)) : mt_Sl Z cc nL own nm ret fr lo pc (o_tsw lw hi t ts) := by
  rintro ⟨lv, st, M⟩ z hq
  rcases st with _ | ⟨x | x, st⟩ <;> simp only [o_tsw, reduceCtorEq] at hq
  by_cases hc : x.toInt < lw ∨ hi < x.toInt
  · rw [if_pos hc] at hq
    have hq := Option.some.inj hq
    subst hq
    refine ⟨fun x hx => by cases hx; exact mt_mo0, fun r hx => (by cases hx), fun p l e R s m args below meth c Q D ca b0 w0 v M' C hz hg hr => ?_⟩
    have hg := hg _ rfl
    exact ⟨hg.1, fun hw H locs ls cells slots h1 h2 h3 h4 h5 => lv_tableOut C.1 C.2.1 d hc ht (hg.2 hw H locs ls cells slots h1 h2 h3 h4 h5)⟩
  · rw [if_neg hc] at hq
    cases ht2 : ts[(x.toInt - lw).toNat]? with
    | none => simp [ht2] at hq
    | some t2 =>
      simp only [ht2, Option.some.injEq] at hq
      subst hq
      refine ⟨fun x hx => by cases hx; exact mt_mo0, fun r hx => (by cases hx), fun p l e R s m args below meth c Q D ca b0 w0 v M' C hz hg hr => ?_⟩
      have hg := hg _ rfl
      have h7 : (ts.map (fun x : Nat => (x : Int)))[(x.toInt - lw).toNat]? = some (t2 : Int) := by rw [List.getElem?_map, ht2]; rfl
      rw [ho, List.getElem?_map] at h7
      cases hof : offs.toList[(x.toInt - lw).toNat]? with
      | none => rw [hof] at h7; cases h7
      | some off =>
        rw [hof] at h7
        have h8 : (pc : Int) + off = (t2 : Int) := Option.some.inj h7
        rw [Array.getElem?_toList] at hof
        exact ⟨hg.1, fun hw H locs ls cells slots h1 h2 h3 h4 h5 => lv_tableIn C.1 C.2.1 d (fun h => hc (Or.inl h)) (fun h => hc (Or.inr h)) hof h8 (hg.2 hw H locs ls cells slots h1 h2 h3 h4 h5)⟩
-- returns
theorem sn_ret (d : decode cc pc = .ok (.return_, 1)) (hr0 : ret = none) : mt_Sl Z cc nL own nm ret fr lo pc o_ret := by
  rintro ⟨lv, st, M⟩ z hq
  rcases st with _ | ⟨x, st⟩ <;> simp only [o_ret, reduceCtorEq, Option.some.injEq] at hq
  subst hq
  refine ⟨fun x hx => (by cases hx), fun r hx => by cases hx; exact mt_mo0, fun p l e R s m args below meth c Q D ca b0 w0 v M' C hz hg hr => ?_⟩
  have hr := hr _ rfl
  cases hr
  exact ⟨⟨Nat.le_refl _, Nat.le_refl _⟩, fun hw H locs ls cells slots h1 h2 h3 h4 _ => C.2.2.2.2.2.2.2.2.2 H locs ls cells slots pc (Or.inl ⟨d, hr0, rfl⟩) hw h1 h2 h3 h4⟩
theorem sn_iret (d : decode cc pc = .ok (.ireturn, 1)) (hr0 : ret = some .int) : mt_Sl Z cc nL own nm ret fr lo pc o_iret := by
  rintro ⟨lv, st, M⟩ z hq
  rcases st with _ | ⟨x | x, _ | ⟨y, st⟩⟩ <;> simp only [o_iret, reduceCtorEq, Option.some.injEq] at hq
  subst hq
  refine ⟨fun x hx => (by cases hx), fun r hx => by cases hx; exact mt_mo0, fun p l e R s m args below meth c Q D ca b0 w0 v M' C hz hg hr => ?_⟩
  have hr := hr _ rfl
  cases hr
  exact ⟨⟨Nat.le_refl _, Nat.le_refl _⟩, fun hw H locs ls cells slots h1 h2 h3 h4 _ => C.2.2.2.2.2.2.2.2.2 H locs ls cells slots pc (Or.inr (Or.inl ⟨d, .int, x, hr0, rfl, rfl⟩)) hw h1 h2 h3 h4⟩
theorem mt_z_ok {x : Int32} (h : mt_z x = true) : narrow .boolean (.int x) = .int x ∧ fits .boolean (.int x) = true ∧ vp_nar .boolean x = x := by
  have h2 : x = 0 ∨ x = 1 := by
    unfold mt_z at h
    simpa using h
  rcases h2 with h2 | h2 <;> subst h2 <;> decide
theorem sn_zret (d : decode cc pc = .ok (.ireturn, 1)) (hr0 : ret = some .boolean) : mt_Sl Z cc nL own nm ret fr lo pc o_zret := by
  rintro ⟨lv, st, M⟩ z hq
  rcases st with _ | ⟨x | x, _ | ⟨y, st⟩⟩ <;> simp only [o_zret, reduceCtorEq] at hq
  by_cases hc : mt_z x = true
  · rw [if_pos hc] at hq
    have hq := Option.some.inj hq
    subst hq
    refine ⟨fun x hx => (by cases hx), fun r hx => by cases hx; exact mt_mo0, fun p l e R s m args below meth c Q D ca b0 w0 v M' C hz hg hr => ?_⟩
    have hr := hr _ rfl
    cases hr
    exact ⟨⟨Nat.le_refl _, Nat.le_refl _⟩, fun hw H locs ls cells slots h1 h2 h3 h4 _ => C.2.2.2.2.2.2.2.2.2 H locs ls cells slots pc (Or.inr (Or.inl ⟨d, .boolean, x, hr0, rfl, (mt_z_ok hc).1⟩)) hw h1 h2 h3 h4⟩
  · rw [if_neg hc] at hq; cases hq
theorem sn_aret {cn : String} (d : decode cc pc = .ok (.areturn, 1)) (hr0 : ret = some (.object cn)) : mt_Sl Z cc nL own nm ret fr lo pc o_aret := by
  rintro ⟨lv, st, M⟩ z hq
  rcases st with _ | ⟨x | x, _ | ⟨y, st⟩⟩ <;> simp only [o_aret, reduceCtorEq, Option.some.injEq] at hq
  subst hq
  refine ⟨fun x hx => (by cases hx), fun r hx => by cases hx; exact mt_mo0, fun p l e R s m args below meth c Q D ca b0 w0 v M' C hz hg hr => ?_⟩
  have hr := hr _ rfl
  cases hr
  exact ⟨⟨Nat.le_refl _, Nat.le_refl _⟩, fun hw H locs ls cells slots h1 h2 h3 h4 _ => C.2.2.2.2.2.2.2.2.2 H locs ls cells slots pc (Or.inr (Or.inr ⟨d, cn, x, hr0, rfl⟩)) hw h1 h2 h3 h4⟩
end SN
