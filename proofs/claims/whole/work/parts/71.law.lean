def R_law : String := "TreeCarrierLaw"
def lw_P (b : Addr) (xs : List Int32) (args : Array Value) (s : State) : Prop := args = #[.ref b] ∧ s.IntsAt b xs ∧ xs.length ≤ 2560 ∧ (Jvm.Cond.and given_1 narrow_1).before args s = true
def lw_Q (_ : Array Value) (s : State) (o : Outcome) (t : State) : Prop := o = .returned (some (.int 1)) ∧ Framed s o t [] 600000 7302250
def lw_Z (below : List Frame) (a : Array Value) (s : State) : State → Prop := fun t => ∃ o, t.status = .running ∧ Ended t below o ∧ lw_Q a s o t
/-- the law's own end, with 1 on the stack, nothing written that was there before, its room as the claim has it -/
theorem lw_ret {p : Program} {l : Launch} {e : Env} {s : State} {m : MethodId} {below : List Frame} {meth : Method} {c : Code} {b : Nat} (hx : p.tables.exec = Jvm.exec) (hb : c.code = code) (hr : meth.sig.returnType = ret) (hlocks : meth.locks = false) {pc : Nat} {H : Heap} {ls : Array Slot} (hdg : decode code pc = .ok (.ireturn, 1)) : W p l e room_1 s m #[Value.ref b] below meth c H [] 600000 7302250 (lw_Z below #[Value.ref b] s) (F0 m pc ls [.int 1]) := by
  intro T hT X
  obtain ⟨fs, hret, hrun, hended, hW, hframe⟩ := X.leave (v := some (.int 1)) (hlocks := hlocks) (fun h => by rw [hr] at h; cases h)
  have hmeth' : T.vm.method? m = some meth := X.method'
  refine ⟨T.setFrames fs, ?_, .returned (some (.int 1)), hrun, hended, rfl, ⟨_, rfl⟩, hW, hframe⟩
  jvm_step X.here [X.here.top, hx, hb, hdg, hmeth', hr, ret, narrow_b1]
  (try refine ⟨rfl, ?_⟩); (try refine ⟨rfl, ?_⟩)
  first | (intro acts; rw [hret _ acts rfl rfl rfl]) | rw [hret _ _ rfl rfl rfl]
  exact Steps.refl _
/-- what holds at the law's entry: the machine, the code, the tables' words (any of lw_tbl by 'hts w (by decide +kernel)'), the script of L ints xs at the cell b, what the Statement gives of the start (any of its parts by flat_of_before) -/
def lw_At (p : Program) (s : State) (m : MethodId) (meth : Method) (c : Code) (b L : Nat) (xs : Nat → Int32) : Prop :=
  p.tables.exec = Jvm.exec ∧ c.code = code ∧ meth.sig.returnType = ret ∧ c.maxLocals = 4 ∧ s.vm.findClass R_law = some m.cls ∧ (∀ w ∈ lw_tbl, w.before #[Value.ref b] s = true) ∧ va_X b L xs s s.heap ∧ b < s.heap.size ∧ meth.locks = false ∧ (Jvm.Cond.and given_1 narrow_1).before #[Value.ref b] s = true
/-- a run of the law's code that ends with 1, within the room, is its walk -/
theorem whole_of {p : Program} {e : Env} {s : State} {m : MethodId} {below : List Frame} {meth : Method} {c : Code} (l : Launch) {b L : Nat} {xs : Nat → Int32} (hpure : mt_T (cdL b L xs) 0 (mt_l0 4 [.inr (some b)], [], (s.heap.size, 0, fun _ => none)) (fun r => r.1 = some (.inl (nI 1)) ∧ r.2.1 ≤ s.heap.size + 600000 ∧ r.2.2.1 ≤ 7302250)) (C0 : lw_At p s m meth c b L xs) : W p l e room_1 s m #[Value.ref b] below meth c s.heap [] 0 0 (lw_Z below #[Value.ref b] s) (entryFrame m ([Value.ref b] : List Value).toArray 4) := by
  obtain ⟨hx, hb, hr, hml, hown, hts, hX, hbl, hlocks, hgv⟩ := C0
  obtain ⟨n, ⟨v, M'⟩, hn, hv, hM1, hM2⟩ := hpure
  have hv : v = some (.inl (nI 1)) := hv
  subst hv
  have hM1 : M'.1 ≤ s.heap.size + 600000 := hM1
  have hM2 : M'.2.1 ≤ 7302250 := hM2
  obtain ⟨D, ca, hK⟩ := mt_K_start hts
  have hC : mt_C p l e room_1 s m #[Value.ref b] below meth c (lw_Z below #[Value.ref b] s) code 4 R_LW meth.name (some .boolean) 9 340 D ca s.heap.size 0 (some (.inl (nI 1))) M' := by
    refine ⟨hx, hb, hml, hown, fun w h => hts w (List.mem_filter.mp h).1, hK, Nat.le_refl _, ⟨by decide, by decide, ?_, ?_⟩, rfl, ?_⟩
    · show M'.1 ≤ 600000 + s.heap.size
      omega
    · show M'.2.1 ≤ 7302250 + 0
      omega
    · intro H locs ls cells slots pc hret hw' hP' hS' hc hs'
      rcases hret with ⟨d, hr0, -⟩ | ⟨d, -⟩ | ⟨d, cn, x, hr0, -⟩
      · cases hr0
      · refine va_forget (fun q hq => hS'.2.2 q hq) ?_
        refine W.widen (k := 600000) (n := 7302250) (by omega) (by omega) ?_
        exact lw_ret hx hb hr hlocks d
      · cases hr0
  have hG := mt_sound (sdL b L xs meth.name) hC ⟨hX, hbl, hbl⟩ n 0 _ hn
  have hl := lv_entry ([Value.ref b] : List Value) (n := 4) (Nat.le_of_ble_eq_true rfl)
  rw [lg_entry_eq]
  generalize (lg_sl ([Value.ref b] : List Value) ++ List.replicate (4 - (lg_sl ([Value.ref b] : List Value)).length) Slot.unset).toArray = ls at hl ⊢
  have hl2 : lv_has ls 4 (ml 0 (mt_l0 4 [.inr (some b)])) := ⟨hl.1, hl.2.1, fun q hq => hl.2.2 q (ml_args 4 0 [.inr (some b)] q hq)⟩
  have hwf : mt_wf s.heap.size (s.heap.size, 0, fun _ => none) := fun a e h => by cases h
  have hP : va_P D mCl (mt_ws ca s.heap.size (s.heap.size, 0, fun _ => none)) s.heap := fun k q hk => by
    have h1 := mt_at hk
    have h2 : q.1 < s.heap.size := h1.2.2
    have h3 := h1.2.1
    omega
  exact hG.2 hwf s.heap [] ls 0 0 hP va_S.rf (Nat.zero_add _) rfl hl2
