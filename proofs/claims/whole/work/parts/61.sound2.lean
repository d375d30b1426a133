/-! Soundness, second part: fields, arrays, new cells, calls, and a method's contract out of its code. -/
theorem gf_ok {M : m_M} {ci a k : Nat} {x : m_V} (h : gf M ci a k = some x) : ∃ fs : List m_V, M.2.2 a = some (.inl (ci, fs)) ∧ fnth fs k = some x := by
  unfold gf at h
  split at h
  · next c fs hm =>
    split at h
    · next hc =>
      subst hc
      exact ⟨fs, hm, h⟩
    · cases h
  · cases h
theorem pf_ok {M M1 : m_M} {ci a k : Nat} {x : m_V} (h : pf M ci a k x = some M1) : ∃ fs : List m_V, M.2.2 a = some (.inl (ci, fs)) ∧ k < fs.length ∧ M1 = mup M a (.inl (ci, fset fs k x)) := by
  unfold pf at h
  split at h
  · next c fs hm =>
    split at h
    · next hc =>
      obtain ⟨hc, hk⟩ := hc
      subst hc
      exact ⟨fs, hm, hk, (Option.some.inj h).symm⟩
    · cases h
  · cases h
theorem gi_ok {M : m_M} {t a n : Nat} {f : Nat → Int32} (h : gi t M a = some (n, f)) : M.2.2 a = some (.inr (t, n, .inl f)) := by
  unfold gi at h
  split at h
  · next c n2 f2 hm =>
    split at h
    · next hc =>
      subst hc
      cases h
      exact hm
    · cases h
  · cases h
theorem ga_ok {M : m_M} {t a n : Nat} {f : Nat → Option Nat} (h : ga t M a = some (n, f)) : M.2.2 a = some (.inr (t, n, .inr f)) := by
  unfold ga at h
  split at h
  · next c n2 f2 hm =>
    split at h
    · next hc =>
      subst hc
      cases h
      exact hm
    · cases h
  · cases h
theorem is_ok {M : m_M} {ci a : Nat} (h : mt_is M ci a = true) : ∃ fs : List m_V, M.2.2 a = some (.inl (ci, fs)) := by
  unfold mt_is at h
  split at h
  · next c fs hm =>
    have hc : c = ci := by simpa using h
    subst hc
    exact ⟨fs, hm⟩
  · cases h
theorem ix_ok {i : Int32} {n j : Nat} (h : mt_ix i n = some j) : vp_in i n ∧ j = i.toNatClampNeg := by
  unfold mt_ix at h
  split at h
  · cases h
  · next hc => exact ⟨hc, (Option.some.inj h).symm⟩
theorem fnth_map {x : m_V} : ∀ {fs : List m_V} {k : Nat}, fnth fs k = some x → (fs.map tv)[k]? = some (tv x)
  | [], k, h => by simp [fnth] at h
  | y :: t, 0, h => by
    simp only [fnth, Option.some.injEq] at h
    subst h
    rfl
  | y :: t, k + 1, h => fnth_map (fs := t) (k := k) h
theorem fset_map {x : m_V} : ∀ {fs : List m_V} {k : Nat}, (fset fs k x).map tv = (fs.map tv).set k (tv x)
  | [], k => rfl
  | y :: t, 0 => rfl
  | y :: t, k + 1 => by
    show tv y :: (fset t k x).map tv = tv y :: (t.map tv).set k (tv x)
    rw [fset_map]
def mt_cls (ci : Nat) (C : String) (T : u_T) (N : Nat) (t : Nat → FieldType) : Prop := mCl[ci]? = some (C, T, N) ∧ (∀ w ∈ u_ws C T N, w ∈ lw_good) ∧ (∀ k, k < N → parseFieldDescriptor (T k).2.2.1 = some (t k)) ∧ (∀ a, a < N → ∀ b, b < N → a ≠ b → (T a).2.1 ≠ (T b).2.1) ∧ Cond.instantiable C N ∈ lw_good ∧ Cond.initialized C ∈ lw_good
def mt_lk (own : String) (idx : Nat) (C : String) (T : u_T) (k : Nat) : Prop := Cond.fieldLink own idx C (T k).2.1 (T k).2.2.1 ∈ lw_good ∨ ∃ host, Cond.fieldLinkNest own idx C (T k).2.1 (T k).2.2.1 host ∈ lw_nest
section SN
variable {Z : Nat → State → Prop} {cc : ByteArray} {nL : Nat} {own nm : String} {ret : Option FieldType} {fr lo pc n : Nat}
theorem sn_get {ci k idx N : Nat} {C0 : String} {T : u_T} {t : Nat → FieldType} (d : decode cc pc = .ok (.getfield idx, 3)) (hc : mt_cls ci C0 T N t) (hk : k < N) (hd : (T k).1 = C0) (hl : mt_lk own idx C0 T k) (hn : pc + 3 = n) : mt_Sp Z cc nL own nm ret fr lo pc n (o_get ci k) := by
  rintro ⟨lv, st, M⟩ q' hq
  rcases st with _ | ⟨x | _ | a, st⟩ <;> simp only [o_get, reduceCtorEq] at hq
  cases hgf : gf M ci a k with
  | none => simp [hgf] at hq
  | some x =>
    simp only [hgf, Option.some.injEq] at hq
    subst hq
    subst hn
    obtain ⟨fs, hfs, hx⟩ := gf_ok hgf
    refine ⟨mt_mo0, fun p l e R s m args below meth c Q D ca b0 w0 v M' C hz hg => ⟨hg.1, fun hw H locs ls cells slots h1 h2 h3 h4 h5 => ?_⟩⟩
    obtain ⟨q0, hq0⟩ := mt_pl (ca := ca) hw hfs
    have hq0 : (mt_ws ca b0 M)[q0]? = some (a, .inr (ci, fs.map tv)) := hq0
    have hsame : ∀ x, s.fieldFound? (T k).1 (T k).2.1 (T k).2.2.1 = some x → s.fieldFound? C0 (T k).2.1 (T k).2.2.1 = some x := fun x h => by rw [hd] at h; exact h
    rcases hl with hl | ⟨host, hl⟩
    · exact va_get C.1 C.2.1 C.2.2.2.2.1 hc.2.1 C.2.2.2.1 C.2.2.2.2.2.1.1 h1 q0 hq0 hc.1 k hk (C.2.2.2.2.1 _ hl) hsame (fnth_map hx) d (hg.2 hw H locs ls cells slots h1 h2 h3 h4 h5)
    · exact va_getN C.1 C.2.1 C.2.2.2.2.1 hc.2.1 C.2.2.2.1 C.2.2.2.2.2.1.1 h1 q0 hq0 hc.1 k hk (va_Nw.use rfl (C.2.2.2.2.2.1.2.1 _ hl)) hsame (fnth_map hx) d (hg.2 hw H locs ls cells slots h1 h2 h3 h4 h5)
theorem mt_put {x : m_V} {ci k a idx N : Nat} {C0 : String} {T : u_T} {t : Nat → FieldType} {lv : List (Option m_V)} {st : List m_V} {M : m_M} {fs : List m_V} (hfs : M.2.2 a = some (.inl (ci, fs))) (hkl : k < fs.length) (d : decode cc pc = .ok (.putfield idx, 3)) (hc : mt_cls ci C0 T N t) (hk : k < N) (hd : (T k).1 = C0) (hl : mt_lk own idx C0 T k) (hfin : (T k).2.2.2 = false) (hnar : narrow (t k) (tv x) = tv x) (hfit : fits (t k) (tv x) = true)
    {p : Program} {l : Launch} {e : Env} {R : Room} {s : State} {m : MethodId} {args : Array Value} {below : List Frame} {meth : Method} {c : Code} {Q : State → Prop} {D : va_G} {ca : Nat → ClassId} {b0 w0 : Nat} {v : Option m_V} {M' : m_M} (C : mt_C p l e R s m args below meth c Q cc nL own nm ret fr lo D ca b0 w0 v M') (hg : mt_G p l e R s m args below meth c Q nL D ca b0 w0 M' (pc + 3) (lv, st, mup M a (.inl (ci, fset fs k x)))) : mt_G p l e R s m args below meth c Q nL D ca b0 w0 M' pc (lv, x :: .inr (some a) :: st, M) := by
  refine ⟨hg.1, fun hw H locs ls cells slots h1 h2 h3 h4 h5 => ?_⟩
  obtain ⟨q0, hq0⟩ := mt_pl (ca := ca) hw hfs
  have hset := fun e => mt_set (e := e) hw hfs hq0
  have hq0 : (mt_ws ca b0 M)[q0]? = some (a, .inr (ci, fs.map tv)) := hq0
  have hsame : ∀ x, s.fieldFound? (T k).1 (T k).2.1 (T k).2.2.1 = some x → s.fieldFound? C0 (T k).2.1 (T k).2.2.1 = some x := fun x h => by rw [hd] at h; exact h
  have hset2 : (mt_ws ca b0 M).set q0 (a, .inr (ci, (fs.map tv).set k (tv x))) = mt_ws ca b0 (mup M a (.inl (ci, fset fs k x))) := by
    rw [← hset (.inl (ci, fset fs k x)), ← fset_map]
    rfl
  have hkl2 : k < (fs.map tv).length := by rw [List.length_map]; exact hkl
  rcases hl with hl | ⟨host, hl⟩
  · refine va_put C.1 C.2.1 C.2.2.2.2.1 hc.2.1 t hc.2.2.1 hc.2.2.2.1 C.2.2.2.1 C.2.2.2.2.2.1.1 h1 (mt_D ca b0 M) h2 q0 hq0 hc.1 k hk (C.2.2.2.2.1 _ hl) hsame hfin (hc.2.2.1 k hk) hnar hfit hkl2 d (fun H1 locs1 hP1 _ hS1 => ?_)
    rw [hset2] at hP1
    exact hg.2 (wf_up hw hfs) H1 locs1 ls cells slots hP1 hS1 h3 h4 h5
  · refine va_putN C.1 C.2.1 C.2.2.2.2.1 hc.2.1 t hc.2.2.1 hc.2.2.2.1 C.2.2.2.1 C.2.2.2.2.2.1.1 h1 (mt_D ca b0 M) h2 q0 hq0 hc.1 k hk (va_Nw.use rfl (C.2.2.2.2.2.1.2.1 _ hl)) hsame hfin (hc.2.2.1 k hk) hnar hfit hkl2 d (fun H1 locs1 hP1 _ hS1 => ?_)
    rw [hset2] at hP1
    exact hg.2 (wf_up hw hfs) H1 locs1 ls cells slots hP1 hS1 h3 h4 h5
theorem mt_putF {x : m_V} {ci k a idx N : Nat} {C0 : String} {T : u_T} {t : Nat → FieldType} {lv : List (Option m_V)} {st : List m_V} {M : m_M} {fs : List m_V} (hfs : M.2.2 a = some (.inl (ci, fs))) (hkl : k < fs.length) (d : decode cc pc = .ok (.putfield idx, 3)) (hc : mt_cls ci C0 T N t) (hk : k < N) (hd : (T k).1 = C0) (hl : Cond.fieldLink own idx C0 (T k).2.1 (T k).2.2.1 ∈ lw_good) (hfin : (T k).2.2.2 = true) (hown : C0 = own) (hini : nm = "<init>") (hnar : narrow (t k) (tv x) = tv x) (hfit : fits (t k) (tv x) = true)
    {p : Program} {l : Launch} {e : Env} {R : Room} {s : State} {m : MethodId} {args : Array Value} {below : List Frame} {meth : Method} {c : Code} {Q : State → Prop} {D : va_G} {ca : Nat → ClassId} {b0 w0 : Nat} {v : Option m_V} {M' : m_M} (C : mt_C p l e R s m args below meth c Q cc nL own nm ret fr lo D ca b0 w0 v M') (hg : mt_G p l e R s m args below meth c Q nL D ca b0 w0 M' (pc + 3) (lv, st, mup M a (.inl (ci, fset fs k x)))) : mt_G p l e R s m args below meth c Q nL D ca b0 w0 M' pc (lv, x :: .inr (some a) :: st, M) := by
  refine ⟨hg.1, fun hw H locs ls cells slots h1 h2 h3 h4 h5 => ?_⟩
  obtain ⟨q0, hq0⟩ := mt_pl (ca := ca) hw hfs
  have hset := fun e => mt_set (e := e) hw hfs hq0
  have hq0 : (mt_ws ca b0 M)[q0]? = some (a, .inr (ci, fs.map tv)) := hq0
  have hsame : ∀ x, s.fieldFound? (T k).1 (T k).2.1 (T k).2.2.1 = some x → s.fieldFound? C0 (T k).2.1 (T k).2.2.1 = some x := fun x h => by rw [hd] at h; exact h
  have hset2 : (mt_ws ca b0 M).set q0 (a, .inr (ci, (fs.map tv).set k (tv x))) = mt_ws ca b0 (mup M a (.inl (ci, fset fs k x))) := by
    rw [← hset (.inl (ci, fset fs k x)), ← fset_map]
    rfl
  have hkl2 : k < (fs.map tv).length := by rw [List.length_map]; exact hkl
  refine va_putF C.1 C.2.1 C.2.2.2.2.1 hc.2.1 t hc.2.2.1 hc.2.2.2.1 C.2.2.2.1 C.2.2.2.2.2.1.1 h1 (mt_D ca b0 M) h2 q0 hq0 hc.1 k hk (C.2.2.2.2.1 _ hl) hsame hfin (by rw [C.2.2.2.2.2.2.2.2.1]; exact hini) (by rw [hd]; exact hown) (hc.2.2.1 k hk) hnar hfit hkl2 d (fun H1 locs1 hP1 _ hS1 => ?_)
  rw [hset2] at hP1
  exact hg.2 (wf_up hw hfs) H1 locs1 ls cells slots hP1 hS1 h3 h4 h5
theorem sn_putI {ci k idx N : Nat} {C0 : String} {T : u_T} {t : Nat → FieldType} (d : decode cc pc = .ok (.putfield idx, 3)) (hc : mt_cls ci C0 T N t) (hk : k < N) (hd : (T k).1 = C0) (hl : mt_lk own idx C0 T k) (hfin : (T k).2.2.2 = false) (ht : t k = .int) (hn : pc + 3 = n) : mt_Sp Z cc nL own nm ret fr lo pc n (o_putI ci k) := by
  rintro ⟨lv, st, M⟩ q' hq
  rcases st with _ | ⟨x | x, _ | ⟨y | _ | a, st⟩⟩ <;> simp only [o_putI, reduceCtorEq] at hq
  cases hpf : pf M ci a k (.inl x) with
  | none => simp [hpf] at hq
  | some M1 =>
    simp only [hpf, Option.some.injEq] at hq
    subst hq
    subst hn
    obtain ⟨fs, hfs, hkl, hM⟩ := pf_ok hpf
    subst hM
    exact ⟨mt_mo0, fun p l e R s m args below meth c Q D ca b0 w0 v M' C hz hg => mt_put hfs hkl d hc hk hd hl hfin (by rw [ht]; rfl) (by rw [ht]; rfl) C hg⟩
theorem sn_putZ {ci k idx N : Nat} {C0 : String} {T : u_T} {t : Nat → FieldType} (d : decode cc pc = .ok (.putfield idx, 3)) (hc : mt_cls ci C0 T N t) (hk : k < N) (hd : (T k).1 = C0) (hl : mt_lk own idx C0 T k) (hfin : (T k).2.2.2 = false) (ht : t k = .boolean) (hn : pc + 3 = n) : mt_Sp Z cc nL own nm ret fr lo pc n (o_putZ ci k) := by
  rintro ⟨lv, st, M⟩ q' hq
  rcases st with _ | ⟨x | x, _ | ⟨y | _ | a, st⟩⟩ <;> simp only [o_putZ, reduceCtorEq] at hq
  by_cases hzx : mt_z x = true
  · rw [if_pos hzx] at hq
    cases hpf : pf M ci a k (.inl x) with
    | none => simp [hpf] at hq
    | some M1 =>
      simp only [hpf, Option.some.injEq] at hq
      subst hq
      subst hn
      obtain ⟨fs, hfs, hkl, hM⟩ := pf_ok hpf
      subst hM
      exact ⟨mt_mo0, fun p l e R s m args below meth c Q D ca b0 w0 v M' C hz hg => mt_put hfs hkl d hc hk hd hl hfin (by rw [ht]; exact (mt_z_ok hzx).1) (by rw [ht]; exact (mt_z_ok hzx).2.1) C hg⟩
  · rw [if_neg hzx] at hq
    cases hq
theorem sn_putA {ci k idx N : Nat} {C0 : String} {T : u_T} {t : Nat → FieldType} (d : decode cc pc = .ok (.putfield idx, 3)) (hc : mt_cls ci C0 T N t) (hk : k < N) (hd : (T k).1 = C0) (hl : mt_lk own idx C0 T k) (hfin : (T k).2.2.2 = false) (ht : ∀ a : Nat, narrow (t k) (.ref a) = .ref a ∧ fits (t k) (.ref a) = true) (hn : pc + 3 = n) : mt_Sp Z cc nL own nm ret fr lo pc n (o_putA ci k) := by
  rintro ⟨lv, st, M⟩ q' hq
  rcases st with _ | ⟨x | _ | x, _ | ⟨y | _ | a, st⟩⟩ <;> simp only [o_putA, reduceCtorEq] at hq
  cases hpf : pf M ci a k (.inr (some x)) with
  | none => simp [hpf] at hq
  | some M1 =>
    simp only [hpf, Option.some.injEq] at hq
    subst hq
    subst hn
    obtain ⟨fs, hfs, hkl, hM⟩ := pf_ok hpf
    subst hM
    exact ⟨mt_mo0, fun p l e R s m args below meth c Q D ca b0 w0 v M' C hz hg => mt_put (x := .inr (some x)) hfs hkl d hc hk hd hl hfin (ht x).1 (ht x).2 C hg⟩
theorem sn_putF {ci k idx N : Nat} {C0 : String} {T : u_T} {t : Nat → FieldType} (d : decode cc pc = .ok (.putfield idx, 3)) (hc : mt_cls ci C0 T N t) (hk : k < N) (hd : (T k).1 = C0) (hl : Cond.fieldLink own idx C0 (T k).2.1 (T k).2.2.1 ∈ lw_good) (hfin : (T k).2.2.2 = true) (hown : C0 = own) (hini : nm = "<init>") (ht : ∀ a : Nat, narrow (t k) (.ref a) = .ref a ∧ fits (t k) (.ref a) = true) (hn : pc + 3 = n) : mt_Sp Z cc nL own nm ret fr lo pc n (o_putA ci k) := by
  rintro ⟨lv, st, M⟩ q' hq
  rcases st with _ | ⟨x | _ | x, _ | ⟨y | _ | a, st⟩⟩ <;> simp only [o_putA, reduceCtorEq] at hq
  cases hpf : pf M ci a k (.inr (some x)) with
  | none => simp [hpf] at hq
  | some M1 =>
    simp only [hpf, Option.some.injEq] at hq
    subst hq
    subst hn
    obtain ⟨fs, hfs, hkl, hM⟩ := pf_ok hpf
    subst hM
    exact ⟨mt_mo0, fun p l e R s m args below meth c Q D ca b0 w0 v M' C hz hg => mt_putF (x := .inr (some x)) hfs hkl d hc hk hd hl hfin hown hini (ht x).1 (ht x).2 C hg⟩
theorem sn_iald (d : decode cc pc = .ok (.iaload, 1)) (hn : pc + 1 = n) : mt_Sp Z cc nL own nm ret fr lo pc n o_iald := by
  rintro ⟨lv, st, M⟩ q' hq
  rcases st with _ | ⟨i | i, _ | ⟨y | _ | a, st⟩⟩ <;> simp only [o_iald, reduceCtorEq] at hq
  cases hgi : gi 0 M a with
  | none => simp [hgi] at hq
  | some nf =>
    obtain ⟨N, f⟩ := nf
    simp only [hgi] at hq
    cases hix : mt_ix i N with
    | none => simp [hix] at hq
    | some j =>
      simp only [hix, Option.some.injEq] at hq
      subst hq
      subst hn
      have hm := gi_ok hgi
      obtain ⟨hin, hj⟩ := ix_ok hix
      subst hj
      refine ⟨mt_mo0, fun p l e R s m args below meth c Q D ca b0 w0 v M' C hz hg => ⟨hg.1, fun hw H locs ls cells slots h1 h2 h3 h4 h5 => ?_⟩⟩
      obtain ⟨q0, hq0⟩ := mt_pl (ca := ca) hw hm
      exact va_iald C.1 C.2.1 C.2.2.2.2.2.1.1 h1 q0 0 hq0 rfl hin d (hg.2 hw H locs ls cells slots h1 h2 h3 h4 h5)
theorem sn_zald (d : decode cc pc = .ok (.baload, 1)) (hn : pc + 1 = n) : mt_Sp Z cc nL own nm ret fr lo pc n o_zald := by
  rintro ⟨lv, st, M⟩ q' hq
  rcases st with _ | ⟨i | i, _ | ⟨y | _ | a, st⟩⟩ <;> simp only [o_zald, reduceCtorEq] at hq
  cases hgi : gi 1 M a with
  | none => simp [hgi] at hq
  | some nf =>
    obtain ⟨N, f⟩ := nf
    simp only [hgi] at hq
    cases hix : mt_ix i N with
    | none => simp [hix] at hq
    | some j =>
      simp only [hix, Option.some.injEq] at hq
      subst hq
      subst hn
      have hm := gi_ok hgi
      obtain ⟨hin, hj⟩ := ix_ok hix
      subst hj
      refine ⟨mt_mo0, fun p l e R s m args below meth c Q D ca b0 w0 v M' C hz hg => ⟨hg.1, fun hw H locs ls cells slots h1 h2 h3 h4 h5 => ?_⟩⟩
      obtain ⟨q0, hq0⟩ := mt_pl (ca := ca) hw hm
      exact va_zald C.1 C.2.1 C.2.2.2.2.2.1.1 h1 q0 1 hq0 rfl hin d (hg.2 hw H locs ls cells slots h1 h2 h3 h4 h5)
theorem sn_aald {t : Nat} {C0 : String} (ht : ∀ ca, (mt_tys ca)[t]? = some (ca t, .object C0)) (d : decode cc pc = .ok (.aaload, 1)) (hn : pc + 1 = n) : mt_Sp Z cc nL own nm ret fr lo pc n (o_aald t) := by
  rintro ⟨lv, st, M⟩ q' hq
  rcases st with _ | ⟨i | i, _ | ⟨y | _ | a, st⟩⟩ <;> simp only [o_aald, reduceCtorEq] at hq
  cases hgi : ga t M a with
  | none => simp [hgi] at hq
  | some nf =>
    obtain ⟨N, f⟩ := nf
    simp only [hgi] at hq
    cases hix : mt_ix i N with
    | none => simp [hix] at hq
    | some j =>
      simp only [hix, Option.some.injEq] at hq
      subst hq
      subst hn
      have hm := ga_ok hgi
      obtain ⟨hin, hj⟩ := ix_ok hix
      subst hj
      refine ⟨mt_mo0, fun p l e R s m args below meth c Q D ca b0 w0 v M' C hz hg => ⟨hg.1, fun hw H locs ls cells slots h1 h2 h3 h4 h5 => ?_⟩⟩
      obtain ⟨q0, hq0⟩ := mt_pl (ca := ca) hw hm
      exact va_aldq C.1 C.2.1 C.2.2.2.2.2.1.1 h1 q0 t hq0 (ht ca) hin d (hg.2 hw H locs ls cells slots h1 h2 h3 h4 h5)
theorem sn_iast (d : decode cc pc = .ok (.iastore, 1)) (hn : pc + 1 = n) : mt_Sp Z cc nL own nm ret fr lo pc n o_iast := by
  rintro ⟨lv, st, M⟩ q' hq
  rcases st with _ | ⟨x | x, _ | ⟨i | i, _ | ⟨y | _ | a, st⟩⟩⟩ <;> simp only [o_iast, reduceCtorEq] at hq
  cases hgi : gi 0 M a with
  | none => simp [hgi] at hq
  | some nf =>
    obtain ⟨N, f⟩ := nf
    simp only [hgi] at hq
    cases hix : mt_ix i N with
    | none => simp [hix] at hq
    | some j =>
      simp only [hix] at hq
      have hq := Option.some.inj hq
      subst hq
      subst hn
      have hm := gi_ok hgi
      obtain ⟨hin, hj⟩ := ix_ok hix
      subst hj
      refine ⟨mt_mo0, fun p l e R s m args below meth c Q D ca b0 w0 v M' C hz hg => ⟨hg.1, fun hw H locs ls cells slots h1 h2 h3 h4 h5 => ?_⟩⟩
      obtain ⟨q0, hq0⟩ := mt_pl (ca := ca) hw hm
      have hset := mt_set (ca := ca) (e := .inr (0, N, .inl (upd f i.toNatClampNeg x))) hw hm hq0
      refine va_iast C.1 C.2.1 C.2.2.2.2.2.1.1 h1 (mt_D ca b0 M) h2 q0 0 hq0 rfl hin d (fun H1 locs1 hP1 _ hS1 => ?_)
      exact hg.2 (wf_up hw hm) H1 locs1 ls cells slots (hset ▸ hP1) hS1 h3 h4 h5
theorem sn_zast (d : decode cc pc = .ok (.bastore, 1)) (hn : pc + 1 = n) : mt_Sp Z cc nL own nm ret fr lo pc n o_zast := by
  rintro ⟨lv, st, M⟩ q' hq
  rcases st with _ | ⟨x | x, _ | ⟨i | i, _ | ⟨y | _ | a, st⟩⟩⟩ <;> simp only [o_zast, reduceCtorEq] at hq
  cases hgi : gi 1 M a with
  | none => simp [hgi] at hq
  | some nf =>
    obtain ⟨N, f⟩ := nf
    simp only [hgi] at hq
    cases hix : mt_ix i N with
    | none => simp [hix] at hq
    | some j =>
      simp only [hix] at hq
      by_cases hzx : mt_z x = true
      case neg =>
        rw [if_neg hzx] at hq
        cases hq
      rw [if_pos hzx] at hq
      have hq := Option.some.inj hq
      subst hq
      subst hn
      have hm := gi_ok hgi
      obtain ⟨hin, hj⟩ := ix_ok hix
      subst hj
      refine ⟨mt_mo0, fun p l e R s m args below meth c Q D ca b0 w0 v M' C hz hg => ⟨hg.1, fun hw H locs ls cells slots h1 h2 h3 h4 h5 => ?_⟩⟩
      obtain ⟨q0, hq0⟩ := mt_pl (ca := ca) hw hm
      have hset := mt_set (ca := ca) (e := .inr (1, N, .inl (upd f i.toNatClampNeg x))) hw hm hq0
      refine va_zast C.1 C.2.1 C.2.2.2.2.2.1.1 h1 (mt_D ca b0 M) h2 q0 1 hq0 rfl hin d (fun H1 locs1 hP1 _ hS1 => ?_)
      rw [(mt_z_ok hzx).2.2] at hP1
      exact hg.2 (wf_up hw hm) H1 locs1 ls cells slots (hset ▸ hP1) hS1 h3 h4 h5
theorem sn_aast {t ci : Nat} {r : vw_C} (hc : mCl[ci]? = some r) (ht : ∀ ca, (mt_tys ca)[t]? = some (ca t, .object r.1)) (d : decode cc pc = .ok (.aastore, 1)) (hn : pc + 1 = n) : mt_Sp Z cc nL own nm ret fr lo pc n (o_aast t ci) := by
  rintro ⟨lv, st, M⟩ q' hq
  rcases st with _ | ⟨x | _ | x, _ | ⟨i | i, _ | ⟨y | _ | a, st⟩⟩⟩ <;> simp only [o_aast, reduceCtorEq] at hq
  cases hgi : ga t M a with
  | none => simp [hgi] at hq
  | some nf =>
    obtain ⟨N, f⟩ := nf
    simp only [hgi] at hq
    cases hix : mt_ix i N with
    | none => simp [hix] at hq
    | some j =>
      simp only [hix] at hq
      by_cases hzx : mt_is M ci x = true
      case neg =>
        rw [if_neg hzx] at hq
        cases hq
      rw [if_pos hzx] at hq
      have hq := Option.some.inj hq
      subst hq
      subst hn
      have hm := ga_ok hgi
      obtain ⟨hin, hj⟩ := ix_ok hix
      subst hj
      obtain ⟨fs, hfs⟩ := is_ok hzx
      refine ⟨mt_mo0, fun p l e R s m args below meth c Q D ca b0 w0 v M' C hz hg => ⟨hg.1, fun hw H locs ls cells slots h1 h2 h3 h4 h5 => ?_⟩⟩
      obtain ⟨q0, hq0⟩ := mt_pl (ca := ca) hw hm
      obtain ⟨qk, hqk⟩ := mt_pl (ca := ca) hw hfs
      have hset := mt_set (ca := ca) (e := .inr (t, N, .inr (va_up f i.toNatClampNeg (some x)))) hw hm hq0
      refine va_astq C.1 C.2.1 C.2.2.2.2.2.1.1 h1 (mt_D ca b0 M) h2 q0 t qk ci hq0 (ht ca) hqk hc hin d (fun H1 locs1 hP1 _ hS1 => ?_)
      exact hg.2 (wf_up hw hm) H1 locs1 ls cells slots (hset ▸ hP1) hS1 h3 h4 h5
theorem sn_alen {t : Nat} {C0 : String} (ht : ∀ ca, (mt_tys ca)[t]? = some (ca t, .object C0)) (d : decode cc pc = .ok (.arraylength, 1)) (hn : pc + 1 = n) : mt_Sp Z cc nL own nm ret fr lo pc n (o_alen t) := by
  rintro ⟨lv, st, M⟩ q' hq
  rcases st with _ | ⟨y | _ | a, st⟩ <;> simp only [o_alen, reduceCtorEq] at hq
  cases hgi : ga t M a with
  | none => simp [hgi] at hq
  | some nf =>
    obtain ⟨N, f⟩ := nf
    simp only [hgi, Option.some.injEq] at hq
    subst hq
    subst hn
    have hm := ga_ok hgi
    refine ⟨mt_mo0, fun p l e R s m args below meth c Q D ca b0 w0 v M' C hz hg => ⟨hg.1, fun hw H locs ls cells slots h1 h2 h3 h4 h5 => ?_⟩⟩
    obtain ⟨q0, hq0⟩ := mt_pl (ca := ca) hw hm
    exact va_alen C.1 C.2.1 C.2.2.2.2.2.1.1 h1 q0 t hq0 (ht ca) rfl d (hg.2 hw H locs ls cells slots h1 h2 h3 h4 h5)
/-- a new cell lies at the heap's end -/
theorem mt_q {D : va_G} {ca : Nat → ClassId} {b0 q : Nat} {M : m_M} {x : va_E} {H1 : Heap} (hD : va_D (mt_A b0) (mt_ws ca b0 M ++ [(q, x)])) (hP : va_P D mCl (mt_ws ca b0 M ++ [(q, x)]) H1) (hs : H1.size ≤ M.1 + 1) : q = M.1 := by
  have hlast : (mt_ws ca b0 M ++ [(q, x)])[(mt_ws ca b0 M).length]? = some (q, x) := by
    rw [List.getElem?_append_right (Nat.le_refl _), Nat.sub_self]
    rfl
  have h1 := va_at_lt (hP _ _ hlast)
  have h2 : b0 ≤ q := hD.2 _ _ hlast
  have h1 : q < H1.size := h1
  by_cases h : q < M.1
  · exfalso
    obtain ⟨k, hk⟩ := va_pl_get (X := []) (f := tm ca M.2.2) (mt_mem.mpr (⟨h2, h⟩ : b0 ≤ q ∧ q < M.1))
    have hk : (mt_ws ca b0 M)[k]? = some (q, tm ca M.2.2 q) := hk
    have hkl : k < (mt_ws ca b0 M).length := by
      obtain ⟨h3, -⟩ := List.getElem?_eq_some_iff.mp hk
      exact h3
    have hk2 : (mt_ws ca b0 M ++ [(q, x)])[k]? = some (q, tm ca M.2.2 q) := by
      rw [List.getElem?_append_left hkl]
      exact hk
    have h4 := hD.1 k _ _ _ hk2 hlast rfl
    omega
  · omega
theorem sn_new {ci idx N : Nat} {C0 : String} {T : u_T} {t : Nat → FieldType} {fs : List m_V} (d : decode cc pc = .ok (.new idx, 3)) (hc : mt_cls ci C0 T N t) (hl : Cond.classLink own idx C0 ∈ lw_good) (hfs : ∀ j, j < N → defaultValue (t j) = vp_V (fs.map tv) j) (hN : fs.length = N) (hn : pc + 3 = n) : mt_Sp Z cc nL own nm ret fr lo pc n (o_new ci fs) := by
  rintro ⟨lv, st, M⟩ q' hq
  simp only [o_new, Option.some.injEq] at hq
  subst hq
  subst hn
  subst hN
  refine ⟨⟨Nat.le_succ _, Nat.le_add_right _ _⟩, fun p l e R s m args below meth c Q D ca b0 w0 v M' C hz hg => ⟨⟨Nat.le_trans (Nat.le_succ _) hg.1.1, Nat.le_trans (Nat.le_add_right _ _) hg.1.2⟩, fun hw H locs ls cells slots h1 h2 h3 h4 h5 => ?_⟩⟩
  obtain ⟨hgm, hg⟩ := hg
  have hr := C.2.2.2.2.2.2.2.1
  have hgm1 : M.1 + 1 ≤ M'.1 := hgm.1
  have hgm2 : M.2.1 + fs.length ≤ M'.2.1 := hgm.2
  have h3 : cells + s.heap.size = M.1 := h3
  have h4 : slots + w0 = M.2.1 := h4
  have hb0 : b0 ≤ M.1 := Nat.le_trans C.2.2.2.2.2.2.1 (by omega)
  refine va_new C.1 C.2.1 C.2.2.2.2.1 hc.2.1 t hc.2.2.1 C.2.2.2.1 (C.2.2.2.2.1 _ hl) (C.2.2.2.2.1 _ hc.2.2.2.2.1) (C.2.2.2.2.1 _ hc.2.2.2.2.2) C.2.2.2.2.2.1.1 h1 (mt_D ca b0 M) h2 (fun q hq => Nat.le_trans C.2.2.2.2.2.2.1 hq) hc.1 hfs (by omega) (by omega) d (fun q H1 hP1 hD1 hS1 => ?_)
  refine mt_size (fun hsz => ?_)
  have hqe := mt_q hD1 hP1 (by omega)
  subst hqe
  have hP2 : va_P D mCl (mt_ws ca b0 (mnew M fs.length (.inl (ci, fs)))) H1 := by
    rw [← mt_new hb0]
    exact hP1
  exact hg (wf_new hw hb0) H1 locs ls (cells + 1) (slots + fs.length) hP2 hS1 (by show cells + 1 + s.heap.size = M.1 + 1; omega) (by show slots + fs.length + w0 = M.2.1 + fs.length; omega) h5
theorem sn_newI {t : Nat} {at0 : ArrayType} {ty : FieldType} (d : decode cc pc = .ok (.newarray at0, 2)) (hty : newarray.typeOf at0 = ty) (hw0 : Cond.arrayClass ty ∈ lw_good) (hcell : ∀ (cA : ClassId) (N : Nat), vp_cell cA (N, .inl (fun _ => 0)) = arrV cA N (fun _ => defaultValue ty)) (hcb : componentBytes ty ≤ 4) (ht : ∀ ca, (mt_tys ca)[t]? = some (ca t, ty)) (hra : ∀ (U : State) (c1 c2 : ClassId), va_RA U c1 ty → va_RA U c2 ty → c1 = c2) (hn : pc + 2 = n) : mt_Sp Z cc nL own nm ret fr lo pc n (o_newI t) := by
  rintro ⟨lv, st, M⟩ q' hq
  rcases st with _ | ⟨k | k, st⟩ <;> simp only [o_newI, reduceCtorEq] at hq
  by_cases hk : k < 0 ∨ 65536 < k.toNatClampNeg
  · rw [if_pos hk] at hq
    cases hq
  · rw [if_neg hk] at hq
    have hq := Option.some.inj hq
    subst hq
    subst hn
    obtain ⟨hk0, hk1⟩ := not_or.mp hk
    generalize hkk : k.toNatClampNeg = kk
    rw [hkk] at hk1
    refine ⟨⟨Nat.le_succ _, Nat.le_add_right _ _⟩, fun p l e R s m args below meth c Q D ca b0 w0 v M' C hz hg => ⟨⟨Nat.le_trans (Nat.le_succ _) hg.1.1, Nat.le_trans (Nat.le_add_right _ _) hg.1.2⟩, fun hw H locs ls cells slots h1 h2 h3 h4 h5 => ?_⟩⟩
    obtain ⟨hgm, hg⟩ := hg
    have hr := C.2.2.2.2.2.2.2.1
    have hgm1 : M.1 + 1 ≤ M'.1 := hgm.1
    have hgm2 : M.2.1 + kk ≤ M'.2.1 := hgm.2
    have h3 : cells + s.heap.size = M.1 := h3
    have h4 : slots + w0 = M.2.1 := h4
    have hb0 : b0 ≤ M.1 := Nat.le_trans C.2.2.2.2.2.2.1 (by omega)
    have hbytes : kk * componentBytes ty ≤ 536870912 := Nat.le_trans (Nat.mul_le_mul (show kk ≤ 65536 by omega) hcb) (by decide)
    refine va_newa C.1 C.2.1 (by rw [hty]; exact C.2.2.2.2.1 _ hw0) hty C.2.2.2.2.2.1.1 h1 (mt_D ca b0 M) h2 (fun q hq => Nat.le_trans C.2.2.2.2.2.2.1 hq) (a0 := (kk, .inl (fun _ => 0))) (fun cA => hcell cA kk) hk0 hkk hbytes (by omega) (by omega) d (fun q cA H1 hK1 hP1 hD1 hS1 => ?_)
    refine mt_size (fun hsz => ?_)
    have hcA : ca t = cA := hra s _ _ (C.2.2.2.2.2.1.1.2 t _ (ht ca)).2 (hK1.2 6 (cA, ty) rfl).2
    subst hcA
    have hqe := mt_q hD1 hP1 (by omega)
    subst hqe
    have hP2 : va_P D mCl (mt_ws ca b0 (mnew M kk (.inr (t, kk, .inl (fun _ => 0))))) H1 := by
      rw [← mt_new hb0]
      exact hP1
    exact hg (wf_new hw hb0) H1 locs ls (cells + 1) (slots + kk) hP2 hS1 (by show cells + 1 + s.heap.size = M.1 + 1; omega) (by show slots + kk + w0 = M.2.1 + kk; omega) h5
theorem sn_newA {t idx : Nat} {C0 : String} (d : decode cc pc = .ok (.anewarray idx, 3)) (hl : Cond.classLink own idx C0 ∈ lw_good) (hao : ∀ (D : va_G) (ca : Nat → ClassId) (s : State), mt_K D ca s → va_AO C0 s) (ht : ∀ ca, (mt_tys ca)[t]? = some (ca t, .object C0)) (hn : pc + 3 = n) : mt_Sp Z cc nL own nm ret fr lo pc n (o_newA t) := by
  rintro ⟨lv, st, M⟩ q' hq
  rcases st with _ | ⟨k | k, st⟩ <;> simp only [o_newA, reduceCtorEq] at hq
  by_cases hk : k < 0 ∨ 65536 < k.toNatClampNeg
  · rw [if_pos hk] at hq
    cases hq
  · rw [if_neg hk] at hq
    have hq := Option.some.inj hq
    subst hq
    subst hn
    obtain ⟨hk0, hk1⟩ := not_or.mp hk
    generalize hkk : k.toNatClampNeg = kk
    rw [hkk] at hk1
    refine ⟨⟨Nat.le_succ _, Nat.le_add_right _ _⟩, fun p l e R s m args below meth c Q D ca b0 w0 v M' C hz hg => ⟨⟨Nat.le_trans (Nat.le_succ _) hg.1.1, Nat.le_trans (Nat.le_add_right _ _) hg.1.2⟩, fun hw H locs ls cells slots h1 h2 h3 h4 h5 => ?_⟩⟩
    obtain ⟨hgm, hg⟩ := hg
    have hr := C.2.2.2.2.2.2.2.1
    have hgm1 : M.1 + 1 ≤ M'.1 := hgm.1
    have hgm2 : M.2.1 + kk ≤ M'.2.1 := hgm.2
    have h3 : cells + s.heap.size = M.1 := h3
    have h4 : slots + w0 = M.2.1 := h4
    have hb0 : b0 ≤ M.1 := Nat.le_trans C.2.2.2.2.2.2.1 (by omega)
    refine va_newq C.1 C.2.1 C.2.2.2.1 (C.2.2.2.2.1 _ hl) (hao D ca s C.2.2.2.2.2.1) C.2.2.2.2.2.1.1 h1 (mt_D ca b0 M) h2 (fun q hq => Nat.le_trans C.2.2.2.2.2.2.1 hq) hk0 hkk (by omega) (by omega) (by omega) d (fun q cA H1 hK1 hP1 hD1 hS1 => ?_)
    refine mt_size (fun hsz => ?_)
    have hcA : ca t = cA := by
      obtain ⟨_, _, _, _, _, e1⟩ := (C.2.2.2.2.2.1.1.2 t _ (ht ca)).2
      obtain ⟨_, _, _, _, _, e2⟩ := (hK1.2 6 (cA, .object C0) rfl).2
      exact Option.some.inj (e1.symm.trans e2)
    subst hcA
    have hqe := mt_q hD1 hP1 (by omega)
    subst hqe
    have hP2 : va_P D mCl (mt_ws ca b0 (mnew M kk (.inr (t, kk, .inr (fun _ => none))))) H1 := by
      rw [← mt_new hb0]
      exact hP1
    exact hg (wf_new hw hb0) H1 locs ls (cells + 1) (slots + kk) hP2 hS1 (by show cells + 1 + s.heap.size = M.1 + 1; omega) (by show slots + kk + w0 = M.2.1 + kk; omega) h5
def mt_Zs (sb L : Nat) (xs : Nat → Int32) : Nat → State → Prop := fun b0 s => va_X sb L xs s s.heap ∧ sb < s.heap.size ∧ sb < b0
theorem sn_slen {sb L : Nat} {xs : Nat → Int32} (d : decode cc pc = .ok (.arraylength, 1)) (hn : pc + 1 = n) : mt_Sp (mt_Zs sb L xs) cc nL own nm ret fr lo pc n (o_slen sb L) := by
  rintro ⟨lv, st, M⟩ q' hq
  rcases st with _ | ⟨y | _ | a, st⟩ <;> simp only [o_slen, reduceCtorEq] at hq
  by_cases hk : a = sb
  · rw [if_pos hk] at hq
    have hq := Option.some.inj hq
    subst hq
    subst hn
    subst hk
    exact ⟨mt_mo0, fun p l e R s m args below meth c Q D ca b0 w0 v M' C hz hg => ⟨hg.1, fun hw H locs ls cells slots h1 h2 h3 h4 h5 => va_slen C.1 C.2.1 hz.1 hz.2.1 (fun h => Nat.lt_irrefl _ (Nat.lt_of_lt_of_le hz.2.2 h)) h2 d (hg.2 hw H locs ls cells slots h1 h2 h3 h4 h5)⟩⟩
  · rw [if_neg hk] at hq
    cases hq
theorem sn_sld {sb L : Nat} {xs : Nat → Int32} (d : decode cc pc = .ok (.iaload, 1)) (hn : pc + 1 = n) : mt_Sp (mt_Zs sb L xs) cc nL own nm ret fr lo pc n (o_sld sb L xs) := by
  rintro ⟨lv, st, M⟩ q' hq
  rcases st with _ | ⟨i | i, _ | ⟨y | _ | a, st⟩⟩ <;> simp only [o_sld, reduceCtorEq] at hq
  by_cases hk : a = sb
  · rw [if_pos hk] at hq
    cases hix : mt_ix i L with
    | none => simp [hix] at hq
    | some j =>
      simp only [hix, Option.some.injEq] at hq
      subst hq
      subst hn
      subst hk
      obtain ⟨hin, hj⟩ := ix_ok hix
      subst hj
      exact ⟨mt_mo0, fun p l e R s m args below meth c Q D ca b0 w0 v M' C hz hg => ⟨hg.1, fun hw H locs ls cells slots h1 h2 h3 h4 h5 => va_sld C.1 C.2.1 hz.1 hz.2.1 (fun h => Nat.lt_irrefl _ (Nat.lt_of_lt_of_le hz.2.2 h)) h2 hin d (hg.2 hw H locs ls cells slots h1 h2 h3 h4 h5)⟩⟩
  · rw [if_neg hk] at hq
    cases hq
theorem sn_objinit {idx : Nat} (d : decode cc pc = .ok (.invokespecial idx, 3)) (hl : Cond.methodLink own idx Lib.objectInit ∈ lw_good) (hi : Cond.instanceMethod Lib.objectInit ∈ lw_good) (hcd : Cond.code Lib.objectInit ⟨#[0xb1]⟩ 1 none ∈ lw_good) (hR : 1 ≤ fr ∧ 20 ≤ lo) (hn : pc + 3 = n) : mt_Sp Z cc nL own nm ret fr lo pc n o_objinit := by
  rintro ⟨lv, st, M⟩ q' hq
  rcases st with _ | ⟨y | _ | a, st⟩ <;> simp only [o_objinit, reduceCtorEq] at hq
  by_cases hk : st.length ≤ 8
  · rw [if_pos hk] at hq
    have hq := Option.some.inj hq
    subst hq
    subst hn
    refine ⟨mt_mo0, fun p l e R s m args below meth c Q D ca b0 w0 v M' C hz hg => ⟨hg.1, fun hw H locs ls cells slots h1 h2 h3 h4 h5 => ?_⟩⟩
    have hr := C.2.2.2.2.2.2.2.1
    have hm8 := lv_room (m := m) (pc := pc) (ls := ls) (rest := (Sum.inr (some a) :: st : List m_V).map tv) (st := st.map tv) (by rw [tv_sum]; exact hk)
    exact W.objInit C.1 C.2.1 C.2.2.2.1 (C.2.2.2.2.1 _ hl) (C.2.2.2.2.1 _ hi) (C.2.2.2.2.1 _ hcd) (g := F0 m pc ls ((Sum.inr (some a) :: st : List m_V).map tv)) rfl (by rw [C.2.2.1]; exact h5.1) (a := a) (rest := st.map tv) rfl d (Nat.le_trans hR.1 hr.1) (by have := hr.2.1; omega) (hg.2 hw H locs ls cells slots h1 h2 h3 h4 h5)
  · rw [if_neg hk] at hq
    cases hq
end SN
section CL
variable {p : Program} {l : Launch} {e : Env} {R : Room} {s : State} {m : MethodId} {args : Array Value} {below : List Frame} {meth : Method} {c : Code} {Q : State → Prop} {D : va_G} {ca : Nat → ClassId} {b0 w0 nL : Nat} {M' : m_M}
theorem mt_aft {H : Heap} {locs : List Loc} {cells slots mc ms pc n : Nat} {ls : Array Slot} {st0 : List Value} {a' : Array Value} {r : m_R} {lv : List (Option m_V)} {st' : List m_V} (hrun : va_Run p l e R s m args below meth c H locs cells slots mc ms (F0 m pc ls st0) (st'.map tv) (mt_Q D ca b0 r.1 r.2 a') (mt_A b0)) (hS : va_S (mt_A b0) s.heap H locs) (hc : cells + mc + s.heap.size = r.2.1) (hs : slots + ms + w0 = r.2.2.1) (h5 : lv_has ls nL (ml 0 lv)) (hn : pc + 3 = n) (hg : mt_G p l e R s m args below meth c Q nL D ca b0 w0 M' n (lv, r.1.toList ++ st', r.2)) : W p l e R s m args below meth c H locs cells slots Q (F0 m pc ls st0) := by
  intro T hT X
  obtain ⟨v1, st₀, t, T', L, h0, X', hL, e1, e2, ⟨hv, hw', hP', hz, hk⟩, hgo⟩ := hrun T hT X
  have hv : v1 = r.1.map tv := by cases hv; rfl
  subst hv
  rw [h0] at hz hk
  have hg2 := hg.2 hw' T'.heap (locs ++ L) ls (cells + mc) (slots + ms) (by rw [e1]; exact hP')
    ⟨Nat.le_trans hS.1 (by rw [e1]; exact hz), fun q h1 h2 => by rw [e1, hk q (Nat.lt_of_lt_of_le h1 hS.1) h2]; exact hS.2.1 q h1 h2, fun q hq => by
      rcases List.mem_append.mp hq with h | h
      · exact hS.2.2 q h
      · exact hL q h⟩ hc hs h5
  obtain ⟨t2, a1, b1⟩ := hg2 T' rfl X'
  subst hn
  refine ⟨t2, hgo t2 ?_, b1⟩
  have hst : (r.1.map tv).toList ++ st'.map tv = (r.1.toList ++ st').map tv := by
    cases r.1 <;> simp
  show Steps p.tables e below (T'.setTop (F0 m (pc + 3) ls ((r.1.map tv).toList ++ st'.map tv))) t2
  rw [hst]
  exact a1
theorem mt_blind {av : List Value} {M : m_M} : FrameBlind (va_Pc av (mt_U D ca b0 M)) := fun a U g mk q => by
  obtain ⟨q0, q1, q2, q3, q4, q5⟩ := q
  exact ⟨q0, q1, q2, q3, q4, mt_K_same (u := U) (U := U.calling g mk a) rfl q5⟩
theorem mt_pre {M : m_M} {H : Heap} {av : List Value} (hK : mt_K D ca s) (hz : H.size = M.1) (hb : b0 ≤ M.1) (hw : mt_wf b0 M) (hP : va_P D mCl (mt_ws ca b0 M) H) : ∀ U : State, U.heap = H → s.WarmedH U.vm → va_Pc av (mt_U D ca b0 M) av.toArray U := fun U hU hW => by
  refine ⟨rfl, ?_, hb, hw, ?_, mt_K_warm hW hK⟩
  · rw [hU]; exact hz
  · rw [hU]; exact hP
end CL
def mt_lm (own : String) (idx : Nat) (y : MethodName) (cY : ByteArray) (nY : Nat) (rY : Option FieldType) (k : Nat) : Prop :=
  (y.cls ≠ "java/lang/invoke/MethodHandle" ∧ y.cls ≠ "java/lang/invoke/VarHandle" ∧ (parseMethodDescriptor y.desc).map (fun d => d.parameters.length) = some k) ∧ Cond.code y cY nY rY ∈ lw_good ∧ Cond.initialized y.cls ∈ lw_good ∧ (Cond.methodLink own idx y ∈ lw_good ∨ ∃ host, Cond.methodLinkNest own idx y host ∈ lw_nest)
theorem mt_words {y : MethodName} {cY : ByteArray} {nY : Nat} {rY : Option FieldType} (h : Cond.code y cY nY rY ∈ lw_good) : GoodIn lw_good (Cond.code y cY nY rY :: lw_good) := fun w hw => by
  have h2 : w ∈ lw_good := by
    rcases List.mem_cons.mp hw with h1 | h1
    · rw [h1]; exact h
    · exact h1
  exact ⟨h2, lw_good_ok h2⟩
theorem mt_wordsA {ys : List Cond} {y : MethodName} {cY : ByteArray} {nY : Nat} {rY : Option FieldType} (hy : ∀ w ∈ ys, w ∈ lw_good) (h : Cond.code y cY nY rY ∈ lw_good) : GoodIn lw_good (ys ++ (Cond.code y cY nY rY :: lw_good)) := fun w hw => by
  rcases List.mem_append.mp hw with h1 | h1
  · exact ⟨hy w h1, lw_good_ok (hy w h1)⟩
  · exact mt_words h w h1
theorem mt_cat_ref {av : List m_V} {st' st : List m_V} {a : Nat} (h : (Sum.inr (some a) :: av : List m_V).reverse ++ st' = st) : st.map tv = (av.map tv).reverse ++ Value.ref a :: st'.map tv := by
  rw [← h]
  simp [tv, va_rf]
theorem mt_cat_all {av : List m_V} {st' st : List m_V} (h : av.reverse ++ st' = st) : st.map tv = (av.map tv).reverse ++ st'.map tv := by
  rw [← h]
  simp
section SN
variable {Z : Nat → State → Prop} {cc : ByteArray} {nL : Nat} {own nm : String} {ret : Option FieldType} {fr lo pc n : Nat}
theorem sn_callV {y : MethodName} {cY : ByteArray} {nY : Nat} {rY : Option FieldType} {fY lY : Nat} {sem : List m_V → m_M → Option m_R} {ci : Nat} {r : vw_C} {k idx : Nat} (d : decode cc pc = .ok (.invokevirtual idx, 3)) (os : mt_OkS y cY nY rY fY lY sem) (hc : mCl[ci]? = some r) (hy : y.cls = r.1) (hm : mt_lm own idx y cY nY rY k) (hin : Cond.instanceMethod y ∈ lw_good) (hse : Cond.selects r.1 y y ∈ lw_good) (hR : fY + 1 ≤ fr ∧ 8 + (nY + 11) + lY ≤ lo) (hk : k + 1 ≤ nY) (hn : pc + 3 = n) : mt_Sl Z cc nL own nm ret fr lo pc (o_callV sem ci (k + 1) n) := by
  rintro ⟨lv, st, M⟩ z hq
  simp only [o_callV] at hq
  cases hp : mt_pop (k + 1) [] st with
  | none => simp [hp] at hq
  | some ab =>
    obtain ⟨av, st'⟩ := ab
    rcases av with _ | ⟨x | _ | a, av⟩ <;> simp only [hp, reduceCtorEq] at hq
    by_cases hcond : st'.length ≤ 8 ∧ mt_is M ci a = true
    case neg =>
      rw [if_neg hcond] at hq
      cases hq
    rw [if_pos hcond] at hq
    cases hs : sem (.inr (some a) :: av) M with
    | none => simp [hs, mt_after] at hq
    | some r1 =>
      simp only [hs, mt_after, Option.some.injEq] at hq
      subst hq
      obtain ⟨hp1, hp2⟩ := mt_pop_ok _ _ _ _ _ hp
      have hp2 : av.length = k := by simpa using hp2
      obtain ⟨hmo, hmet⟩ := os _ M r1 (by simp only [List.length_cons]; omega) hs
      refine ⟨fun x hx => by cases hx; exact hmo, fun r hx => (by cases hx), fun p l e R s m args below meth c Q D ca b0 w0 v M' C hz hg hr => ?_⟩
      have hg := hg _ rfl
      refine ⟨⟨Nat.le_trans hmo.1 hg.1.1, Nat.le_trans hmo.2 hg.1.2⟩, fun hw H locs ls cells slots h1 h2 h3 h4 h5 => ?_⟩
      refine mt_size (fun hsz => ?_)
      have hrm := C.2.2.2.2.2.2.2.1
      have hK := C.2.2.2.2.2.1
      have hws := C.2.2.2.2.1
      have h3 : cells + s.heap.size = M.1 := h3
      have h4 : slots + w0 = M.2.1 := h4
      have hb0 : b0 ≤ M.1 := Nat.le_trans C.2.2.2.2.2.2.1 (by omega)
      have h1 : va_P D mCl (mt_ws ca b0 M) H := h1
      have hz2 : H.size = M.1 := by
        have := mt_size2 C.2.2.2.2.2.2.1 h1 h2 (by omega)
        omega
      have hmo1 : M.1 ≤ r1.2.1 := hmo.1
      have hmo2 : M.2.1 ≤ r1.2.2.1 := hmo.2
      have hgm1 : r1.2.1 ≤ M'.1 := hg.1.1
      have hgm2 : r1.2.2.1 ≤ M'.2.1 := hg.1.2
      have hroom : fY + 1 ≤ R.frames ∧ 8 + (nY + 11) + lY ≤ R.locals := ⟨Nat.le_trans hR.1 hrm.1, Nat.le_trans hR.2 hrm.2.1⟩
      have hfix : CallFix p m c cc nL s args lw_good own := ⟨C.1, C.2.1, C.2.2.1, C.2.2.2.1, hws⟩
      obtain ⟨fs, hfs⟩ := is_ok hcond.2
      obtain ⟨q0, hq0⟩ := mt_pl (ca := ca) hw hfs
      have hpre : PreV s H r.1 a (va_Pc ((Sum.inr (some a) :: av : List m_V).map tv) (mt_U D ca b0 M)) (av.map tv) := ⟨mt_blind, va_recv hK.1 h1 hc hq0, mt_pre hK hz2 hb0 hw h1⟩
      have hst := mt_cat_ref (av := av) (st' := st') (st := st) (a := a) (by simpa using hp1)
      rcases hm with ⟨hd, hcw, hini, hlk | ⟨host, hlk⟩⟩
      · have hrun := va_runV (e := e) (below := below) (meth := meth) (locs := locs) (cells := cells) (slots := slots) (rest := st'.map tv) (g := F0 m pc ls (st.map tv)) hfix (hmet l D ca b0) (cwV k hws (mt_wordsA (ys := [.methodLink own idx y, .instanceMethod y, .selects r.1 y y, .initialized r.1]) (fun w hw => by simp only [List.mem_cons, List.not_mem_nil, or_false] at hw; rcases hw with rfl | rfl | rfl | rfl <;> first | exact hlk | exact hin | exact hse | (rw [← hy]; exact hini)) hcw) rfl rfl rfl ⟨hy, hd⟩ hroom) hpre rfl (by rw [List.length_map]; exact hp2) h5.1 hst (lv_room (by rw [tv_sum]; exact hcond.1)) d ⟨by omega, by omega⟩
        exact mt_aft hrun h2 (by omega) (by omega) h5 hn hg
      · have hrun := va_runVN (e := e) (below := below) (meth := meth) (locs := locs) (cells := cells) (slots := slots) (rest := st'.map tv) (g := F0 m pc ls (st.map tv)) hfix (hmet l D ca b0) ⟨va_cnB k hws (mt_words hcw) rfl rfl rfl (hK.2.1 _ hlk) (hws _ hini) hd hroom, hws _ hin, hws _ hse⟩ hpre rfl (by rw [List.length_map]; exact hp2) h5.1 hst (lv_room (by rw [tv_sum]; exact hcond.1)) d ⟨by omega, by omega⟩
        exact mt_aft hrun h2 (by omega) (by omega) h5 hn hg
theorem sn_callI {y : MethodName} {cY : ByteArray} {nY : Nat} {fY lY : Nat} {sem : List m_V → m_M → Option m_R} {k idx : Nat} (d : decode cc pc = .ok (.invokespecial idx, 3)) (os : mt_OkS y cY nY none fY lY sem) (hy : y.name = "<init>") (hm : mt_lm own idx y cY nY none k) (hin : Cond.instanceMethod y ∈ lw_good) (hR : fY + 1 ≤ fr ∧ 8 + (nY + 11) + lY ≤ lo) (hk : k + 1 ≤ nY) (hn : pc + 3 = n) : mt_Sl Z cc nL own nm ret fr lo pc (o_callI sem (k + 1) n) := by
  rintro ⟨lv, st, M⟩ z hq
  simp only [o_callI] at hq
  cases hp : mt_pop (k + 1) [] st with
  | none => simp [hp] at hq
  | some ab =>
    obtain ⟨av, st'⟩ := ab
    rcases av with _ | ⟨x | _ | a, av⟩ <;> simp only [hp, reduceCtorEq] at hq
    by_cases hcond : st'.length ≤ 8
    case neg =>
      rw [if_neg hcond] at hq
      cases hq
    rw [if_pos hcond] at hq
    cases hs : sem (.inr (some a) :: av) M with
    | none => simp [hs, mt_after] at hq
    | some r1 =>
      simp only [hs, mt_after, Option.some.injEq] at hq
      subst hq
      obtain ⟨hp1, hp2⟩ := mt_pop_ok _ _ _ _ _ hp
      have hp2 : av.length = k := by simpa using hp2
      obtain ⟨hmo, hmet⟩ := os _ M r1 (by simp only [List.length_cons]; omega) hs
      refine ⟨fun x hx => by cases hx; exact hmo, fun r hx => (by cases hx), fun p l e R s m args below meth c Q D ca b0 w0 v M' C hz hg hr => ?_⟩
      have hg := hg _ rfl
      refine ⟨⟨Nat.le_trans hmo.1 hg.1.1, Nat.le_trans hmo.2 hg.1.2⟩, fun hw H locs ls cells slots h1 h2 h3 h4 h5 => ?_⟩
      refine mt_size (fun hsz => ?_)
      have hrm := C.2.2.2.2.2.2.2.1
      have hK := C.2.2.2.2.2.1
      have hws := C.2.2.2.2.1
      have h3 : cells + s.heap.size = M.1 := h3
      have h4 : slots + w0 = M.2.1 := h4
      have hb0 : b0 ≤ M.1 := Nat.le_trans C.2.2.2.2.2.2.1 (by omega)
      have h1 : va_P D mCl (mt_ws ca b0 M) H := h1
      have hz2 : H.size = M.1 := by
        have := mt_size2 C.2.2.2.2.2.2.1 h1 h2 (by omega)
        omega
      have hmo1 : M.1 ≤ r1.2.1 := hmo.1
      have hmo2 : M.2.1 ≤ r1.2.2.1 := hmo.2
      have hgm1 : r1.2.1 ≤ M'.1 := hg.1.1
      have hgm2 : r1.2.2.1 ≤ M'.2.1 := hg.1.2
      have hroom : fY + 1 ≤ R.frames ∧ 8 + (nY + 11) + lY ≤ R.locals := ⟨Nat.le_trans hR.1 hrm.1, Nat.le_trans hR.2 hrm.2.1⟩
      have hfix : CallFix p m c cc nL s args lw_good own := ⟨C.1, C.2.1, C.2.2.1, C.2.2.2.1, hws⟩
      have hpre : PreS s H (va_Pc ((Sum.inr (some a) :: av : List m_V).map tv) (mt_U D ca b0 M)) (.ref a :: av.map tv) := ⟨mt_blind, mt_pre hK hz2 hb0 hw h1⟩
      have hst := mt_cat_ref (av := av) (st' := st') (st := st) (a := a) (by simpa using hp1)
      rcases hm with ⟨hd, hcw, hini, hlk | ⟨host, hlk⟩⟩
      · have hrun := va_runI (e := e) (below := below) (meth := meth) (locs := locs) (cells := cells) (slots := slots) (rest := st'.map tv) (g := F0 m pc ls (st.map tv)) hfix (hmet l D ca b0) (cwI k hws (mt_words hcw) rfl rfl rfl (hws _ hini) (hws _ hlk) (hws _ hin) hy hd hroom) hpre rfl (by rw [List.length_map]; exact hp2) h5.1 hst (lv_room (by rw [tv_sum]; exact hcond)) d ⟨by omega, by omega⟩
        exact mt_aft hrun h2 (by omega) (by omega) h5 hn hg
      · have hrun := va_runIN (e := e) (below := below) (meth := meth) (locs := locs) (cells := cells) (slots := slots) (rest := st'.map tv) (g := F0 m pc ls (st.map tv)) hfix (hmet l D ca b0) ⟨va_cnB k hws (mt_words hcw) rfl rfl rfl (hK.2.1 _ hlk) (hws _ hini) hd hroom, hy, hws _ hin⟩ hpre rfl (by rw [List.length_map]; exact hp2) h5.1 hst (lv_room (by rw [tv_sum]; exact hcond)) d ⟨by omega, by omega⟩
        exact mt_aft hrun h2 (by omega) (by omega) h5 hn hg
theorem sn_callS {y : MethodName} {cY : ByteArray} {nY : Nat} {rY : Option FieldType} {fY lY : Nat} {sem : List m_V → m_M → Option m_R} {k idx : Nat} (d : decode cc pc = .ok (.invokestatic idx, 3)) (os : mt_OkS y cY nY rY fY lY sem) (hy : y.cls = own) (hm : mt_lm own idx y cY nY rY k) (hst0 : Cond.static y ∈ lw_good) (hR : fY + 1 ≤ fr ∧ 8 + (nY + 11) + lY ≤ lo) (hk : k ≤ nY) (hn : pc + 3 = n) : mt_Sl Z cc nL own nm ret fr lo pc (o_callS sem (k) n) := by
  rintro ⟨lv, st, M⟩ z hq
  simp only [o_callS] at hq
  cases hp : mt_pop (k) [] st with
  | none => simp [hp] at hq
  | some ab =>
    obtain ⟨av, st'⟩ := ab
    simp only [hp] at hq
    by_cases hcond : st'.length ≤ 8
    case neg =>
      rw [if_neg hcond] at hq
      cases hq
    rw [if_pos hcond] at hq
    cases hs : sem av M with
    | none => simp [hs, mt_after] at hq
    | some r1 =>
      simp only [hs, mt_after, Option.some.injEq] at hq
      subst hq
      obtain ⟨hp1, hp2⟩ := mt_pop_ok _ _ _ _ _ hp
      have hp2 : av.length = k := by simpa using hp2
      obtain ⟨hmo, hmet⟩ := os _ M r1 (by omega) hs
      refine ⟨fun x hx => by cases hx; exact hmo, fun r hx => (by cases hx), fun p l e R s m args below meth c Q D ca b0 w0 v M' C hz hg hr => ?_⟩
      have hg := hg _ rfl
      refine ⟨⟨Nat.le_trans hmo.1 hg.1.1, Nat.le_trans hmo.2 hg.1.2⟩, fun hw H locs ls cells slots h1 h2 h3 h4 h5 => ?_⟩
      refine mt_size (fun hsz => ?_)
      have hrm := C.2.2.2.2.2.2.2.1
      have hK := C.2.2.2.2.2.1
      have hws := C.2.2.2.2.1
      have h3 : cells + s.heap.size = M.1 := h3
      have h4 : slots + w0 = M.2.1 := h4
      have hb0 : b0 ≤ M.1 := Nat.le_trans C.2.2.2.2.2.2.1 (by omega)
      have h1 : va_P D mCl (mt_ws ca b0 M) H := h1
      have hz2 : H.size = M.1 := by
        have := mt_size2 C.2.2.2.2.2.2.1 h1 h2 (by omega)
        omega
      have hmo1 : M.1 ≤ r1.2.1 := hmo.1
      have hmo2 : M.2.1 ≤ r1.2.2.1 := hmo.2
      have hgm1 : r1.2.1 ≤ M'.1 := hg.1.1
      have hgm2 : r1.2.2.1 ≤ M'.2.1 := hg.1.2
      have hroom : fY + 1 ≤ R.frames ∧ 8 + (nY + 11) + lY ≤ R.locals := ⟨Nat.le_trans hR.1 hrm.1, Nat.le_trans hR.2 hrm.2.1⟩
      have hfix : CallFix p m c cc nL s args lw_good own := ⟨C.1, C.2.1, C.2.2.1, C.2.2.2.1, hws⟩
      have hpre : PreS s H (va_Pc (av.map tv) (mt_U D ca b0 M)) (av.map tv) := ⟨mt_blind, mt_pre hK hz2 hb0 hw h1⟩
      have hst := mt_cat_all (av := av) (st' := st') (st := st) (by simpa using hp1)
      rcases hm with ⟨hd, hcw, hini, hlk | ⟨host, hlk⟩⟩
      · have hrun := va_runS (e := e) (below := below) (meth := meth) (locs := locs) (cells := cells) (slots := slots) (rest := st'.map tv) (g := F0 m pc ls (st.map tv)) hfix (hmet l D ca b0) (cwS k hws (mt_wordsA (ys := [.methodLink own idx y, .static y, .initialized own]) (fun w hw => by simp only [List.mem_cons, List.not_mem_nil, or_false] at hw; rcases hw with rfl | rfl | rfl <;> first | exact hlk | exact hst0 | (rw [← hy]; exact hini)) hcw) rfl rfl rfl ⟨hy, hd⟩ hroom) hpre rfl (by rw [List.length_map]; exact hp2) h5.1 hst (lv_room (by rw [tv_sum]; exact hcond)) d ⟨by omega, by omega⟩
        exact mt_aft hrun h2 (by omega) (by omega) h5 hn hg
      · have hrun := va_runSN (e := e) (below := below) (meth := meth) (locs := locs) (cells := cells) (slots := slots) (rest := st'.map tv) (g := F0 m pc ls (st.map tv)) hfix (hmet l D ca b0) ⟨va_cnB k hws (mt_words hcw) rfl rfl rfl (hK.2.1 _ hlk) (hws _ hini) hd hroom, hws _ hst0, trivial⟩ hpre rfl (by rw [List.length_map]; exact hp2) h5.1 hst (lv_room (by rw [tv_sum]; exact hcond)) d ⟨by omega, by omega⟩
        exact mt_aft hrun h2 (by omega) (by omega) h5 hn hg
end SN
theorem mt_okS {y : MethodName} {cc : ByteArray} {nL : Nat} {ret : Option FieldType} {fr lo : Nat} {code : List m_B} {own nm : String} (hy : plainName y.cls = true) (ho : y.cls = own) (hnm : y.name = nm) (hs : mt_Sc (fun _ _ => True) cc nL own nm ret fr lo code) : mt_OkS y cc nL ret fr lo (mt_sem code nL) := by
  intro av M r hlen hsem
  obtain ⟨n, hn⟩ := mt_lim_some hsem
  have hmo : mt_mo M r.2 := mt_grow hs n 0 _ hn
  refine ⟨hmo, fun l D ca b0 => ?_⟩
  refine Met.ofW (cc := cc) (maxL := nL) (ret := ret) hy rfl ?_
  intro p e s m args below meth c s₁ B hml hv
  obtain ⟨rfl, hsz, hb0, hw, hP, hK⟩ := hv
  have hts := atoms_spec (ws := .code y cc nL ret :: lw_good) B.pre
  have hown : s.vm.findClass own = some m.cls := by rw [← ho]; exact findClass_of_methodNamed B.named
  have hlocks := B.notSynchronized
  have hin : meth.name = nm := by rw [← hnm]; exact (name_of_methodNamed B.named B.method).1
  have hx := B.exec
  have hbb := B.bytes
  have hrr := B.returns
  have hmo1 := hmo.1
  have hmo2 := hmo.2
  have hC : mt_C p l e { frames := fr, cells := r.2.1 - M.1, slots := r.2.2.1 - M.2.1, locals := lo } s m (av.map tv).toArray below meth c (MQ below (mt_Q D ca b0 r.1 r.2) (av.map tv).toArray s (r.2.1 - M.1) (r.2.2.1 - M.2.1) (mt_A b0)) cc nL own nm ret fr lo D ca b0 M.2.1 r.1 r.2 := by
    refine ⟨hx, hbb, hml, hown, fun w hw => hts w (List.mem_cons_of_mem _ hw), hK, by rw [hsz]; exact hb0, ⟨Nat.le_refl _, Nat.le_refl _, ?_, ?_⟩, hin, ?_⟩
    · show r.2.1 ≤ r.2.1 - M.1 + s.heap.size
      omega
    · show r.2.2.1 ≤ r.2.2.1 - M.2.1 + M.2.1
      omega
    · intro H locs ls cells slots pc hret hw' hP' hS' hc hs'
      have hc1 : cells = r.2.1 - M.1 := by omega
      have hs1 : slots = r.2.2.1 - M.2.1 := by omega
      subst hc1
      subst hs1
      obtain ⟨v, M1⟩ := r
      rcases hret with ⟨d, hr0, hv⟩ | ⟨d, ty, x, hr0, hv, hnar⟩ | ⟨d, cn, x, hr0, hv⟩
      · have hv : v = none := hv
        subst hv
        exact W.vret hx hbb (hrr.trans hr0) (fun t ht hW => ⟨rfl, hw', by rw [ht]; exact hP', hS'.F ht⟩) hS'.2.2 d
      · have hv : v = some (.inl x) := hv
        subst hv
        exact W.zret hx hbb (hrr.trans hr0) hnar (fun t ht hW => ⟨rfl, hw', by rw [ht]; exact hP', hS'.F ht⟩) hS'.2.2 d
      · have hv : v = some (.inr x) := hv
        subst hv
        exact W.aret (v := va_rf x) hx hbb (hrr.trans hr0) (Or.inl ⟨cn, rfl⟩) (by cases x with | none => exact Or.inl rfl | some a => exact Or.inr ⟨a, rfl⟩) (fun t ht hW => ⟨rfl, hw', by rw [ht]; exact hP', hS'.F ht⟩) hS'.2.2 d
  have hG := mt_sound hs hC trivial n 0 _ hn
  have hl := lv_entry (av.map tv) (n := nL) (by rw [tv_len]; exact hlen)
  rw [lg_entry_eq]
  generalize (lg_sl (av.map tv) ++ List.replicate (nL - (lg_sl (av.map tv)).length) Slot.unset).toArray = ls at hl ⊢
  have hl2 : lv_has ls nL (ml 0 (mt_l0 nL av)) := ⟨hl.1, hl.2.1, fun q hq => hl.2.2 q (ml_args nL 0 av q hq)⟩
  exact hG.2 hw s.heap [] ls 0 0 hP va_S.rf (by show 0 + s.heap.size = M.1; omega) (Nat.zero_add _) hl2

