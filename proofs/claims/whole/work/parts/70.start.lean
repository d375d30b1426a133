/-! The law: from a run of its code to its walk. -/
theorem mt_classes {args : Array Value} {s : State} (hw : ∀ w ∈ lw_good, w.before args s = true) : ∃ D : va_G, ∀ (c : Nat) (q : vw_C), mCl[c]? = some q → u_Kn s q.1 q.2.1 q.2.2 (D.1 c) (D.2 c) := by
  obtain ⟨c0, i0, k0⟩ := u_known (n := 4) hw kc_En.2.1 (hw _ kc_En.2.2.2.2.1)
  obtain ⟨c1, i1, k1⟩ := u_known (n := 3) hw kc_Jo.2.1 (hw _ kc_Jo.2.2.2.2.1)
  obtain ⟨c2, i2, k2⟩ := u_known (n := 3) hw kc_Jr.2.1 (hw _ kc_Jr.2.2.2.2.1)
  obtain ⟨c3, i3, k3⟩ := u_known (n := 3) hw kc_Li.2.1 (hw _ kc_Li.2.2.2.2.1)
  obtain ⟨c4, i4, k4⟩ := u_known (n := 8) hw kc_Ms.2.1 (hw _ kc_Ms.2.2.2.2.1)
  obtain ⟨c5, i5, k5⟩ := u_known (n := 2) hw kc_Ro.2.1 (hw _ kc_Ro.2.2.2.2.1)
  obtain ⟨c6, i6, k6⟩ := u_known (n := 4) hw kc_Ru.2.1 (hw _ kc_Ru.2.2.2.2.1)
  obtain ⟨c7, i7, k7⟩ := u_known (n := 3) hw kc_Sf.2.1 (hw _ kc_Sf.2.2.2.2.1)
  obtain ⟨c8, i8, k8⟩ := u_known (n := 12) hw kc_TC.2.1 (hw _ kc_TC.2.2.2.2.1)
  obtain ⟨c9, i9, k9⟩ := u_known (n := 28) hw kc_MD.2.1 (hw _ kc_MD.2.2.2.2.1)
  refine ⟨(fun k => match k with | 0 => c0 | 1 => c1 | 2 => c2 | 3 => c3 | 4 => c4 | 5 => c5 | 6 => c6 | 7 => c7 | 8 => c8 | _ => c9, fun k => match k with | 0 => i0 | 1 => i1 | 2 => i2 | 3 => i3 | 4 => i4 | 5 => i5 | 6 => i6 | 7 => i7 | 8 => i8 | _ => i9), fun c q hq => ?_⟩
  rcases c with _ | _ | _ | _ | _ | _ | _ | _ | _ | _ | c
  · obtain rfl : (R_En, F_En, 4) = q := Option.some.inj hq
    exact k0
  · obtain rfl : (R_Jo, F_Jo, 3) = q := Option.some.inj hq
    exact k1
  · obtain rfl : (R_Jr, F_Jr, 3) = q := Option.some.inj hq
    exact k2
  · obtain rfl : (R_Li, F_Li, 3) = q := Option.some.inj hq
    exact k3
  · obtain rfl : (R_Ms, F_Ms, 8) = q := Option.some.inj hq
    exact k4
  · obtain rfl : (R_Ro, F_Ro, 2) = q := Option.some.inj hq
    exact k5
  · obtain rfl : (R_Ru, F_Ru, 4) = q := Option.some.inj hq
    exact k6
  · obtain rfl : (R_Sf, F_Sf, 3) = q := Option.some.inj hq
    exact k7
  · obtain rfl : (R_TC, F_TC, 12) = q := Option.some.inj hq
    exact k8
  · obtain rfl : (R_MD, F_MD, 28) = q := Option.some.inj hq
    exact k9
  · exact absurd hq (by simp [mCl])
theorem mt_arr1 {args : Array Value} {s : State} {ty : FieldType} (h : (Cond.arrayClass ty).before args s = true) (hr : ∀ cA, s.vm.findClass ("[" ++ ty.toString) = some cA → va_RA s cA ty) : ∃ cA, ArrOfT s cA ty ∧ va_RA s cA ty := by
  obtain ⟨c, k, comp, h1, h2, h3⟩ := Cond.arrayClass_spec h
  exact ⟨c, fun n z => ⟨fun k h => (by cases h), k, h2, comp, h3⟩, hr c h1⟩
theorem mt_arr2 {args : Array Value} {s : State} {C : String} (h : (Cond.arrayOver (.object C)).before args s = true) : ∃ cA, ArrOfT s cA (.object C) ∧ va_RA s cA (.object C) := by
  obtain ⟨comp, c, k, h1, h2, h3, h4, h5⟩ := Cond.arrayOver_spec h
  exact ⟨c, fun n z => ⟨fun k h => (by cases h), k, h3, comp, h4⟩, k, comp, h3, h4, h1, h5⟩
theorem tw {w : Cond} (k : Nat) (h : tables_1[k]? = some w) : w ∈ lw_tbl := List.mem_append_right _ (List.mem_of_getElem? h)
theorem mt_arrs {args : Array Value} {s : State} (hw : ∀ w ∈ lw_good, w.before args s = true) (ht : ∀ w ∈ lw_tbl, w.before args s = true) : ∃ ca : Nat → ClassId, ∀ (k : Nat) (q : ClassId × FieldType), (mt_tys ca)[k]? = some q → ArrOfT s q.1 q.2 ∧ va_RA s q.1 q.2 := by
  obtain ⟨a0, h0⟩ := mt_arr1 (hw _ w_int) (fun cA h => h)
  obtain ⟨a1, h1⟩ := mt_arr1 (hw _ w_bool) (fun cA h => h)
  obtain ⟨a2, h2⟩ := mt_arr2 (ht (Cond.arrayOver (.object "TreeCarrier$Message")) (tw 49 (by decide +kernel)))
  obtain ⟨a3, h3⟩ := mt_arr2 (ht (Cond.arrayOver (.object "TreeCarrier$StoredFile")) (tw 20 (by decide +kernel)))
  obtain ⟨a4, h4⟩ := mt_arr2 (ht (Cond.arrayOver (.object "TreeCarrier$Entry")) (tw 101 (by decide +kernel)))
  obtain ⟨a5, h5⟩ := mt_arr2 (ht (Cond.arrayOver (.object "TreeCarrier$JournalRecord")) (tw 109 (by decide +kernel)))
  refine ⟨fun t => match t with | 0 => a0 | 1 => a1 | 2 => a2 | 3 => a3 | 4 => a4 | _ => a5, fun k q hq => ?_⟩
  rcases k with _ | _ | _ | _ | _ | _ | k
  · obtain rfl := Option.some.inj hq
    exact h0
  · obtain rfl := Option.some.inj hq
    exact h1
  · obtain rfl := Option.some.inj hq
    exact h2
  · obtain rfl := Option.some.inj hq
    exact h3
  · obtain rfl := Option.some.inj hq
    exact h4
  · obtain rfl := Option.some.inj hq
    exact h5
  · exact absurd hq (by simp [mt_tys])
theorem lw_nest_in : ∀ w ∈ lw_nest, w ∈ lw_tbl := fun w hw => List.mem_append_right _ ((by decide +kernel : ∀ w ∈ lw_nest, w ∈ tables_1) w hw)
theorem mt_K_start {args : Array Value} {s : State} (ht : ∀ w ∈ lw_tbl, w.before args s = true) : ∃ (D : va_G) (ca : Nat → ClassId), mt_K D ca s := by
  have hw : ∀ w ∈ lw_good, w.before args s = true := fun w h => ht w (List.mem_filter.mp h).1
  obtain ⟨D, hD⟩ := mt_classes hw
  obtain ⟨ca, hca⟩ := mt_arrs hw ht
  exact ⟨D, ca, ⟨hD, hca⟩, fun w h => va_Nw.of (mt_isN_on (List.all_eq_true.mp lw_nest_is w h)) (ht w (lw_nest_in w h)), va_AO.of (ht _ (tw 49 (by decide +kernel))), va_AO.of (ht _ (tw 20 (by decide +kernel))), va_AO.of (ht _ (tw 101 (by decide +kernel))), va_AO.of (ht _ (tw 109 (by decide +kernel)))⟩
