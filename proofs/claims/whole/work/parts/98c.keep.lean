/-! What a session keeps true, call by call. -/
def zO (z : a_Z) : Prop := ∀ y, z.2.2.2.2.2 = some y → y_ok y
theorem by_z {V : v_N} {z : a_Z} (h : cR V z) {i : Nat} (hi : i < 24) : a_by (a_row (z.2.2.1 i)) := a_by_row (h.2.2.1 i hi)
theorem by_fl {V : v_N} {z : a_Z} (h : cR V z) {i : Nat} (hi : i < 24) : a_by (a_row ((z_fl z).2.2.1 i)) := by
  have h1 := by_z h hi
  obtain ⟨p, hp, j1, j2⟩ := h.2.2.2.1
  show a_by (a_row (a_fl z.2.2.1 z.2.2.2.1 i))
  cases hz : z.2.2.2.1 with
  | none => exact h1
  | some y =>
    rw [hz] at j2
    show a_by (a_row (va_up z.2.2.1 (12 + y.1) (some (y.2.1, y.2.2)) i))
    unfold va_up
    by_cases e : i = 12 + y.1
    · rw [if_pos e]; exact j2.2.2.2.2.2
    · rw [if_neg e]; exact h1
theorem sg_mem {g : Nat → Nat} {blk att : Nat} : ∀ (k : Nat) {x : Nat}, x ∈ a_sg g blk att k → x < 2 ^ 25
  | 0, x, h => by cases h
  | k + 1, x, h => by
    simp only [a_sg] at h
    rcases List.mem_append.mp h with h | h
    · exact sg_mem k h
    · rw [List.mem_singleton] at h; rw [h]; exact sw_lt
theorem sm_ok {fs : Nat → a_F} {blk n att : Nat} {nt : Nat → Option (Int32 × Int32)} (hn : n < 12) (ha : att = 1 ∨ att = 2) (hnt : (nt n).isSome = true) (hb : a_by (a_row (fs (12 + n)))) : y_m3 nt (a_sm fs blk n att) :=
  ⟨rfl, hn, ha, hnt, fun x hx => sg_mem _ hx, by
    show (a_sg _ _ _ _).length ≤ 40
    rw [sg_len]
    exact Nat.le_trans (Nat.div_le_self _ _) hb.1⟩
theorem op_m3 {fs : Nat → a_F} {blk : Nat} {nt : Nat → Option (Int32 × Int32)} {s : (Nat → Bool) × List a_M × (Nat → Int32)} (hs : ∀ m ∈ s.2.1, y_m3 nt m) (hb : ∀ i, i < 24 → a_by (a_row (fs i))) : ∀ (k : Nat), k ≤ 12 → ∀ m ∈ (a_op fs blk nt s k).2.1, y_m3 nt m
  | 0, _, m, h => hs m h
  | k + 1, hk, m, h => by
    have ih := op_m3 (fs := fs) (blk := blk) (nt := nt) (s := s) hs hb k (by omega)
    simp only [a_op] at h
    cases hn : nt k with
    | none => rw [hn] at h; exact ih m h
    | some y =>
      rw [hn] at h
      simp only [] at h
      split at h
      · exact ih m h
      · rcases List.mem_append.mp h with h | h
        · exact ih m h
        · rw [List.mem_singleton] at h; rw [h]; exact sm_ok (by omega) (Or.inl rfl) (by rw [hn]; rfl) (hb _ (by omega))
theorem en_m1 {fs : Nat → a_F} {rl : a_R} : ∀ (k : Nat) {m : a_M}, m ∈ a_en fs rl k → m.1 = 1 ∧ m.2.1 < k ∧ m.2.2.1 = 0 ∧ m.2.2.2.2.2 = []
  | 0, m, h => by cases h
  | k + 1, m, h => by
    simp only [a_en] at h
    rcases List.mem_append.mp h with h | h
    · obtain ⟨h1, h2, h3, h4⟩ := en_m1 k h
      exact ⟨h1, by omega, h3, h4⟩
    · split at h
      · split at h
        · rw [List.mem_singleton] at h; subst h; exact ⟨rfl, Nat.lt_succ_self _, rfl, rfl⟩
        · cases h
      · cases h
theorem en_pw {fs : Nat → a_F} {rl : a_R} : ∀ (k : Nat), (a_en fs rl k).Pairwise (fun a c => a.2.1 < c.2.1)
  | 0 => List.Pairwise.nil
  | k + 1 => by
    simp only [a_en]
    refine List.pairwise_append.mpr ⟨en_pw k, ?_, fun a ha c hc => ?_⟩
    · split
      · split
        · exact List.pairwise_singleton _ _
        · exact List.Pairwise.nil
      · exact List.Pairwise.nil
    · have h1 := (en_m1 k ha).2.1
      split at hc
      · split at hc
        · rw [List.mem_singleton] at hc; subst hc; exact h1
        · cases hc
      · cases hc
theorem y_beg {bk : Nat} {del : Bool} {fs : Nat → a_F} {rl : a_R} : y_ok (bk, del, false, fun _ => none, fun _ => false, [], a_en fs rl 12 ++ [a_end]) := by
  refine ⟨fun k h => Bool.noConfusion (show false = true from h), fun k h => Bool.noConfusion (show false = true from h), fun _ => ⟨rfl, fun _ => rfl, _, rfl, en_len 12, fun m hm => ?_, en_pw 12⟩, fun h => Bool.noConfusion (show false = true from h)⟩
  obtain ⟨h1, h2, h3, h4⟩ := en_m1 12 hm
  exact ⟨h1, h2, h3, h4, fun k h => Bool.noConfusion (show false = true from h)⟩
theorem z_sO {z : a_Z} {jr : a_J} {ct : Nat → Int32} {y : a_S} (h : y_ok y) : zO (z_s z jr ct y) := fun y1 e => by
  have e : some y = some y1 := e
  cases e
  exact h
theorem z_coO {z : a_Z} {y : a_S} (h : y_ok y) : zO (z_co z y) := by
  unfold z_co
  split
  · intro y1 e
    have e : some y = some y1 := e
    cases e
    exact h
  · intro y1 e
    have e : (none : Option a_S) = some y1 := e
    cases e
theorem dl_ok {l s : List Nat} {blk att : Nat} (hb : ∀ x ∈ l, x < 256) (hs : s.length ≤ 40) : ∀ (d i : Nat), ∀ x ∈ a_dl l s blk att d i, x < 1000
  | 0, i, x, h => by cases h
  | d + 1, i, x, h => by
    simp only [a_dl] at h
    split at h
    · rename_i hi
      split at h
      · rename_i k hk
        rcases List.mem_cons.mp h with h | h
        · have : k < 40 := by
            unfold a_mt at hk
            split at hk
            · have := fd_ge _ _ _ hk
              omega
            · cases hk
          omega
        · exact dl_ok hb hs d _ x h
      · rcases List.mem_cons.mp h with h | h
        · have := hb (l.getD i 0) (by rw [List.getD_eq_getElem?_getD, List.getElem?_eq_getElem hi]; exact List.getElem_mem hi)
          omega
        · exact dl_ok hb hs d _ x h
    · cases h
theorem dl_sz {l s : List Nat} {blk att : Nat} (hb : ∀ x ∈ l, x < 256) : ∀ (d i : Nat), a_sz blk (a_dl l s blk att d i) ≤ l.length - i
  | 0, i => Nat.zero_le _
  | d + 1, i => by
    simp only [a_dl]
    split
    · rename_i hi
      split
      · rename_i k hk
        have ih := dl_sz (s := s) (blk := blk) (att := att) hb d (i + blk)
        have hk2 : i + blk ≤ l.length := by
          unfold a_mt at hk
          split at hk
          · assumption
          · cases hk
        simp only [a_sz]
        rw [if_neg (by omega)]
        omega
      · have ih := dl_sz (s := s) (blk := blk) (att := att) hb d (i + 1)
        have hlt := hb (l.getD i 0) (by rw [List.getD_eq_getElem?_getD, List.getElem?_eq_getElem hi]; exact List.getElem_mem hi)
        simp only [a_sz]
        rw [if_pos hlt]
        omega
    · exact Nat.zero_le _
theorem an_ok {fs : Nat → a_F} {blk : Nat} {nt : Nat → Option (Int32 × Int32)} {m : a_M} (h3 : y_m3 nt m) (hb : a_by (a_row (fs m.2.1))) : y_m4 blk nt (a_an fs blk m) := by
  obtain ⟨e1, e2, e3, e4, e5, e6⟩ := h3
  unfold a_an
  cases hf : fs m.2.1 with
  | none => exact ⟨e2, e4, Or.inl rfl⟩
  | some u =>
    rw [hf] at hb
    have hb : a_by u.1 := hb
    exact ⟨e2, e4, Or.inr ⟨rfl, e3, dl_ok hb.2 e6 _ _, Nat.le_trans (dl_sz hb.2 _ _) (by have := hb.1; omega), Nat.le_trans (dl_len _ _) hb.1⟩⟩
theorem d4_ok {z : a_Z} {y : a_S} {m : a_M} : (∀ k, (s_d4 z y m).2.2.1 k = true → y.2.2.2.2.1 k = true) ∧ (s_d4 z y m).2.2.2.length ≤ y.2.2.2.2.2.1.length + 1 ∧ ∀ x ∈ (s_d4 z y m).2.2.2, x ∈ y.2.2.2.2.2.1 ∨ x = a_sm z.2.2.1 y.1 m.2.1 2 := by
  have hup : ∀ k, va_up y.2.2.2.2.1 m.2.1 false k = true → y.2.2.2.2.1 k = true := fun k hk => by
    unfold va_up at hk
    by_cases e : k = m.2.1
    · rw [if_pos e] at hk; cases hk
    · rw [if_neg e] at hk; exact hk
  unfold s_d4
  split
  · exact ⟨hup, Nat.le_succ _, fun x hx => Or.inl hx⟩
  · split
    · refine ⟨fun k hk => hk, ?_, fun x hx => ?_⟩
      · show (_ ++ [_]).length ≤ _
        rw [List.length_append]
        exact Nat.le_refl _
      · rcases List.mem_append.mp hx with hx | hx
        · exact Or.inl hx
        · rw [List.mem_singleton] at hx; exact Or.inr hx
    · exact ⟨hup, Nat.le_succ _, fun x hx => Or.inl hx⟩
theorem zo_rc {V : v_N} {z : a_Z} {y : a_S} {m : a_M} {t : List a_M} (h : cR V z) (hl : y.2.2.2.2.2.2 = m :: t) (ho : y_ok y) : zO (s_rc (z_fl z) (y.1, y.2.1, y.2.2.1, y.2.2.2.1, y.2.2.2.2.1, y.2.2.2.2.2.1, t) m) := by
  obtain ⟨o1, o2, o3, o4⟩ := ho
  unfold s_rc
  cases he : y.2.2.1 with
  | false =>
    obtain ⟨b1, b2, es, b3, b4, b5, b6⟩ := o3 he
    rw [hl] at b3
    cases es with
    | nil =>
      cases b3
      rw [if_neg (show ¬ a_end.1 = 1 by decide), if_pos (show a_end.1 = 2 from rfl)]
      refine z_coO ⟨o1, fun k hk => ?_, fun e => Bool.noConfusion (show true = false from e), fun _ => ⟨?_, ?_, fun x hx => absurd hx List.not_mem_nil⟩⟩
      · rcases op_nt 12 hk with hk | hk
        · have hk : y.2.2.2.2.1 k = true := hk
          rw [b2 k] at hk
          cases hk
        · exact hk
      · have h9 := op_len (fs := (z_fl z).2.2.1) (blk := y.1) (nt := y.2.2.2.1) (s := (y.2.2.2.2.1, y.2.2.2.2.2.1, (z_fl z).2.2.2.2.1)) 12
        simp only [b1, List.length_nil, Nat.zero_add] at h9
        show (a_op (z_fl z).2.2.1 y.1 y.2.2.2.1 (y.2.2.2.2.1, y.2.2.2.2.2.1, (z_fl z).2.2.2.2.1) 12).2.1.length + 0 ≤ 12
        rw [b1]
        exact h9
      · exact op_m3 (fun x hx => by
          have hx : x ∈ y.2.2.2.2.2.1 := hx
          rw [b1] at hx
          cases hx) (fun i hi => by_fl h hi) 12 (by decide)
    | cons e0 es =>
      cases b3
      obtain ⟨n1, n2, n3, n4, n5⟩ := b5 m List.mem_cons_self
      rw [if_pos n1]
      rw [List.length_cons] at b4
      obtain ⟨p1, p2⟩ := List.pairwise_cons.mp b6
      refine z_sO ⟨fun k hk => ?_, fun k hk => ?_, fun _ => ⟨b1, b2, es, rfl, by omega, fun x hx => ?_, p2⟩, fun e => Bool.noConfusion (show false = true from e)⟩
      · have hk : (va_up y.2.2.2.1 m.2.1 (some (m.2.2.2.1, m.2.2.2.2.1)) k).isSome = true := hk
        unfold va_up at hk
        by_cases e : k = m.2.1
        · rw [e]; exact n2
        · rw [if_neg e] at hk; exact o1 k hk
      · have hk : y.2.2.2.2.1 k = true := hk
        rw [b2 k] at hk
        cases hk
      · obtain ⟨q1, q2, q3, q4, q5⟩ := b5 x (List.mem_cons_of_mem _ hx)
        refine ⟨q1, q2, q3, q4, fun k hk => ?_⟩
        have hk : (va_up y.2.2.2.1 m.2.1 (some (m.2.2.2.1, m.2.2.2.2.1)) k).isSome = true := hk
        unfold va_up at hk
        by_cases e : k = m.2.1
        · rw [e]; exact p1 x hx
        · rw [if_neg e] at hk; exact q5 k hk
  | true =>
    obtain ⟨b1, b2, b3⟩ := o4 he
    rw [hl] at b3 b1
    rw [List.length_cons] at b1
    have hm4 := b3 m List.mem_cons_self
    by_cases hk4 : m.1 = 4
    · rw [if_neg (by omega), if_neg (by omega), if_pos hk4]
      obtain ⟨d1, d2, d3⟩ := d4_ok (z := z_fl z) (y := (y.1, y.2.1, true, y.2.2.2.1, y.2.2.2.2.1, y.2.2.2.2.2.1, t)) (m := m)
      refine z_coO ⟨o1, fun k hk => o2 k (d1 k hk), fun e => Bool.noConfusion (show true = false from e), fun _ => ⟨?_, fun x hx => ?_, fun x hx => b3 x (List.mem_cons_of_mem _ hx)⟩⟩
      · have d2 : (s_d4 (z_fl z) (y.1, y.2.1, true, y.2.2.2.1, y.2.2.2.2.1, y.2.2.2.2.2.1, t) m).2.2.2.length ≤ y.2.2.2.2.2.1.length + 1 := d2
        show (s_d4 (z_fl z) (y.1, y.2.1, true, y.2.2.2.1, y.2.2.2.2.1, y.2.2.2.2.2.1, t) m).2.2.2.length + t.length ≤ 12
        omega
      · rcases d3 x hx with hx | hx
        · exact b2 x hx
        · rw [hx]; exact sm_ok hm4.1 (Or.inr rfl) hm4.2.1 (by_fl h (by have := hm4.1; omega))
    · have hk5 : m.1 = 5 := hm4.2.2.resolve_right (fun e => hk4 e.1)
      rw [if_neg (by omega), if_neg (by omega), if_neg hk4]
      refine z_coO ⟨o1, fun k hk => o2 k ?_, fun e => Bool.noConfusion (show true = false from e), fun _ => ⟨?_, b2, fun x hx => b3 x (List.mem_cons_of_mem _ hx)⟩⟩
      · have hk : va_up y.2.2.2.2.1 m.2.1 false k = true := hk
        unfold va_up at hk
        by_cases e : k = m.2.1
        · rw [if_pos e] at hk; cases hk
        · rw [if_neg e] at hk; exact hk
      · show y.2.2.2.2.2.1.length + t.length ≤ 12
        omega
theorem zo_dv {V : v_N} {z : a_Z} {k : Int32} (h : cR V z) (ho : zO z) : zO (s_dv z k).2 := by
  unfold s_dv
  cases hz : z.2.2.2.2.2 with
  | none => exact ho
  | some y =>
    have hy := ho y hz
    obtain ⟨o1, o2, o3, o4⟩ := id hy
    simp only []
    split
    · cases hl : y.2.2.2.2.2.1 with
      | nil => exact ho
      | cons m t =>
        have hen : y.2.2.1 = true := by
          cases he : y.2.2.1 with
          | true => rfl
          | false => have := (o3 he).1; rw [hl] at this; cases this
        obtain ⟨b1, b2, b3⟩ := o4 hen
        rw [hl] at b1 b2
        rw [List.length_cons] at b1
        have hm3 := b2 m List.mem_cons_self
        refine z_sO ⟨o1, o2, fun e => ?_, fun _ => ⟨?_, fun x hx => b2 x (List.mem_cons_of_mem _ hx), fun x hx => ?_⟩⟩
        · have e : y.2.2.1 = false := e
          rw [hen] at e
          cases e
        · show t.length + (y.2.2.2.2.2.2 ++ [a_an z.2.2.1 y.1 m]).length ≤ 12
          rw [List.length_append, List.length_cons, List.length_nil]
          omega
        · rcases List.mem_append.mp hx with hx | hx
          · exact b3 x hx
          · rw [List.mem_singleton] at hx; rw [hx]; exact an_ok hm3 (by_z h (by have := hm3.2.1; omega))
    · split
      · cases hl : y.2.2.2.2.2.2 with
        | nil => exact ho
        | cons m t => exact zo_rc h hl hy
      · exact ho
theorem zo_beg {z : a_Z} {bk : Int32} {del : Bool} (h : zO z) : zO (s_begin z bk del).2 := by
  unfold s_begin
  cases hz : z.2.2.2.2.2 with
  | some y => exact h
  | none =>
    simp only []
    split
    · exact h
    · intro y hy
      cases hy
      exact y_beg
theorem zo_put {z : a_Z} {t k c : Int32} (h : zO z) : zO (s_put z t k c).2 := by
  unfold s_put
  split
  · split
    · exact h
    · exact h
  · exact h
theorem zo_set {z : a_Z} {t k p c : Int32} (h : zO z) : zO (s_set z t k p c).2 := by
  unfold s_set
  split
  · split
    · split
      · exact h
      · exact h
    · exact h
  · exact h
theorem zo_rem {z : a_Z} {t k : Int32} (h : zO z) : zO (s_rem z t k).2 := by
  unfold s_rem
  split
  · split
    · exact h
    · exact h
  · exact h
theorem zo_rule {z : a_Z} {inc : Bool} {m v : Int32} (h : zO z) : zO (s_rule z inc m v).2 := by
  unfold s_rule
  split
  · exact h
  · exact h
theorem zo_crash {z : a_Z} (h : zO z) : zO (s_crash z).2 := by
  unfold s_crash
  split
  · exact h
  · intro y hy
    have hy : (none : Option a_S) = some y := hy
    cases hy
