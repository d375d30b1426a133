/-! The small machine: values are numbers or references, cells are objects (class number, fields) or arrays (kind, length, contents); a memory is (heap size, slots made, cells). -/
abbrev m_V : Type := Int32 ⊕ Option Nat
abbrev m_E : Type := (Nat × List m_V) ⊕ (Nat × Nat × ((Nat → Int32) ⊕ (Nat → Option Nat)))
abbrev m_M : Type := Nat × Nat × (Nat → Option m_E)
abbrev m_R : Type := Option m_V × m_M
abbrev m_C : Type := List (Option m_V) × List m_V × m_M
abbrev m_S : Type := m_C → Option m_C
abbrev m_O : Type := m_C → Option ((Nat × m_C) ⊕ m_R)
abbrev m_B : Type := Nat × List m_S × m_O
def lget : List (Option m_V) → Nat → Option m_V
  | [], _ => none
  | x :: _, 0 => x
  | _ :: t, n + 1 => lget t n
def lput : List (Option m_V) → Nat → m_V → List (Option m_V)
  | [], _, _ => []
  | _ :: t, 0, v => some v :: t
  | x :: t, n + 1, v => x :: lput t n v
def mt_l0 : Nat → List m_V → List (Option m_V)
  | 0, _ => []
  | n + 1, [] => none :: mt_l0 n []
  | n + 1, v :: t => some v :: mt_l0 n t
def mt_pop : Nat → List m_V → List m_V → Option (List m_V × List m_V)
  | 0, acc, st => some (acc, st)
  | _ + 1, _, [] => none
  | n + 1, acc, x :: st => mt_pop n (x :: acc) st
def fnth : List m_V → Nat → Option m_V
  | [], _ => none
  | x :: _, 0 => some x
  | _ :: t, n + 1 => fnth t n
def fset : List m_V → Nat → m_V → List m_V
  | [], _, _ => []
  | _ :: t, 0, v => v :: t
  | x :: t, n + 1, v => x :: fset t n v
def mt_cd : List m_B → Nat → Option (List m_S × m_O)
  | [], _ => none
  | x :: t, i => if x.1 = i then some x.2 else mt_cd t i
def mt_seq : List m_S → m_C → Option m_C
  | [], q => some q
  | o :: t, q => match o q with
    | some q' => mt_seq t q'
    | none => none
def mt_b (x : List m_S × m_O) (q : m_C) : Option ((Nat × m_C) ⊕ m_R) := match mt_seq x.1 q with
  | some q' => x.2 q'
  | none => none
def mt_run (code : List m_B) : Nat → Nat → m_C → Option m_R
  | 0, _, _ => none
  | n + 1, pc, q => match mt_cd code pc with
    | none => none
    | some x => match mt_b x q with
      | none => none
      | some (.inl y) => mt_run code n y.1 y.2
      | some (.inr r) => some r
theorem mt_run_mono {code : List m_B} {r : m_R} : ∀ (n k pc : Nat) (q : m_C), n ≤ k → mt_run code n pc q = some r → mt_run code k pc q = some r
  | 0, _, _, _, _, h => by simp [mt_run] at h
  | n + 1, 0, _, _, hk, _ => by omega
  | n + 1, k + 1, pc, q, hk, h => by
    simp only [mt_run] at h ⊢
    cases h1 : mt_cd code pc with
    | none => simp [h1] at h
    | some x =>
      simp only [h1] at h ⊢
      cases h2 : mt_b x q with
      | none => simp [h2] at h
      | some z =>
        simp only [h2] at h ⊢
        cases z with
        | inl y => exact mt_run_mono n k _ _ (by omega) h
        | inr r' => exact h
noncomputable def mt_lim (g : Nat → Option m_R) : Option m_R := @dite _ (∃ n, (g n).isSome = true) (Classical.propDecidable _) (fun h => g (Classical.choose h)) (fun _ => none)
noncomputable def mt_sem (code : List m_B) (nL : Nat) (av : List m_V) (M : m_M) : Option m_R := mt_lim (fun n => mt_run code n 0 (mt_l0 nL av, [], M))
theorem mt_lim_some {g : Nat → Option m_R} {r : m_R} (h : mt_lim g = some r) : ∃ n, g n = some r := by
  unfold mt_lim at h
  split at h
  · exact ⟨_, h⟩
  · cases h
theorem mt_sem_of {code : List m_B} {nL : Nat} {av : List m_V} {M : m_M} {r : m_R} {n : Nat} (h : mt_run code n 0 (mt_l0 nL av, [], M) = some r) : mt_sem code nL av M = some r := by
  have hx : ∃ n, ((fun n => mt_run code n 0 (mt_l0 nL av, [], M)) n).isSome = true := ⟨n, by simp only [h]; rfl⟩
  unfold mt_sem mt_lim
  rw [dif_pos hx]
  have h2 := Classical.choose_spec hx
  obtain ⟨r2, h3⟩ := Option.isSome_iff_exists.mp h2
  have h4 := mt_run_mono n (n + Classical.choose hx) 0 _ (by omega) h
  have h5 := mt_run_mono (Classical.choose hx) (n + Classical.choose hx) 0 _ (by omega) h3
  rw [h4] at h5
  rw [h5]
  exact h3
/-- from pc with q the code comes to an answer that has Q -/
def mt_T (code : List m_B) (pc : Nat) (q : m_C) (Q : m_R → Prop) : Prop := ∃ (n : Nat) (r : m_R), mt_run code n pc q = some r ∧ Q r
def mt_fin (code : List m_B) (Q : m_R → Prop) : Option ((Nat × m_C) ⊕ m_R) → Prop
  | none => False
  | some (.inl y) => mt_T code y.1 y.2 Q
  | some (.inr r) => Q r
def mt_go : List m_S → m_C → (m_C → Prop) → Prop
  | [], q, K => K q
  | o :: t, q, K => match o q with
    | some q' => mt_go t q' K
    | none => False
theorem mt_go_iff : ∀ (ops : List m_S) (q : m_C) (K : m_C → Prop), mt_go ops q K ↔ ∃ q', mt_seq ops q = some q' ∧ K q'
  | [], q, K => ⟨fun h => ⟨q, rfl, h⟩, fun ⟨q', h1, h2⟩ => by cases h1; exact h2⟩
  | o :: t, q, K => by
    simp only [mt_go, mt_seq]
    cases o q with
    | none => simp
    | some q1 => exact mt_go_iff t q1 K
def mt_kk (code : List m_B) (Q : m_R → Prop) (last : m_O) (q : m_C) : Prop := mt_fin code Q (last q)
theorem mt_blk {code : List m_B} {pc : Nat} {ops : List m_S} {last : m_O} (h : mt_cd code pc = some (ops, last)) (q : m_C) (Q : m_R → Prop) : mt_T code pc q Q = mt_go ops q (mt_kk code Q last) := by
  apply propext
  rw [mt_go_iff]
  constructor
  · rintro ⟨n, r, hr, hQ⟩
    cases n with
    | zero => simp [mt_run] at hr
    | succ n =>
      simp only [mt_run, h, mt_b] at hr
      cases hs : mt_seq ops q with
      | none => simp [hs] at hr
      | some q' =>
        refine ⟨q', rfl, ?_⟩
        simp only [hs] at hr
        show mt_fin code Q (last q')
        cases hl : last q' with
        | none => simp [hl] at hr
        | some z =>
          simp only [hl] at hr
          cases z with
          | inl y => exact ⟨n, r, hr, hQ⟩
          | inr r' => cases hr; exact hQ
  · rintro ⟨q', hs, hK⟩
    have hK : mt_fin code Q (last q') := hK
    cases hl : last q' with
    | none => rw [hl] at hK; exact hK.elim
    | some z =>
      rw [hl] at hK
      cases z with
      | inl y =>
        obtain ⟨n, r, h1, h2⟩ := hK
        exact ⟨n + 1, r, by simp only [mt_run, h, mt_b, hs, hl]; exact h1, h2⟩
      | inr r => exact ⟨1, r, by simp only [mt_run, h, mt_b, hs, hl], hK⟩
theorem mt_T_mono {code : List m_B} {pc : Nat} {q : m_C} {Q Q' : m_R → Prop} (h : mt_T code pc q Q) (hq : ∀ r, Q r → Q' r) : mt_T code pc q Q' := by
  obtain ⟨n, r, h1, h2⟩ := h
  exact ⟨n, r, h1, hq r h2⟩
/-- a method, called -/
def mt_P (sem : List m_V → m_M → Option m_R) (av : List m_V) (M : m_M) (Q : m_R → Prop) : Prop := ∃ r, sem av M = some r ∧ Q r
theorem mt_P_of {code : List m_B} {nL : Nat} {av : List m_V} {M : m_M} {Q : m_R → Prop} (h : mt_T code 0 (mt_l0 nL av, [], M) Q) : mt_P (mt_sem code nL) av M Q := by
  obtain ⟨n, r, h1, h2⟩ := h
  exact ⟨r, mt_sem_of h1, h2⟩
theorem mt_P_mono {sem : List m_V → m_M → Option m_R} {av : List m_V} {M : m_M} {Q Q' : m_R → Prop} (h : mt_P sem av M Q) (hq : ∀ r, Q r → Q' r) : mt_P sem av M Q' := by
  obtain ⟨r, h1, h2⟩ := h
  exact ⟨r, h1, hq r h2⟩
-- memory
def mup (M : m_M) (a : Nat) (e : m_E) : m_M := (M.1, M.2.1, va_up M.2.2 a (some e))
def gf (M : m_M) (ci a k : Nat) : Option m_V := match M.2.2 a with
  | some (.inl (c, fs)) => if c = ci then fnth fs k else none
  | _ => none
def pf (M : m_M) (ci a k : Nat) (x : m_V) : Option m_M := match M.2.2 a with
  | some (.inl (c, fs)) => if c = ci ∧ k < fs.length then some (mup M a (.inl (ci, fset fs k x))) else none
  | _ => none
def gi (t : Nat) (M : m_M) (a : Nat) : Option (Nat × (Nat → Int32)) := match M.2.2 a with
  | some (.inr (c, n, .inl f)) => if c = t then some (n, f) else none
  | _ => none
def ga (t : Nat) (M : m_M) (a : Nat) : Option (Nat × (Nat → Option Nat)) := match M.2.2 a with
  | some (.inr (c, n, .inr f)) => if c = t then some (n, f) else none
  | _ => none
def mt_is (M : m_M) (ci a : Nat) : Bool := match M.2.2 a with
  | some (.inl (c, _)) => c == ci
  | _ => false
def mt_ix (i : Int32) (n : Nat) : Option Nat := if i < 0 ∨ n ≤ i.toNatClampNeg then none else some i.toNatClampNeg
def mt_z (x : Int32) : Bool := x == 0 || x == 1
def mnew (M : m_M) (w : Nat) (e : m_E) : m_M := (M.1 + 1, M.2.1 + w, va_up M.2.2 M.1 (some e))
-- plain instructions
def o_const (x : Int32) (q : m_C) : Option m_C := some (q.1, .inl x :: q.2.1, q.2.2)
def o_null (q : m_C) : Option m_C := some (q.1, .inr none :: q.2.1, q.2.2)
def o_iload (i : Nat) (q : m_C) : Option m_C := match lget q.1 i with
  | some (.inl x) => some (q.1, .inl x :: q.2.1, q.2.2)
  | _ => none
def o_aload (i : Nat) (q : m_C) : Option m_C := match lget q.1 i with
  | some (.inr x) => some (q.1, .inr x :: q.2.1, q.2.2)
  | _ => none
def o_istore (i : Nat) (q : m_C) : Option m_C := match q.2.1 with
  | .inl x :: st => some (lput q.1 i (.inl x), st, q.2.2)
  | _ => none
def o_astore (i : Nat) (q : m_C) : Option m_C := match q.2.1 with
  | .inr x :: st => some (lput q.1 i (.inr x), st, q.2.2)
  | _ => none
def o_iinc (i : Nat) (d : Int32) (q : m_C) : Option m_C := match lget q.1 i with
  | some (.inl x) => some (lput q.1 i (.inl (x + d)), q.2.1, q.2.2)
  | _ => none
def o_add (q : m_C) : Option m_C := match q.2.1 with
  | .inl y :: .inl x :: st => some (q.1, .inl (x + y) :: st, q.2.2)
  | _ => none
def o_sub (q : m_C) : Option m_C := match q.2.1 with
  | .inl y :: .inl x :: st => some (q.1, .inl (x - y) :: st, q.2.2)
  | _ => none
def o_mul (q : m_C) : Option m_C := match q.2.1 with
  | .inl y :: .inl x :: st => some (q.1, .inl (x * y) :: st, q.2.2)
  | _ => none
def o_and (q : m_C) : Option m_C := match q.2.1 with
  | .inl y :: .inl x :: st => some (q.1, .inl (x &&& y) :: st, q.2.2)
  | _ => none
def o_xor (q : m_C) : Option m_C := match q.2.1 with
  | .inl y :: .inl x :: st => some (q.1, .inl (x ^^^ y) :: st, q.2.2)
  | _ => none
def o_div (q : m_C) : Option m_C := match q.2.1 with
  | .inl y :: .inl x :: st => if y = 0 then none else some (q.1, .inl (x / y) :: st, q.2.2)
  | _ => none
def o_rem (q : m_C) : Option m_C := match q.2.1 with
  | .inl y :: .inl x :: st => if y = 0 then none else some (q.1, .inl (x - x / y * y) :: st, q.2.2)
  | _ => none
def o_dup (q : m_C) : Option m_C := match q.2.1 with
  | x :: st => some (q.1, x :: x :: st, q.2.2)
  | _ => none
def o_dup2 (q : m_C) : Option m_C := match q.2.1 with
  | x :: y :: st => some (q.1, x :: y :: x :: y :: st, q.2.2)
  | _ => none
def o_pop (q : m_C) : Option m_C := match q.2.1 with
  | _ :: st => some (q.1, st, q.2.2)
  | _ => none
def o_get (ci k : Nat) (q : m_C) : Option m_C := match q.2.1 with
  | .inr (some a) :: st => (match gf q.2.2 ci a k with
    | some x => some (q.1, x :: st, q.2.2)
    | none => none)
  | _ => none
def o_putI (ci k : Nat) (q : m_C) : Option m_C := match q.2.1 with
  | .inl x :: .inr (some a) :: st => (match pf q.2.2 ci a k (.inl x) with
    | some M => some (q.1, st, M)
    | none => none)
  | _ => none
def o_putZ (ci k : Nat) (q : m_C) : Option m_C := match q.2.1 with
  | .inl x :: .inr (some a) :: st => if mt_z x = true then (match pf q.2.2 ci a k (.inl x) with
    | some M => some (q.1, st, M)
    | none => none) else none
  | _ => none
def o_putA (ci k : Nat) (q : m_C) : Option m_C := match q.2.1 with
  | .inr (some x) :: .inr (some a) :: st => (match pf q.2.2 ci a k (.inr (some x)) with
    | some M => some (q.1, st, M)
    | none => none)
  | _ => none
def o_iald (q : m_C) : Option m_C := match q.2.1 with
  | .inl i :: .inr (some a) :: st => (match gi 0 q.2.2 a with
    | some (N, f) => (match mt_ix i N with
      | some j => some (q.1, .inl (f j) :: st, q.2.2)
      | none => none)
    | none => none)
  | _ => none
def o_zald (q : m_C) : Option m_C := match q.2.1 with
  | .inl i :: .inr (some a) :: st => (match gi 1 q.2.2 a with
    | some (N, f) => (match mt_ix i N with
      | some j => some (q.1, .inl (f j) :: st, q.2.2)
      | none => none)
    | none => none)
  | _ => none
def o_iast (q : m_C) : Option m_C := match q.2.1 with
  | .inl x :: .inl i :: .inr (some a) :: st => (match gi 0 q.2.2 a with
    | some (N, f) => (match mt_ix i N with
      | some j => some (q.1, st, mup q.2.2 a (.inr (0, N, .inl (upd f j x))))
      | none => none)
    | none => none)
  | _ => none
def o_zast (q : m_C) : Option m_C := match q.2.1 with
  | .inl x :: .inl i :: .inr (some a) :: st => (match gi 1 q.2.2 a with
    | some (N, f) => (match mt_ix i N with
      | some j => if mt_z x = true then some (q.1, st, mup q.2.2 a (.inr (1, N, .inl (upd f j x)))) else none
      | none => none)
    | none => none)
  | _ => none
def o_aald (t : Nat) (q : m_C) : Option m_C := match q.2.1 with
  | .inl i :: .inr (some a) :: st => (match ga t q.2.2 a with
    | some (N, f) => (match mt_ix i N with
      | some j => some (q.1, .inr (f j) :: st, q.2.2)
      | none => none)
    | none => none)
  | _ => none
/-- the value is an object of class ci -/
def o_aast (t ci : Nat) (q : m_C) : Option m_C := match q.2.1 with
  | .inr (some x) :: .inl i :: .inr (some a) :: st => (match ga t q.2.2 a with
    | some (N, f) => (match mt_ix i N with
      | some j => if mt_is q.2.2 ci x = true then some (q.1, st, mup q.2.2 a (.inr (t, N, .inr (va_up f j (some x))))) else none
      | none => none)
    | none => none)
  | _ => none
/-- the length of an array of objects -/
def o_alen (t : Nat) (q : m_C) : Option m_C := match q.2.1 with
  | .inr (some a) :: st => (match ga t q.2.2 a with
    | some (N, _) => some (q.1, .inl (nI N) :: st, q.2.2)
    | none => none)
  | _ => none
def o_new (ci : Nat) (fs : List m_V) (q : m_C) : Option m_C := some (q.1, .inr (some q.2.2.1) :: q.2.1, mnew q.2.2 fs.length (.inl (ci, fs)))
/-- a new array of ints (t = 0) or booleans (t = 1) -/
def o_newI (t : Nat) (q : m_C) : Option m_C := match q.2.1 with
  | .inl k :: st => if k < 0 ∨ 65536 < k.toNatClampNeg then none else some (q.1, .inr (some q.2.2.1) :: st, mnew q.2.2 k.toNatClampNeg (.inr (t, k.toNatClampNeg, .inl (fun _ => 0))))
  | _ => none
def o_newA (t : Nat) (q : m_C) : Option m_C := match q.2.1 with
  | .inl k :: st => if k < 0 ∨ 65536 < k.toNatClampNeg then none else some (q.1, .inr (some q.2.2.1) :: st, mnew q.2.2 k.toNatClampNeg (.inr (t, k.toNatClampNeg, .inr (fun _ => none))))
  | _ => none
def o_objinit (q : m_C) : Option m_C := match q.2.1 with
  | .inr (some _) :: st => if st.length ≤ 8 then some (q.1, st, q.2.2) else none
  | _ => none
/-- the script, at address sb, read as an array: its length and its numbers -/
def o_slen (sb L : Nat) (q : m_C) : Option m_C := match q.2.1 with
  | .inr (some a) :: st => if a = sb then some (q.1, .inl (nI L) :: st, q.2.2) else none
  | _ => none
def o_sld (sb L : Nat) (xs : Nat → Int32) (q : m_C) : Option m_C := match q.2.1 with
  | .inl i :: .inr (some a) :: st => if a = sb then (match mt_ix i L with
    | some j => some (q.1, .inl (xs j) :: st, q.2.2)
    | none => none) else none
  | _ => none
-- last instructions of a block
def o_fall (n : Nat) (q : m_C) : Option ((Nat × m_C) ⊕ m_R) := some (.inl (n, q))
def o_ifeq (t n : Nat) (q : m_C) : Option ((Nat × m_C) ⊕ m_R) := match q.2.1 with
  | .inl x :: st => if x = 0 then some (.inl (t, q.1, st, q.2.2)) else some (.inl (n, q.1, st, q.2.2))
  | _ => none
def o_ifne (t n : Nat) (q : m_C) : Option ((Nat × m_C) ⊕ m_R) := match q.2.1 with
  | .inl x :: st => if x = 0 then some (.inl (n, q.1, st, q.2.2)) else some (.inl (t, q.1, st, q.2.2))
  | _ => none
def o_iflt (t n : Nat) (q : m_C) : Option ((Nat × m_C) ⊕ m_R) := match q.2.1 with
  | .inl x :: st => if x < 0 then some (.inl (t, q.1, st, q.2.2)) else some (.inl (n, q.1, st, q.2.2))
  | _ => none
def o_ifge (t n : Nat) (q : m_C) : Option ((Nat × m_C) ⊕ m_R) := match q.2.1 with
  | .inl x :: st => if 0 ≤ x then some (.inl (t, q.1, st, q.2.2)) else some (.inl (n, q.1, st, q.2.2))
  | _ => none
def o_ifgt (t n : Nat) (q : m_C) : Option ((Nat × m_C) ⊕ m_R) := match q.2.1 with
  | .inl x :: st => if 0 < x then some (.inl (t, q.1, st, q.2.2)) else some (.inl (n, q.1, st, q.2.2))
  | _ => none
def o_ifle (t n : Nat) (q : m_C) : Option ((Nat × m_C) ⊕ m_R) := match q.2.1 with
  | .inl x :: st => if x ≤ 0 then some (.inl (t, q.1, st, q.2.2)) else some (.inl (n, q.1, st, q.2.2))
  | _ => none
def o_iceq (t n : Nat) (q : m_C) : Option ((Nat × m_C) ⊕ m_R) := match q.2.1 with
  | .inl y :: .inl x :: st => if x = y then some (.inl (t, q.1, st, q.2.2)) else some (.inl (n, q.1, st, q.2.2))
  | _ => none
def o_icne (t n : Nat) (q : m_C) : Option ((Nat × m_C) ⊕ m_R) := match q.2.1 with
  | .inl y :: .inl x :: st => if x = y then some (.inl (n, q.1, st, q.2.2)) else some (.inl (t, q.1, st, q.2.2))
  | _ => none
def o_iclt (t n : Nat) (q : m_C) : Option ((Nat × m_C) ⊕ m_R) := match q.2.1 with
  | .inl y :: .inl x :: st => if x < y then some (.inl (t, q.1, st, q.2.2)) else some (.inl (n, q.1, st, q.2.2))
  | _ => none
def o_icge (t n : Nat) (q : m_C) : Option ((Nat × m_C) ⊕ m_R) := match q.2.1 with
  | .inl y :: .inl x :: st => if y ≤ x then some (.inl (t, q.1, st, q.2.2)) else some (.inl (n, q.1, st, q.2.2))
  | _ => none
def o_icgt (t n : Nat) (q : m_C) : Option ((Nat × m_C) ⊕ m_R) := match q.2.1 with
  | .inl y :: .inl x :: st => if y < x then some (.inl (t, q.1, st, q.2.2)) else some (.inl (n, q.1, st, q.2.2))
  | _ => none
def o_icle (t n : Nat) (q : m_C) : Option ((Nat × m_C) ⊕ m_R) := match q.2.1 with
  | .inl y :: .inl x :: st => if x ≤ y then some (.inl (t, q.1, st, q.2.2)) else some (.inl (n, q.1, st, q.2.2))
  | _ => none
def o_ifnull (t n : Nat) (q : m_C) : Option ((Nat × m_C) ⊕ m_R) := match q.2.1 with
  | .inr none :: st => some (.inl (t, q.1, st, q.2.2))
  | .inr (some _) :: st => some (.inl (n, q.1, st, q.2.2))
  | _ => none
def o_ifnonnull (t n : Nat) (q : m_C) : Option ((Nat × m_C) ⊕ m_R) := match q.2.1 with
  | .inr none :: st => some (.inl (n, q.1, st, q.2.2))
  | .inr (some _) :: st => some (.inl (t, q.1, st, q.2.2))
  | _ => none
def o_acne (t n : Nat) (q : m_C) : Option ((Nat × m_C) ⊕ m_R) := match q.2.1 with
  | .inr y :: .inr x :: st => if x = y then some (.inl (n, q.1, st, q.2.2)) else some (.inl (t, q.1, st, q.2.2))
  | _ => none
def o_tsw (lo hi : Int) (d : Nat) (ts : List Nat) (q : m_C) : Option ((Nat × m_C) ⊕ m_R) := match q.2.1 with
  | .inl x :: st => if x.toInt < lo ∨ hi < x.toInt then some (.inl (d, q.1, st, q.2.2)) else (match ts[(x.toInt - lo).toNat]? with
    | some t => some (.inl (t, q.1, st, q.2.2))
    | none => none)
  | _ => none
def mt_after (n : Nat) (lv : List (Option m_V)) (st : List m_V) : Option m_R → Option ((Nat × m_C) ⊕ m_R)
  | some r => some (.inl (n, lv, r.1.toList ++ st, r.2))
  | none => none
/-- a call with na arguments; the receiver, where there is one, is the first of them, and is an object of class ci -/
def o_callV (sem : List m_V → m_M → Option m_R) (ci na n : Nat) (q : m_C) : Option ((Nat × m_C) ⊕ m_R) := match mt_pop na [] q.2.1 with
  | some (.inr (some a) :: av, st) => if st.length ≤ 8 ∧ mt_is q.2.2 ci a = true then mt_after n q.1 st (sem (.inr (some a) :: av) q.2.2) else none
  | _ => none
def o_callI (sem : List m_V → m_M → Option m_R) (na n : Nat) (q : m_C) : Option ((Nat × m_C) ⊕ m_R) := match mt_pop na [] q.2.1 with
  | some (.inr (some a) :: av, st) => if st.length ≤ 8 then mt_after n q.1 st (sem (.inr (some a) :: av) q.2.2) else none
  | _ => none
def o_callS (sem : List m_V → m_M → Option m_R) (na n : Nat) (q : m_C) : Option ((Nat × m_C) ⊕ m_R) := match mt_pop na [] q.2.1 with
  | some (av, st) => if st.length ≤ 8 then mt_after n q.1 st (sem av q.2.2) else none
  | _ => none
def o_ret (q : m_C) : Option ((Nat × m_C) ⊕ m_R) := match q.2.1 with
  | [] => some (.inr (none, q.2.2))
  | _ => none
def o_iret (q : m_C) : Option ((Nat × m_C) ⊕ m_R) := match q.2.1 with
  | [.inl x] => some (.inr (some (.inl x), q.2.2))
  | _ => none
def o_zret (q : m_C) : Option ((Nat × m_C) ⊕ m_R) := match q.2.1 with
  | [.inl x] => if mt_z x = true then some (.inr (some (.inl x), q.2.2)) else none
  | _ => none
def o_aret (q : m_C) : Option ((Nat × m_C) ⊕ m_R) := match q.2.1 with
  | [.inr x] => some (.inr (some (.inr x), q.2.2))
  | _ => none
/-- a call's end, said of the callee's own Q -/
theorem mt_call {code : List m_B} {Q : m_R → Prop} {n : Nat} {lv : List (Option m_V)} {st : List m_V} {sem : List m_V → m_M → Option m_R} {av : List m_V} {M : m_M} {Qc : m_R → Prop} (h : mt_P sem av M Qc) (k : ∀ r : m_R, Qc r → mt_T code n (lv, r.1.toList ++ st, r.2) Q) : mt_fin code Q (mt_after n lv st (sem av M)) := by
  obtain ⟨r, h1, h2⟩ := h
  rw [h1]
  exact k r h2
theorem mt_sem_eq {code : List m_B} {nL : Nat} {av : List m_V} {M : m_M} {r : m_R} (h : mt_T code 0 (mt_l0 nL av, [], M) (fun x => x = r)) : mt_sem code nL av M = some r := by
  obtain ⟨n, r1, h1, h2⟩ := h
  rw [h2] at h1
  exact mt_sem_of h1
theorem mt_callD {code : List m_B} {Q : m_R → Prop} {n : Nat} {lv : List (Option m_V)} {st : List m_V} {sem : List m_V → m_M → Option m_R} {av : List m_V} {M : m_M} {r : m_R} (h : sem av M = some r) (k : mt_T code n (lv, r.1.toList ++ st, r.2) Q) : mt_fin code Q (mt_after n lv st (sem av M)) := by
  rw [h]
  exact k
