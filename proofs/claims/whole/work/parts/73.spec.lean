/-! Numbers that both programs compute: sums and digest of a stretch of bytes; truth values. -/
def bI : Bool → Int32
  | true => nI 1
  | false => nI 0
theorem bI_0 (c : Bool) : (bI c = 0) = (c = false) := by
  cases c
  · exact propext ⟨fun _ => rfl, fun _ => rfl⟩
  · exact propext ⟨fun h => absurd h (by decide), fun h => by cases h⟩
theorem bI_z (c : Bool) : mt_z (bI c) = true := by cases c <;> decide
theorem bI_t : bI true = nI 1 := rfl
theorem bI_f : bI false = nI 0 := rfl
theorem z_0 : mt_z (nI 0) = true := by decide
theorem z_1 : mt_z (nI 1) = true := by decide
theorem e_0 : (nI 0 = (0 : Int32)) = True := eq_true rfl
theorem e_1 : (nI 1 = (0 : Int32)) = False := eq_false (by decide)
def wnA (g : Nat → Nat) : Nat → Nat
  | 0 => 0
  | i + 1 => wnA g i + g i
def wnB (g : Nat → Nat) (m : Nat) : Nat → Nat
  | 0 => 0
  | i + 1 => wnB g m i + (m - i) * g i
def wk (g : Nat → Nat) (m : Nat) : Nat := wnA g m % 16 + 16 * (wnB g m m % 16)
def sg (g : Nat → Nat) : Nat → Nat
  | 0 => 0
  | i + 1 => (sg g i * 31 + g i + 1) % 65521
def ss (g : Nat → Nat) (m att : Nat) : Nat := if att = 1 then sg g m % 4 else sg g m
def sw (g : Nat → Nat) (m att : Nat) : Nat := wk g m + 256 * ss g m att
def dg (g : Nat → Nat) : Nat → Int32
  | 0 => -2128831035
  | i + 1 => (dg g i ^^^ nI (g i)) * nI 16777619
theorem wnA_congr {g h : Nat → Nat} : ∀ {i : Nat}, (∀ j, j < i → g j = h j) → wnA g i = wnA h i
  | 0, _ => rfl
  | i + 1, e => by
    simp only [wnA]
    rw [wnA_congr (fun j hj => e j (by omega)), e i (by omega)]
theorem wnB_congr {g h : Nat → Nat} {m : Nat} : ∀ {i : Nat}, (∀ j, j < i → g j = h j) → wnB g m i = wnB h m i
  | 0, _ => rfl
  | i + 1, e => by
    simp only [wnB]
    rw [wnB_congr (fun j hj => e j (by omega)), e i (by omega)]
theorem sg_congr {g h : Nat → Nat} : ∀ {i : Nat}, (∀ j, j < i → g j = h j) → sg g i = sg h i
  | 0, _ => rfl
  | i + 1, e => by
    simp only [sg]
    rw [sg_congr (fun j hj => e j (by omega)), e i (by omega)]
theorem dg_congr {g h : Nat → Nat} : ∀ {i : Nat}, (∀ j, j < i → g j = h j) → dg g i = dg h i
  | 0, _ => rfl
  | i + 1, e => by
    simp only [dg]
    rw [dg_congr (fun j hj => e j (by omega)), e i (by omega)]
theorem wnA_le {g : Nat → Nat} : ∀ {i : Nat}, (∀ j, j < i → g j < 256) → wnA g i ≤ 255 * i
  | 0, _ => Nat.le_refl _
  | i + 1, e => by
    have h1 := wnA_le (g := g) (i := i) (fun j hj => e j (by omega))
    have h2 := e i (by omega)
    simp only [wnA]
    omega
theorem wnB_le {g : Nat → Nat} {m : Nat} (hm : m ≤ 8) : ∀ {i : Nat}, (∀ j, j < i → g j < 256) → wnB g m i ≤ 2040 * i
  | 0, _ => Nat.le_refl _
  | i + 1, e => by
    have h1 := wnB_le (g := g) hm (i := i) (fun j hj => e j (by omega))
    have h2 := e i (by omega)
    have h3 : (m - i) * g i ≤ 8 * 255 := Nat.mul_le_mul (by omega) (by omega)
    simp only [wnB]
    omega
theorem sg_lt {g : Nat → Nat} : ∀ (i : Nat), sg g i < 65521
  | 0 => by simp [sg]
  | i + 1 => Nat.mod_lt _ (by decide)
theorem wk_lt {g : Nat → Nat} {m : Nat} : wk g m < 256 := by
  unfold wk
  omega
theorem ss_lt {g : Nat → Nat} {m att : Nat} : ss g m att < 65521 := by
  unfold ss
  have := sg_lt (g := g) m
  split <;> omega
theorem sw_eq {g h : Nat → Nat} {m n a b : Nat} : sw g m a = sw h n b ↔ wk g m = wk h n ∧ ss g m a = ss h n b := by
  have h1 := wk_lt (g := g) (m := m)
  have h2 := wk_lt (g := h) (m := n)
  unfold sw
  omega
-- bytes in a list
theorem gd_app {l : List Nat} {x j : Nat} : (l ++ [x]).getD j 0 = if j = l.length then x else l.getD j 0 := by
  simp only [List.getD_eq_getElem?_getD]
  by_cases h : j < l.length
  · rw [List.getElem?_append_left h, if_neg (by omega)]
  · by_cases h2 : j = l.length
    · subst h2
      simp
    · rw [if_neg h2, List.getElem?_eq_none (by simp; omega), List.getElem?_eq_none (by omega)]
theorem gd_set {l : List Nat} {x i j : Nat} (hi : i < l.length) : (l.set i x).getD j 0 = if j = i then x else l.getD j 0 := by
  simp only [List.getD_eq_getElem?_getD, List.getElem?_set]
  by_cases h : i = j
  · subst h
    simp [hi]
  · rw [if_neg h, if_neg (fun e => h e.symm)]
/-! What a state of the system is, and how the class's numbers stand for it. -/
abbrev a_F : Type := Option (List Nat × Int32)
abbrev a_M : Type := Nat × Nat × Nat × Int32 × Int32 × List Nat
abbrev a_S : Type := Nat × Bool × Bool × (Nat → Option (Int32 × Int32)) × (Nat → Bool) × List a_M × List a_M
abbrev a_R : Type := List (Bool × Int32 × Int32)
abbrev a_J : Type := Option (Nat × List Nat × Int32)
def a_by (l : List Nat) : Prop := l.length ≤ 40 ∧ ∀ x ∈ l, x < 256
def rR (V : v_N) (o : Nat) (l : List Nat) : Prop := V o 1 = nI l.length ∧ ∀ j, j < l.length → V (o + 1) j = nI (l.getD j 0)
def fR (V : v_N) (o : Nat) (x : a_F) : Prop := match x with
  | none => V o 1 = nI 0 ∧ rR V (o + 1) []
  | some y => V o 1 = nI 1 ∧ V o 2 = y.2 ∧ rR V (o + 1) y.1 ∧ a_by y.1
def uR (V : v_N) (rl : a_R) : Prop := rl.length ≤ 6 ∧ V 2 3 = nI rl.length ∧ ∀ j r, rl[j]? = some r → V 3 j = bI r.1 ∧ V 4 j = r.2.1 ∧ V 5 j = r.2.2
def mR (V : v_N) (o : Nat) (m : a_M) : Prop := V o 0 = nI m.1 ∧ V o 1 = nI m.2.1 ∧ (m.1 = 1 → V o 2 = m.2.2.2.1 ∧ V o 3 = m.2.2.2.2.1) ∧ (m.1 = 3 ∨ m.1 = 4 → V o 4 = nI m.2.2.1 ∧ V o 6 = nI m.2.2.2.2.2.length ∧ m.2.2.2.2.2.length ≤ 40 ∧ ∀ j, j < m.2.2.2.2.2.length → V (o + 1) j = nI (m.2.2.2.2.2.getD j 0)) ∧ (m.1 = 4 → V o 5 = m.2.2.2.1)
def lR (V : v_N) (o : Nat) (ls : List a_M) : Prop := ∃ p, p < 13 ∧ V o 1 = nI p ∧ V o 2 = nI ls.length ∧ ls.length ≤ 13 ∧ ∀ i m, ls[i]? = some m → mR V (o + 1 + 1 + 2 * ((p + i) % 13)) m
def jR (V : v_N) (x : a_J) : Prop := ∃ p, p < 12 ∧ V 63 1 = nI p ∧ match x with
  | none => V 63 2 = nI 0
  | some y => V 63 2 = nI 1 ∧ y.1 < 12 ∧ V (65 + 3 * p) 1 = nI y.1 ∧ V (65 + 3 * p) 2 = y.2.2 ∧ rR V (65 + 3 * p + 1) y.2.1 ∧ a_by y.2.1
def eR (V : v_N) (o : Nat) (x : Option (Int32 × Int32)) (q : Bool) : Prop := V o 0 = bI x.isSome ∧ V o 1 = bI q ∧ ∀ y, x = some y → V o 2 = y.1 ∧ V o 3 = y.2
def sR (V : v_N) (x : Option a_S) : Prop := match x with
  | none => V 0 9 = nI 0 ∧ lR V 6 [] ∧ lR V 34 [] ∧ ∀ k, k < 12 → V (176 + k) 0 = nI 0 ∧ V (176 + k) 1 = nI 0
  | some y => V 0 9 = nI 1 ∧ V 0 11 = nI y.1 ∧ 1 ≤ y.1 ∧ y.1 ≤ 8 ∧ V 0 10 = bI y.2.1 ∧ lR V 6 y.2.2.2.2.2.1 ∧ lR V 34 y.2.2.2.2.2.2 ∧ ∀ k, k < 12 → eR V (176 + k) (y.2.2.2.1 k) (y.2.2.2.2.1 k)
/-! What the calls do to a state: the same for both programs. -/
def a_sl : a_R → Nat → Bool
  | [], _ => true
  | r :: t, n => if nI n &&& r.2.1 = r.2.2 then r.1 else a_sl t n
def a_bp (ct : Nat → Int32) (k : Nat) : Nat → Int32 := upd ct k (ct k + nI 1)
/-- the journal's record is done -/
def a_fl (fs : Nat → a_F) (jr : a_J) : Nat → a_F := match jr with
  | none => fs
  | some y => va_up fs (12 + y.1) (some (y.2.1, y.2.2))
def a_fc (ct : Nat → Int32) (jr : a_J) : Nat → Int32 := match jr with
  | none => ct
  | some _ => a_bp ct 7
/-- the entries that a beginning sends, of the names below n -/
def a_en (fs : Nat → a_F) (rl : a_R) : Nat → List a_M
  | 0 => []
  | n + 1 => a_en fs rl n ++ (match fs n with
    | some y => if a_sl rl n = true then [(1, n, 0, nI y.1.length, y.2, [])] else []
    | none => [])
def a_end : a_M := (2, 0, 0, 0, 0, [])
/-- the sums of the first k blocks -/
def a_sg (g : Nat → Nat) (blk att : Nat) : Nat → List Nat
  | 0 => []
  | k + 1 => a_sg g blk att k ++ [sw (fun i => g (k * blk + i)) blk att]
def a_row (x : a_F) : List Nat := match x with
  | some y => y.1
  | none => []
def a_sm (fs : Nat → a_F) (blk n att : Nat) : a_M := (3, n, att, 0, 0, a_sg (fun j => (a_row (fs (12 + n))).getD j 0) blk att ((a_row (fs (12 + n))).length / blk))
def a_ag (x : a_F) (y : Int32 × Int32) : Bool := match x with
  | some z => nI z.1.length == y.1 && z.2 == y.2
  | none => false
/-- the end has come: entries are skipped or opened, of the names below n -/
def a_op (fs : Nat → a_F) (blk : Nat) (nt : Nat → Option (Int32 × Int32)) (s : (Nat → Bool) × List a_M × (Nat → Int32)) : Nat → (Nat → Bool) × List a_M × (Nat → Int32)
  | 0 => s
  | n + 1 => match nt n with
    | none => a_op fs blk nt s n
    | some y => if a_ag (fs (12 + n)) y = true then ((a_op fs blk nt s n).1, (a_op fs blk nt s n).2.1, a_bp (a_op fs blk nt s n).2.2 5) else (va_up (a_op fs blk nt s n).1 n true, (a_op fs blk nt s n).2.1 ++ [a_sm fs blk n 1], (a_op fs blk nt s n).2.2)
/-- the first place of x in s, counted from k on -/
def a_fd : List Nat → Nat → Nat → Option Nat
  | [], _, _ => none
  | y :: t, x, k => if y = x then some k else a_fd t x (k + 1)
def a_mt (l s : List Nat) (blk att i : Nat) : Option Nat := if i + blk ≤ l.length then a_fd s (sw (fun j => l.getD (i + j) 0) blk att) 0 else none
/-- a delta's items from place i on -/
def a_dl (l s : List Nat) (blk att : Nat) : Nat → Nat → List Nat
  | 0, _ => []
  | d + 1, i => if i < l.length then (match a_mt l s blk att i with
    | some k => (256 + k) :: a_dl l s blk att d (i + blk)
    | none => l.getD i 0 :: a_dl l s blk att d (i + 1)) else []
def a_dc (ct : Nat → Int32) : List Nat → (Nat → Int32)
  | [] => ct
  | x :: t => a_dc (if x < 256 then a_bp ct 0 else a_bp ct 1) t
/-- what a delta's items put together -/
def a_rb1 (old : List Nat) (p : Nat) : Nat → List Nat
  | 0 => []
  | n + 1 => a_rb1 old p n ++ (if p + n < old.length then [old.getD (p + n) 0] else [])
def a_rb (old : List Nat) (blk : Nat) (acc : List Nat) : List Nat → List Nat
  | [] => acc
  | x :: t => a_rb old blk (acc ++ (if x < 256 then [x] else a_rb1 old ((x - 256) * blk) blk)) t
def a_sz (blk : Nat) : List Nat → Nat
  | [] => 0
  | x :: t => (if x < 256 then 1 else blk) + a_sz blk t
/-- unlisted files are deleted, of the names below n -/
def a_de (rl : a_R) (nt : Nat → Option (Int32 × Int32)) (s : (Nat → a_F) × (Nat → Int32)) : Nat → (Nat → a_F) × (Nat → Int32)
  | 0 => s
  | n + 1 => if ((a_de rl nt s n).1 (12 + n)).isSome = true ∧ a_sl rl n = true ∧ nt n = none then (va_up (a_de rl nt s n).1 (12 + n) none, a_bp (a_de rl nt s n).2 6) else a_de rl nt s n
def a_ho (op : Nat → Bool) : Nat → Bool
  | 0 => false
  | n + 1 => a_ho op n || op n
