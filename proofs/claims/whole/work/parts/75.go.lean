/-! Rows by which a stretch of the small machine's code is run. -/
section GO
variable {t : List m_S} {lv : List (Option m_V)} {st : List m_V} {M : m_M} {K : m_C → Prop} {x y : Int32} {u v : m_V} {r : Option Nat} {i k ci a p : Nat} {fs : List m_V}
theorem g_nil {q : m_C} : mt_go [] q K = K q := propext Iff.rfl
theorem g_const : mt_go (o_const x :: t) (lv, st, M) K = mt_go t (lv, .inl x :: st, M) K := propext Iff.rfl
theorem g_null : mt_go (o_null :: t) (lv, st, M) K = mt_go t (lv, .inr none :: st, M) K := propext Iff.rfl
theorem g_istore : mt_go (o_istore i :: t) (lv, .inl x :: st, M) K = mt_go t (lput lv i (.inl x), st, M) K := propext Iff.rfl
theorem g_astore : mt_go (o_astore i :: t) (lv, .inr r :: st, M) K = mt_go t (lput lv i (.inr r), st, M) K := propext Iff.rfl
theorem g_add : mt_go (o_add :: t) (lv, .inl y :: .inl x :: st, M) K = mt_go t (lv, .inl (x + y) :: st, M) K := propext Iff.rfl
theorem g_sub : mt_go (o_sub :: t) (lv, .inl y :: .inl x :: st, M) K = mt_go t (lv, .inl (x - y) :: st, M) K := propext Iff.rfl
theorem g_mul : mt_go (o_mul :: t) (lv, .inl y :: .inl x :: st, M) K = mt_go t (lv, .inl (x * y) :: st, M) K := propext Iff.rfl
theorem g_and : mt_go (o_and :: t) (lv, .inl y :: .inl x :: st, M) K = mt_go t (lv, .inl (x &&& y) :: st, M) K := propext Iff.rfl
theorem g_xor : mt_go (o_xor :: t) (lv, .inl y :: .inl x :: st, M) K = mt_go t (lv, .inl (x ^^^ y) :: st, M) K := propext Iff.rfl
theorem g_div (h : (y = 0) = False) : mt_go (o_div :: t) (lv, .inl y :: .inl x :: st, M) K = mt_go t (lv, .inl (x / y) :: st, M) K := by
  simp only [mt_go, o_div, h, if_false]
theorem g_rem (h : (y = 0) = False) : mt_go (o_rem :: t) (lv, .inl y :: .inl x :: st, M) K = mt_go t (lv, .inl (x - x / y * y) :: st, M) K := by
  simp only [mt_go, o_rem, h, if_false]
theorem g_dup : mt_go (o_dup :: t) (lv, u :: st, M) K = mt_go t (lv, u :: u :: st, M) K := propext Iff.rfl
theorem g_dup2 : mt_go (o_dup2 :: t) (lv, u :: v :: st, M) K = mt_go t (lv, u :: v :: u :: v :: st, M) K := propext Iff.rfl
theorem g_pop : mt_go (o_pop :: t) (lv, u :: st, M) K = mt_go t (lv, st, M) K := propext Iff.rfl
theorem g_iload : mt_go (o_iload i :: t) (lv, st, M) K = (match lget lv i with
    | some (.inl x) => mt_go t (lv, .inl x :: st, M) K
    | _ => False) := by
  simp only [mt_go, o_iload]
  rcases lget lv i with _ | ⟨x | x⟩ <;> rfl
theorem g_aload : mt_go (o_aload i :: t) (lv, st, M) K = (match lget lv i with
    | some (.inr x) => mt_go t (lv, .inr x :: st, M) K
    | _ => False) := by
  simp only [mt_go, o_aload]
  rcases lget lv i with _ | ⟨x | x⟩ <;> rfl
theorem g_iinc : mt_go (o_iinc i y :: t) (lv, st, M) K = (match lget lv i with
    | some (.inl x) => mt_go t (lput lv i (.inl (x + y)), st, M) K
    | _ => False) := by
  simp only [mt_go, o_iinc]
  rcases lget lv i with _ | ⟨x | x⟩ <;> rfl
theorem g_get : mt_go (o_get ci k :: t) (lv, .inr (some a) :: st, M) K = (match gf M ci a k with
    | some x => mt_go t (lv, x :: st, M) K
    | none => False) := by
  simp only [mt_go, o_get]
  cases gf M ci a k <;> rfl
theorem g_putI : mt_go (o_putI ci k :: t) (lv, .inl x :: .inr (some a) :: st, M) K = (match pf M ci a k (.inl x) with
    | some M1 => mt_go t (lv, st, M1) K
    | none => False) := by
  simp only [mt_go, o_putI]
  cases pf M ci a k (.inl x) <;> rfl
theorem g_putZ (h : mt_z x = true) : mt_go (o_putZ ci k :: t) (lv, .inl x :: .inr (some a) :: st, M) K = (match pf M ci a k (.inl x) with
    | some M1 => mt_go t (lv, st, M1) K
    | none => False) := by
  simp only [mt_go, o_putZ, h, if_true]
  cases pf M ci a k (.inl x) <;> rfl
theorem g_putA : mt_go (o_putA ci k :: t) (lv, .inr (some i) :: .inr (some a) :: st, M) K = (match pf M ci a k (.inr (some i)) with
    | some M1 => mt_go t (lv, st, M1) K
    | none => False) := by
  simp only [mt_go, o_putA]
  cases pf M ci a k (.inr (some i)) <;> rfl
theorem g_iald : mt_go (o_iald :: t) (lv, .inl x :: .inr (some a) :: st, M) K = (match gi 0 M a with
    | some (N, f) => (match mt_ix x N with
      | some j => mt_go t (lv, .inl (f j) :: st, M) K
      | none => False)
    | none => False) := by
  simp only [mt_go, o_iald]
  rcases gi 0 M a with _ | ⟨N, f⟩
  · rfl
  · simp only []
    cases mt_ix x N <;> rfl
theorem g_zald : mt_go (o_zald :: t) (lv, .inl x :: .inr (some a) :: st, M) K = (match gi 1 M a with
    | some (N, f) => (match mt_ix x N with
      | some j => mt_go t (lv, .inl (f j) :: st, M) K
      | none => False)
    | none => False) := by
  simp only [mt_go, o_zald]
  rcases gi 1 M a with _ | ⟨N, f⟩
  · rfl
  · simp only []
    cases mt_ix x N <;> rfl
theorem g_aald : mt_go (o_aald p :: t) (lv, .inl x :: .inr (some a) :: st, M) K = (match ga p M a with
    | some (N, f) => (match mt_ix x N with
      | some j => mt_go t (lv, .inr (f j) :: st, M) K
      | none => False)
    | none => False) := by
  simp only [mt_go, o_aald]
  rcases ga p M a with _ | ⟨N, f⟩
  · rfl
  · simp only []
    cases mt_ix x N <;> rfl
theorem g_alen : mt_go (o_alen p :: t) (lv, .inr (some a) :: st, M) K = (match ga p M a with
    | some (N, _) => mt_go t (lv, .inl (nI N) :: st, M) K
    | none => False) := by
  simp only [mt_go, o_alen]
  rcases ga p M a with _ | ⟨N, f⟩ <;> rfl
theorem g_iast : mt_go (o_iast :: t) (lv, .inl y :: .inl x :: .inr (some a) :: st, M) K = (match gi 0 M a with
    | some (N, f) => (match mt_ix x N with
      | some j => mt_go t (lv, st, mup M a (.inr (0, N, .inl (upd f j y)))) K
      | none => False)
    | none => False) := by
  simp only [mt_go, o_iast]
  rcases gi 0 M a with _ | ⟨N, f⟩
  · rfl
  · simp only []
    cases mt_ix x N <;> rfl
theorem g_zast (h : mt_z y = true) : mt_go (o_zast :: t) (lv, .inl y :: .inl x :: .inr (some a) :: st, M) K = (match gi 1 M a with
    | some (N, f) => (match mt_ix x N with
      | some j => mt_go t (lv, st, mup M a (.inr (1, N, .inl (upd f j y)))) K
      | none => False)
    | none => False) := by
  simp only [mt_go, o_zast, h, if_true]
  rcases gi 1 M a with _ | ⟨N, f⟩
  · rfl
  · simp only []
    cases mt_ix x N <;> rfl
theorem g_aast : mt_go (o_aast p ci :: t) (lv, .inr (some i) :: .inl x :: .inr (some a) :: st, M) K = (match ga p M a with
    | some (N, f) => (match mt_ix x N with
      | some j => if mt_is M ci i = true then mt_go t (lv, st, mup M a (.inr (p, N, .inr (va_up f j (some i))))) K else False
      | none => False)
    | none => False) := by
  simp only [mt_go, o_aast]
  rcases ga p M a with _ | ⟨N, f⟩
  · rfl
  · simp only []
    cases mt_ix x N with
    | none => rfl
    | some j =>
      simp only []
      by_cases h : mt_is M ci i = true
      · rw [if_pos h, if_pos h]
      · rw [if_neg h, if_neg h]
theorem g_new : mt_go (o_new ci fs :: t) (lv, st, M) K = mt_go t (lv, .inr (some M.1) :: st, mnew M fs.length (.inl (ci, fs))) K := propext Iff.rfl
theorem g_newI (h : k < 65536) : mt_go (o_newI p :: t) (lv, .inl (nI k) :: st, M) K = mt_go t (lv, .inr (some M.1) :: st, mnew M k (.inr (p, k, .inl (fun _ => 0)))) K := by
  have h2 : ¬ (nI k < 0 ∨ 65536 < (nI k).toNatClampNeg) := by
    rw [nI_clamp (by omega)]
    exact not_or.mpr ⟨nI_pos (by omega), by omega⟩
  simp only [mt_go, o_newI, h2, if_false]
  rw [nI_clamp (by omega)]
theorem g_newA (h : k < 65536) : mt_go (o_newA p :: t) (lv, .inl (nI k) :: st, M) K = mt_go t (lv, .inr (some M.1) :: st, mnew M k (.inr (p, k, .inr (fun _ => none)))) K := by
  have h2 : ¬ (nI k < 0 ∨ 65536 < (nI k).toNatClampNeg) := by
    rw [nI_clamp (by omega)]
    exact not_or.mpr ⟨nI_pos (by omega), by omega⟩
  simp only [mt_go, o_newA, h2, if_false]
  rw [nI_clamp (by omega)]
theorem g_objinit : mt_go (o_objinit :: t) (lv, .inr (some a) :: st, M) K = if st.length ≤ 8 then mt_go t (lv, st, M) K else False := by
  simp only [mt_go, o_objinit]
  by_cases h : st.length ≤ 8
  · rw [if_pos h, if_pos h]
  · rw [if_neg h, if_neg h]
theorem g_slen {sb L : Nat} : mt_go (o_slen sb L :: t) (lv, .inr (some sb) :: st, M) K = mt_go t (lv, .inl (nI L) :: st, M) K := by
  simp only [mt_go, o_slen, if_true]
theorem g_sld {sb L j : Nat} {xs : Nat → Int32} (h : j < L) (hL : L < 2 ^ 31) : mt_go (o_sld sb L xs :: t) (lv, .inl (nI j) :: .inr (some sb) :: st, M) K = mt_go t (lv, .inl (xs j) :: st, M) K := by
  have h2 : mt_ix (nI j) L = some j := by
    unfold mt_ix
    rw [if_neg (nI_in h hL), nI_clamp (by omega)]
  simp only [mt_go, o_sld, if_true, h2]
end GO
section FI
variable {code : List m_B} {Q : m_R → Prop} {lv : List (Option m_V)} {st : List m_V} {M : m_M} {x y : Int32} {r s : Option Nat} {t n a : Nat}
theorem l_fall {q : m_C} : mt_fin code Q (o_fall n q) = mt_T code n q Q := propext Iff.rfl
theorem l_ifeq : mt_fin code Q (o_ifeq t n (lv, .inl x :: st, M)) = if x = 0 then mt_T code t (lv, st, M) Q else mt_T code n (lv, st, M) Q := by
  simp only [o_ifeq]
  by_cases h : x = 0
  · rw [if_pos h, if_pos h]
    rfl
  · rw [if_neg h, if_neg h]
    rfl
theorem l_iceq : mt_fin code Q (o_iceq t n (lv, .inl y :: .inl x :: st, M)) = if x = y then mt_T code t (lv, st, M) Q else mt_T code n (lv, st, M) Q := by
  simp only [o_iceq]
  by_cases h : x = y
  · rw [if_pos h, if_pos h]
    rfl
  · rw [if_neg h, if_neg h]
    rfl
theorem l_ifne : mt_fin code Q (o_ifne t n (lv, .inl x :: st, M)) = if x = 0 then mt_T code n (lv, st, M) Q else mt_T code t (lv, st, M) Q := by
  simp only [o_ifne]
  by_cases h : x = 0
  · rw [if_pos h, if_pos h]
    rfl
  · rw [if_neg h, if_neg h]
    rfl
theorem l_icne : mt_fin code Q (o_icne t n (lv, .inl y :: .inl x :: st, M)) = if x = y then mt_T code n (lv, st, M) Q else mt_T code t (lv, st, M) Q := by
  simp only [o_icne]
  by_cases h : x = y
  · rw [if_pos h, if_pos h]
    rfl
  · rw [if_neg h, if_neg h]
    rfl
theorem l_iflt : mt_fin code Q (o_iflt t n (lv, .inl x :: st, M)) = if x < 0 then mt_T code t (lv, st, M) Q else mt_T code n (lv, st, M) Q := by
  simp only [o_iflt]
  by_cases h : x < 0
  · rw [if_pos h, if_pos h]
    rfl
  · rw [if_neg h, if_neg h]
    rfl
theorem l_iclt : mt_fin code Q (o_iclt t n (lv, .inl y :: .inl x :: st, M)) = if x < y then mt_T code t (lv, st, M) Q else mt_T code n (lv, st, M) Q := by
  simp only [o_iclt]
  by_cases h : x < y
  · rw [if_pos h, if_pos h]
    rfl
  · rw [if_neg h, if_neg h]
    rfl
theorem l_ifge : mt_fin code Q (o_ifge t n (lv, .inl x :: st, M)) = if 0 ≤ x then mt_T code t (lv, st, M) Q else mt_T code n (lv, st, M) Q := by
  simp only [o_ifge]
  by_cases h : 0 ≤ x
  · rw [if_pos h, if_pos h]
    rfl
  · rw [if_neg h, if_neg h]
    rfl
theorem l_icge : mt_fin code Q (o_icge t n (lv, .inl y :: .inl x :: st, M)) = if y ≤ x then mt_T code t (lv, st, M) Q else mt_T code n (lv, st, M) Q := by
  simp only [o_icge]
  by_cases h : y ≤ x
  · rw [if_pos h, if_pos h]
    rfl
  · rw [if_neg h, if_neg h]
    rfl
theorem l_ifgt : mt_fin code Q (o_ifgt t n (lv, .inl x :: st, M)) = if 0 < x then mt_T code t (lv, st, M) Q else mt_T code n (lv, st, M) Q := by
  simp only [o_ifgt]
  by_cases h : 0 < x
  · rw [if_pos h, if_pos h]
    rfl
  · rw [if_neg h, if_neg h]
    rfl
theorem l_icgt : mt_fin code Q (o_icgt t n (lv, .inl y :: .inl x :: st, M)) = if y < x then mt_T code t (lv, st, M) Q else mt_T code n (lv, st, M) Q := by
  simp only [o_icgt]
  by_cases h : y < x
  · rw [if_pos h, if_pos h]
    rfl
  · rw [if_neg h, if_neg h]
    rfl
theorem l_ifle : mt_fin code Q (o_ifle t n (lv, .inl x :: st, M)) = if x ≤ 0 then mt_T code t (lv, st, M) Q else mt_T code n (lv, st, M) Q := by
  simp only [o_ifle]
  by_cases h : x ≤ 0
  · rw [if_pos h, if_pos h]
    rfl
  · rw [if_neg h, if_neg h]
    rfl
theorem l_icle : mt_fin code Q (o_icle t n (lv, .inl y :: .inl x :: st, M)) = if x ≤ y then mt_T code t (lv, st, M) Q else mt_T code n (lv, st, M) Q := by
  simp only [o_icle]
  by_cases h : x ≤ y
  · rw [if_pos h, if_pos h]
    rfl
  · rw [if_neg h, if_neg h]
    rfl
theorem l_acne : mt_fin code Q (o_acne t n (lv, .inr r :: .inr s :: st, M)) = if s = r then mt_T code n (lv, st, M) Q else mt_T code t (lv, st, M) Q := by
  simp only [o_acne]
  by_cases h : s = r
  · rw [if_pos h, if_pos h]
    rfl
  · rw [if_neg h, if_neg h]
    rfl
theorem l_nullN : mt_fin code Q (o_ifnull t n (lv, .inr none :: st, M)) = mt_T code t (lv, st, M) Q := propext Iff.rfl
theorem l_nullS : mt_fin code Q (o_ifnull t n (lv, .inr (some a) :: st, M)) = mt_T code n (lv, st, M) Q := propext Iff.rfl
theorem l_nonnullN : mt_fin code Q (o_ifnonnull t n (lv, .inr none :: st, M)) = mt_T code n (lv, st, M) Q := propext Iff.rfl
theorem l_nonnullS : mt_fin code Q (o_ifnonnull t n (lv, .inr (some a) :: st, M)) = mt_T code t (lv, st, M) Q := propext Iff.rfl
theorem l_ret : mt_fin code Q (o_ret (lv, [], M)) = Q (none, M) := propext Iff.rfl
theorem l_iret : mt_fin code Q (o_iret (lv, [.inl x], M)) = Q (some (.inl x), M) := propext Iff.rfl
theorem l_aret : mt_fin code Q (o_aret (lv, [.inr r], M)) = Q (some (.inr r), M) := propext Iff.rfl
theorem l_zret (h : mt_z x = true) : mt_fin code Q (o_zret (lv, [.inl x], M)) = Q (some (.inl x), M) := by
  simp only [o_zret, h, if_true]
  rfl
theorem l_after {v : m_R} : mt_fin code Q (mt_after n lv st (some v)) = mt_T code n (lv, v.1.toList ++ st, v.2) Q := propext Iff.rfl
theorem l_callV {sem : List m_V → m_M → Option m_R} {ci na : Nat} {st0 : List m_V} : mt_fin code Q (o_callV sem ci na n (lv, st0, M)) = (match mt_pop na [] st0 with
    | some (.inr (some a) :: av, st) => if st.length ≤ 8 ∧ mt_is M ci a = true then mt_fin code Q (mt_after n lv st (sem (.inr (some a) :: av) M)) else False
    | _ => False) := by
  simp only [o_callV]
  rcases mt_pop na [] st0 with _ | ⟨_ | ⟨x | _ | a, av⟩, st⟩
  · rfl
  · rfl
  · rfl
  · rfl
  · simp only []
    by_cases h : st.length ≤ 8 ∧ mt_is M ci a = true
    · rw [if_pos h, if_pos h]
    · rw [if_neg h, if_neg h]
      rfl
theorem l_callI {sem : List m_V → m_M → Option m_R} {na : Nat} {st0 : List m_V} : mt_fin code Q (o_callI sem na n (lv, st0, M)) = (match mt_pop na [] st0 with
    | some (.inr (some a) :: av, st) => if st.length ≤ 8 then mt_fin code Q (mt_after n lv st (sem (.inr (some a) :: av) M)) else False
    | _ => False) := by
  simp only [o_callI]
  rcases mt_pop na [] st0 with _ | ⟨_ | ⟨x | _ | a, av⟩, st⟩
  · rfl
  · rfl
  · rfl
  · rfl
  · simp only []
    by_cases h : st.length ≤ 8
    · rw [if_pos h, if_pos h]
    · rw [if_neg h, if_neg h]
      rfl
theorem l_callS {sem : List m_V → m_M → Option m_R} {na : Nat} {st0 : List m_V} : mt_fin code Q (o_callS sem na n (lv, st0, M)) = (match mt_pop na [] st0 with
    | some (av, st) => if st.length ≤ 8 then mt_fin code Q (mt_after n lv st (sem av M)) else False
    | none => False) := by
  simp only [o_callS]
  rcases mt_pop na [] st0 with _ | ⟨av, st⟩
  · rfl
  · simp only []
    by_cases h : st.length ≤ 8
    · rw [if_pos h, if_pos h]
    · rw [if_neg h, if_neg h]
      rfl
end FI
