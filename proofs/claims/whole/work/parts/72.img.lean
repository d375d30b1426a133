/-! The class in memory: 188 cells from address b on; the numbers in them are V : offset → slot → Int32. -/
def kd (o : Nat) : Nat := if o < 6 then o else if o < 62 then (if o = 6 ∨ o = 34 then 6 else if o = 7 ∨ o = 35 then 7 else if o % 2 = 0 then 8 else 9) else if o = 62 then 10 else if o = 63 then 11 else if o = 64 then 12 else if o < 101 then (if o % 3 = 2 then 13 else if o % 3 = 0 then 14 else 9) else if o = 101 then 14 else if o = 102 then 9 else if o = 103 then 15 else if o < 176 then (if o % 3 = 2 then 16 else if o % 3 = 0 then 14 else 9) else 17
abbrev v_N : Type := Nat → Nat → Int32
def ly (b : Nat) (V : v_N) (o : Nat) : m_E :=
  if kd o = 0 then .inl (8, [.inr (some (b + 1)), .inr (some (b + 2)), .inr (some (b + 6)), .inr (some (b + 34)), .inr (some (b + 62)), .inr (some (b + 63)), .inr (some (b + 101)), .inr (some (b + 103)), .inl (V o 8), .inl (V o 9), .inl (V o 10), .inl (V o 11)]) else
  if kd o = 2 then .inl (6, [.inr (some (b + 3)), .inr (some (b + 4)), .inr (some (b + 5)), .inl (V o 3)]) else
  if kd o = 6 then .inl (3, [.inr (some (b + (o + 1))), .inl (V o 1), .inl (V o 2)]) else
  if kd o = 8 then .inl (4, [.inl (V o 0), .inl (V o 1), .inl (V o 2), .inl (V o 3), .inl (V o 4), .inl (V o 5), .inl (V o 6), .inr (some (b + (o + 1)))]) else
  if kd o = 11 then .inl (1, [.inr (some (b + 64)), .inl (V o 1), .inl (V o 2)]) else
  if kd o = 13 then .inl (2, [.inr (some (b + (o + 1))), .inl (V o 1), .inl (V o 2)]) else
  if kd o = 14 then .inl (5, [.inr (some (b + (o + 1))), .inl (V o 1)]) else
  if kd o = 16 then .inl (7, [.inr (some (b + (o + 1))), .inl (V o 1), .inl (V o 2)]) else
  if kd o = 17 then .inl (0, [.inl (V o 0), .inl (V o 1), .inl (V o 2), .inl (V o 3)]) else
  if kd o = 3 then .inr (1, 6, .inl (V o)) else
  if kd o = 4 then .inr (0, 6, .inl (V o)) else
  if kd o = 5 then .inr (0, 6, .inl (V o)) else
  if kd o = 9 then .inr (0, 40, .inl (V o)) else
  if kd o = 15 then .inr (0, 8, .inl (V o)) else
  if kd o = 1 then .inr (3, 24, .inr (fun j => if j < 24 then some (b + (104 + 3 * j)) else none)) else
  if kd o = 7 then .inr (2, 13, .inr (fun j => if j < 13 then some (b + (o + 1 + 2 * j)) else none)) else
  if kd o = 10 then .inr (4, 12, .inr (fun j => if j < 12 then some (b + (176 + j)) else none)) else
  if kd o = 12 then .inr (5, 12, .inr (fun j => if j < 12 then some (b + (65 + 3 * j)) else none)) else
  .inl (99, [])
def img (b : Nat) (V : v_N) (f : Nat → Option m_E) : Nat → Option m_E := fun a => if b ≤ a ∧ a < b + 188 then some (ly b V (a - b)) else f a
def vu (V : v_N) (o k : Nat) (x : Int32) : v_N := fun o1 k1 => if o1 = o ∧ k1 = k then x else V o1 k1
theorem vu_same {V : v_N} {o k : Nat} {x : Int32} : vu V o k x o k = x := by simp [vu]
theorem vu_off {V : v_N} {o k o1 : Nat} {x : Int32} (h : o1 ≠ o) : vu V o k x o1 = V o1 := by
  funext k1
  simp [vu, h]
theorem vu_row {V : v_N} {o k : Nat} {x : Int32} : vu V o k x o = upd (V o) k x := by
  funext k1
  simp [vu, upd]
theorem vu_slot {V : v_N} {o k k1 : Nat} {x : Int32} (h : k1 ≠ k) : vu V o k x o k1 = V o k1 := by simp [vu, h]
theorem ly_congr {b : Nat} {V V1 : v_N} {o : Nat} (h : V1 o = V o) : ly b V1 o = ly b V o := by
  unfold ly
  rw [h]
theorem img_at {b : Nat} {V : v_N} {f : Nat → Option m_E} {o : Nat} (h : o < 188) : img b V f (b + o) = some (ly b V o) := by
  unfold img
  rw [if_pos (by omega), Nat.add_sub_cancel_left]
theorem img_up {b : Nat} {V V1 : v_N} {f : Nat → Option m_E} {o : Nat} {e : m_E} (h : o < 188) (he : e = ly b V1 o) (hV : ∀ o1, o1 ≠ o → V1 o1 = V o1) : va_up (img b V f) (b + o) (some e) = img b V1 f := by
  funext a
  unfold va_up
  by_cases ha : a = b + o
  · rw [if_pos ha, ha, img_at h, he]
  · rw [if_neg ha]
    unfold img
    by_cases hr : b ≤ a ∧ a < b + 188
    · rw [if_pos hr, if_pos hr, ly_congr (hV (a - b) (by omega))]
    · rw [if_neg hr, if_neg hr]
theorem mup_img {n w b : Nat} {V V1 : v_N} {f : Nat → Option m_E} {o : Nat} {e : m_E} (h : o < 188) (he : e = ly b V1 o) (hV : ∀ o1, o1 ≠ o → V1 o1 = V o1) : mup (n, w, img b V f) (b + o) e = (n, w, img b V1 f) := by
  unfold mup
  rw [img_up h he hV]
section LY
variable {n w b : Nat} {V : v_N} {f : Nat → Option m_E} {o : Nat}
theorem ly_TC (h : kd o = 0) : ly b V o = .inl (8, [.inr (some (b + 1)), .inr (some (b + 2)), .inr (some (b + 6)), .inr (some (b + 34)), .inr (some (b + 62)), .inr (some (b + 63)), .inr (some (b + 101)), .inr (some (b + 103)), .inl (V o 8), .inl (V o 9), .inl (V o 10), .inl (V o 11)]) := by simp [ly, h]
theorem im_TC (ho : o < 188) (h : kd o = 0) : img b V f (b + o) = some (.inl (8, [.inr (some (b + 1)), .inr (some (b + 2)), .inr (some (b + 6)), .inr (some (b + 34)), .inr (some (b + 62)), .inr (some (b + 63)), .inr (some (b + 101)), .inr (some (b + 103)), .inl (V o 8), .inl (V o 9), .inl (V o 10), .inl (V o 11)])) := by rw [img_at ho, ly_TC h]
theorem up_TC_8 {x : Int32} (ho : o < 188) (h : kd o = 0) : mup (n, w, img b V f) (b + o) (.inl (8, [.inr (some (b + 1)), .inr (some (b + 2)), .inr (some (b + 6)), .inr (some (b + 34)), .inr (some (b + 62)), .inr (some (b + 63)), .inr (some (b + 101)), .inr (some (b + 103)), .inl x, .inl (V o 9), .inl (V o 10), .inl (V o 11)])) = (n, w, img b (vu V o 8 x) f) := mup_img ho (by rw [ly_TC h]; simp [vu]) (fun o1 h1 => vu_off h1)
theorem pf_TC_8 {x : Int32} (ho : o < 188) (h : kd o = 0) : pf (n, w, img b V f) 8 (b + o) 8 (.inl x) = some (n, w, img b (vu V o 8 x) f) := by
  rw [← up_TC_8 ho h]
  simp [pf, im_TC ho h, fset]
theorem up_TC_9 {x : Int32} (ho : o < 188) (h : kd o = 0) : mup (n, w, img b V f) (b + o) (.inl (8, [.inr (some (b + 1)), .inr (some (b + 2)), .inr (some (b + 6)), .inr (some (b + 34)), .inr (some (b + 62)), .inr (some (b + 63)), .inr (some (b + 101)), .inr (some (b + 103)), .inl (V o 8), .inl x, .inl (V o 10), .inl (V o 11)])) = (n, w, img b (vu V o 9 x) f) := mup_img ho (by rw [ly_TC h]; simp [vu]) (fun o1 h1 => vu_off h1)
theorem pf_TC_9 {x : Int32} (ho : o < 188) (h : kd o = 0) : pf (n, w, img b V f) 8 (b + o) 9 (.inl x) = some (n, w, img b (vu V o 9 x) f) := by
  rw [← up_TC_9 ho h]
  simp [pf, im_TC ho h, fset]
theorem up_TC_10 {x : Int32} (ho : o < 188) (h : kd o = 0) : mup (n, w, img b V f) (b + o) (.inl (8, [.inr (some (b + 1)), .inr (some (b + 2)), .inr (some (b + 6)), .inr (some (b + 34)), .inr (some (b + 62)), .inr (some (b + 63)), .inr (some (b + 101)), .inr (some (b + 103)), .inl (V o 8), .inl (V o 9), .inl x, .inl (V o 11)])) = (n, w, img b (vu V o 10 x) f) := mup_img ho (by rw [ly_TC h]; simp [vu]) (fun o1 h1 => vu_off h1)
theorem pf_TC_10 {x : Int32} (ho : o < 188) (h : kd o = 0) : pf (n, w, img b V f) 8 (b + o) 10 (.inl x) = some (n, w, img b (vu V o 10 x) f) := by
  rw [← up_TC_10 ho h]
  simp [pf, im_TC ho h, fset]
theorem up_TC_11 {x : Int32} (ho : o < 188) (h : kd o = 0) : mup (n, w, img b V f) (b + o) (.inl (8, [.inr (some (b + 1)), .inr (some (b + 2)), .inr (some (b + 6)), .inr (some (b + 34)), .inr (some (b + 62)), .inr (some (b + 63)), .inr (some (b + 101)), .inr (some (b + 103)), .inl (V o 8), .inl (V o 9), .inl (V o 10), .inl x])) = (n, w, img b (vu V o 11 x) f) := mup_img ho (by rw [ly_TC h]; simp [vu]) (fun o1 h1 => vu_off h1)
theorem pf_TC_11 {x : Int32} (ho : o < 188) (h : kd o = 0) : pf (n, w, img b V f) 8 (b + o) 11 (.inl x) = some (n, w, img b (vu V o 11 x) f) := by
  rw [← up_TC_11 ho h]
  simp [pf, im_TC ho h, fset]
theorem ly_Ru (h : kd o = 2) : ly b V o = .inl (6, [.inr (some (b + 3)), .inr (some (b + 4)), .inr (some (b + 5)), .inl (V o 3)]) := by simp [ly, h]
theorem im_Ru (ho : o < 188) (h : kd o = 2) : img b V f (b + o) = some (.inl (6, [.inr (some (b + 3)), .inr (some (b + 4)), .inr (some (b + 5)), .inl (V o 3)])) := by rw [img_at ho, ly_Ru h]
theorem up_Ru_3 {x : Int32} (ho : o < 188) (h : kd o = 2) : mup (n, w, img b V f) (b + o) (.inl (6, [.inr (some (b + 3)), .inr (some (b + 4)), .inr (some (b + 5)), .inl x])) = (n, w, img b (vu V o 3 x) f) := mup_img ho (by rw [ly_Ru h]; simp [vu]) (fun o1 h1 => vu_off h1)
theorem pf_Ru_3 {x : Int32} (ho : o < 188) (h : kd o = 2) : pf (n, w, img b V f) 6 (b + o) 3 (.inl x) = some (n, w, img b (vu V o 3 x) f) := by
  rw [← up_Ru_3 ho h]
  simp [pf, im_Ru ho h, fset]
theorem ly_Li (h : kd o = 6) : ly b V o = .inl (3, [.inr (some (b + (o + 1))), .inl (V o 1), .inl (V o 2)]) := by simp [ly, h]
theorem im_Li (ho : o < 188) (h : kd o = 6) : img b V f (b + o) = some (.inl (3, [.inr (some (b + (o + 1))), .inl (V o 1), .inl (V o 2)])) := by rw [img_at ho, ly_Li h]
theorem up_Li_1 {x : Int32} (ho : o < 188) (h : kd o = 6) : mup (n, w, img b V f) (b + o) (.inl (3, [.inr (some (b + (o + 1))), .inl x, .inl (V o 2)])) = (n, w, img b (vu V o 1 x) f) := mup_img ho (by rw [ly_Li h]; simp [vu]) (fun o1 h1 => vu_off h1)
theorem pf_Li_1 {x : Int32} (ho : o < 188) (h : kd o = 6) : pf (n, w, img b V f) 3 (b + o) 1 (.inl x) = some (n, w, img b (vu V o 1 x) f) := by
  rw [← up_Li_1 ho h]
  simp [pf, im_Li ho h, fset]
theorem up_Li_2 {x : Int32} (ho : o < 188) (h : kd o = 6) : mup (n, w, img b V f) (b + o) (.inl (3, [.inr (some (b + (o + 1))), .inl (V o 1), .inl x])) = (n, w, img b (vu V o 2 x) f) := mup_img ho (by rw [ly_Li h]; simp [vu]) (fun o1 h1 => vu_off h1)
theorem pf_Li_2 {x : Int32} (ho : o < 188) (h : kd o = 6) : pf (n, w, img b V f) 3 (b + o) 2 (.inl x) = some (n, w, img b (vu V o 2 x) f) := by
  rw [← up_Li_2 ho h]
  simp [pf, im_Li ho h, fset]
theorem ly_Ms (h : kd o = 8) : ly b V o = .inl (4, [.inl (V o 0), .inl (V o 1), .inl (V o 2), .inl (V o 3), .inl (V o 4), .inl (V o 5), .inl (V o 6), .inr (some (b + (o + 1)))]) := by simp [ly, h]
theorem im_Ms (ho : o < 188) (h : kd o = 8) : img b V f (b + o) = some (.inl (4, [.inl (V o 0), .inl (V o 1), .inl (V o 2), .inl (V o 3), .inl (V o 4), .inl (V o 5), .inl (V o 6), .inr (some (b + (o + 1)))])) := by rw [img_at ho, ly_Ms h]
theorem up_Ms_0 {x : Int32} (ho : o < 188) (h : kd o = 8) : mup (n, w, img b V f) (b + o) (.inl (4, [.inl x, .inl (V o 1), .inl (V o 2), .inl (V o 3), .inl (V o 4), .inl (V o 5), .inl (V o 6), .inr (some (b + (o + 1)))])) = (n, w, img b (vu V o 0 x) f) := mup_img ho (by rw [ly_Ms h]; simp [vu]) (fun o1 h1 => vu_off h1)
theorem pf_Ms_0 {x : Int32} (ho : o < 188) (h : kd o = 8) : pf (n, w, img b V f) 4 (b + o) 0 (.inl x) = some (n, w, img b (vu V o 0 x) f) := by
  rw [← up_Ms_0 ho h]
  simp [pf, im_Ms ho h, fset]
theorem up_Ms_1 {x : Int32} (ho : o < 188) (h : kd o = 8) : mup (n, w, img b V f) (b + o) (.inl (4, [.inl (V o 0), .inl x, .inl (V o 2), .inl (V o 3), .inl (V o 4), .inl (V o 5), .inl (V o 6), .inr (some (b + (o + 1)))])) = (n, w, img b (vu V o 1 x) f) := mup_img ho (by rw [ly_Ms h]; simp [vu]) (fun o1 h1 => vu_off h1)
theorem pf_Ms_1 {x : Int32} (ho : o < 188) (h : kd o = 8) : pf (n, w, img b V f) 4 (b + o) 1 (.inl x) = some (n, w, img b (vu V o 1 x) f) := by
  rw [← up_Ms_1 ho h]
  simp [pf, im_Ms ho h, fset]
theorem up_Ms_2 {x : Int32} (ho : o < 188) (h : kd o = 8) : mup (n, w, img b V f) (b + o) (.inl (4, [.inl (V o 0), .inl (V o 1), .inl x, .inl (V o 3), .inl (V o 4), .inl (V o 5), .inl (V o 6), .inr (some (b + (o + 1)))])) = (n, w, img b (vu V o 2 x) f) := mup_img ho (by rw [ly_Ms h]; simp [vu]) (fun o1 h1 => vu_off h1)
theorem pf_Ms_2 {x : Int32} (ho : o < 188) (h : kd o = 8) : pf (n, w, img b V f) 4 (b + o) 2 (.inl x) = some (n, w, img b (vu V o 2 x) f) := by
  rw [← up_Ms_2 ho h]
  simp [pf, im_Ms ho h, fset]
theorem up_Ms_3 {x : Int32} (ho : o < 188) (h : kd o = 8) : mup (n, w, img b V f) (b + o) (.inl (4, [.inl (V o 0), .inl (V o 1), .inl (V o 2), .inl x, .inl (V o 4), .inl (V o 5), .inl (V o 6), .inr (some (b + (o + 1)))])) = (n, w, img b (vu V o 3 x) f) := mup_img ho (by rw [ly_Ms h]; simp [vu]) (fun o1 h1 => vu_off h1)
theorem pf_Ms_3 {x : Int32} (ho : o < 188) (h : kd o = 8) : pf (n, w, img b V f) 4 (b + o) 3 (.inl x) = some (n, w, img b (vu V o 3 x) f) := by
  rw [← up_Ms_3 ho h]
  simp [pf, im_Ms ho h, fset]
theorem up_Ms_4 {x : Int32} (ho : o < 188) (h : kd o = 8) : mup (n, w, img b V f) (b + o) (.inl (4, [.inl (V o 0), .inl (V o 1), .inl (V o 2), .inl (V o 3), .inl x, .inl (V o 5), .inl (V o 6), .inr (some (b + (o + 1)))])) = (n, w, img b (vu V o 4 x) f) := mup_img ho (by rw [ly_Ms h]; simp [vu]) (fun o1 h1 => vu_off h1)
theorem pf_Ms_4 {x : Int32} (ho : o < 188) (h : kd o = 8) : pf (n, w, img b V f) 4 (b + o) 4 (.inl x) = some (n, w, img b (vu V o 4 x) f) := by
  rw [← up_Ms_4 ho h]
  simp [pf, im_Ms ho h, fset]
theorem up_Ms_5 {x : Int32} (ho : o < 188) (h : kd o = 8) : mup (n, w, img b V f) (b + o) (.inl (4, [.inl (V o 0), .inl (V o 1), .inl (V o 2), .inl (V o 3), .inl (V o 4), .inl x, .inl (V o 6), .inr (some (b + (o + 1)))])) = (n, w, img b (vu V o 5 x) f) := mup_img ho (by rw [ly_Ms h]; simp [vu]) (fun o1 h1 => vu_off h1)
theorem pf_Ms_5 {x : Int32} (ho : o < 188) (h : kd o = 8) : pf (n, w, img b V f) 4 (b + o) 5 (.inl x) = some (n, w, img b (vu V o 5 x) f) := by
  rw [← up_Ms_5 ho h]
  simp [pf, im_Ms ho h, fset]
theorem up_Ms_6 {x : Int32} (ho : o < 188) (h : kd o = 8) : mup (n, w, img b V f) (b + o) (.inl (4, [.inl (V o 0), .inl (V o 1), .inl (V o 2), .inl (V o 3), .inl (V o 4), .inl (V o 5), .inl x, .inr (some (b + (o + 1)))])) = (n, w, img b (vu V o 6 x) f) := mup_img ho (by rw [ly_Ms h]; simp [vu]) (fun o1 h1 => vu_off h1)
theorem pf_Ms_6 {x : Int32} (ho : o < 188) (h : kd o = 8) : pf (n, w, img b V f) 4 (b + o) 6 (.inl x) = some (n, w, img b (vu V o 6 x) f) := by
  rw [← up_Ms_6 ho h]
  simp [pf, im_Ms ho h, fset]
theorem ly_Jo (h : kd o = 11) : ly b V o = .inl (1, [.inr (some (b + 64)), .inl (V o 1), .inl (V o 2)]) := by simp [ly, h]
theorem im_Jo (ho : o < 188) (h : kd o = 11) : img b V f (b + o) = some (.inl (1, [.inr (some (b + 64)), .inl (V o 1), .inl (V o 2)])) := by rw [img_at ho, ly_Jo h]
theorem up_Jo_1 {x : Int32} (ho : o < 188) (h : kd o = 11) : mup (n, w, img b V f) (b + o) (.inl (1, [.inr (some (b + 64)), .inl x, .inl (V o 2)])) = (n, w, img b (vu V o 1 x) f) := mup_img ho (by rw [ly_Jo h]; simp [vu]) (fun o1 h1 => vu_off h1)
theorem pf_Jo_1 {x : Int32} (ho : o < 188) (h : kd o = 11) : pf (n, w, img b V f) 1 (b + o) 1 (.inl x) = some (n, w, img b (vu V o 1 x) f) := by
  rw [← up_Jo_1 ho h]
  simp [pf, im_Jo ho h, fset]
theorem up_Jo_2 {x : Int32} (ho : o < 188) (h : kd o = 11) : mup (n, w, img b V f) (b + o) (.inl (1, [.inr (some (b + 64)), .inl (V o 1), .inl x])) = (n, w, img b (vu V o 2 x) f) := mup_img ho (by rw [ly_Jo h]; simp [vu]) (fun o1 h1 => vu_off h1)
theorem pf_Jo_2 {x : Int32} (ho : o < 188) (h : kd o = 11) : pf (n, w, img b V f) 1 (b + o) 2 (.inl x) = some (n, w, img b (vu V o 2 x) f) := by
  rw [← up_Jo_2 ho h]
  simp [pf, im_Jo ho h, fset]
theorem ly_Jr (h : kd o = 13) : ly b V o = .inl (2, [.inr (some (b + (o + 1))), .inl (V o 1), .inl (V o 2)]) := by simp [ly, h]
theorem im_Jr (ho : o < 188) (h : kd o = 13) : img b V f (b + o) = some (.inl (2, [.inr (some (b + (o + 1))), .inl (V o 1), .inl (V o 2)])) := by rw [img_at ho, ly_Jr h]
theorem up_Jr_1 {x : Int32} (ho : o < 188) (h : kd o = 13) : mup (n, w, img b V f) (b + o) (.inl (2, [.inr (some (b + (o + 1))), .inl x, .inl (V o 2)])) = (n, w, img b (vu V o 1 x) f) := mup_img ho (by rw [ly_Jr h]; simp [vu]) (fun o1 h1 => vu_off h1)
theorem pf_Jr_1 {x : Int32} (ho : o < 188) (h : kd o = 13) : pf (n, w, img b V f) 2 (b + o) 1 (.inl x) = some (n, w, img b (vu V o 1 x) f) := by
  rw [← up_Jr_1 ho h]
  simp [pf, im_Jr ho h, fset]
theorem up_Jr_2 {x : Int32} (ho : o < 188) (h : kd o = 13) : mup (n, w, img b V f) (b + o) (.inl (2, [.inr (some (b + (o + 1))), .inl (V o 1), .inl x])) = (n, w, img b (vu V o 2 x) f) := mup_img ho (by rw [ly_Jr h]; simp [vu]) (fun o1 h1 => vu_off h1)
theorem pf_Jr_2 {x : Int32} (ho : o < 188) (h : kd o = 13) : pf (n, w, img b V f) 2 (b + o) 2 (.inl x) = some (n, w, img b (vu V o 2 x) f) := by
  rw [← up_Jr_2 ho h]
  simp [pf, im_Jr ho h, fset]
theorem ly_Ro (h : kd o = 14) : ly b V o = .inl (5, [.inr (some (b + (o + 1))), .inl (V o 1)]) := by simp [ly, h]
theorem im_Ro (ho : o < 188) (h : kd o = 14) : img b V f (b + o) = some (.inl (5, [.inr (some (b + (o + 1))), .inl (V o 1)])) := by rw [img_at ho, ly_Ro h]
theorem up_Ro_1 {x : Int32} (ho : o < 188) (h : kd o = 14) : mup (n, w, img b V f) (b + o) (.inl (5, [.inr (some (b + (o + 1))), .inl x])) = (n, w, img b (vu V o 1 x) f) := mup_img ho (by rw [ly_Ro h]; simp [vu]) (fun o1 h1 => vu_off h1)
theorem pf_Ro_1 {x : Int32} (ho : o < 188) (h : kd o = 14) : pf (n, w, img b V f) 5 (b + o) 1 (.inl x) = some (n, w, img b (vu V o 1 x) f) := by
  rw [← up_Ro_1 ho h]
  simp [pf, im_Ro ho h, fset]
theorem ly_Sf (h : kd o = 16) : ly b V o = .inl (7, [.inr (some (b + (o + 1))), .inl (V o 1), .inl (V o 2)]) := by simp [ly, h]
theorem im_Sf (ho : o < 188) (h : kd o = 16) : img b V f (b + o) = some (.inl (7, [.inr (some (b + (o + 1))), .inl (V o 1), .inl (V o 2)])) := by rw [img_at ho, ly_Sf h]
theorem up_Sf_1 {x : Int32} (ho : o < 188) (h : kd o = 16) : mup (n, w, img b V f) (b + o) (.inl (7, [.inr (some (b + (o + 1))), .inl x, .inl (V o 2)])) = (n, w, img b (vu V o 1 x) f) := mup_img ho (by rw [ly_Sf h]; simp [vu]) (fun o1 h1 => vu_off h1)
theorem pf_Sf_1 {x : Int32} (ho : o < 188) (h : kd o = 16) : pf (n, w, img b V f) 7 (b + o) 1 (.inl x) = some (n, w, img b (vu V o 1 x) f) := by
  rw [← up_Sf_1 ho h]
  simp [pf, im_Sf ho h, fset]
theorem up_Sf_2 {x : Int32} (ho : o < 188) (h : kd o = 16) : mup (n, w, img b V f) (b + o) (.inl (7, [.inr (some (b + (o + 1))), .inl (V o 1), .inl x])) = (n, w, img b (vu V o 2 x) f) := mup_img ho (by rw [ly_Sf h]; simp [vu]) (fun o1 h1 => vu_off h1)
theorem pf_Sf_2 {x : Int32} (ho : o < 188) (h : kd o = 16) : pf (n, w, img b V f) 7 (b + o) 2 (.inl x) = some (n, w, img b (vu V o 2 x) f) := by
  rw [← up_Sf_2 ho h]
  simp [pf, im_Sf ho h, fset]
theorem ly_En (h : kd o = 17) : ly b V o = .inl (0, [.inl (V o 0), .inl (V o 1), .inl (V o 2), .inl (V o 3)]) := by simp [ly, h]
theorem im_En (ho : o < 188) (h : kd o = 17) : img b V f (b + o) = some (.inl (0, [.inl (V o 0), .inl (V o 1), .inl (V o 2), .inl (V o 3)])) := by rw [img_at ho, ly_En h]
theorem up_En_0 {x : Int32} (ho : o < 188) (h : kd o = 17) : mup (n, w, img b V f) (b + o) (.inl (0, [.inl x, .inl (V o 1), .inl (V o 2), .inl (V o 3)])) = (n, w, img b (vu V o 0 x) f) := mup_img ho (by rw [ly_En h]; simp [vu]) (fun o1 h1 => vu_off h1)
theorem pf_En_0 {x : Int32} (ho : o < 188) (h : kd o = 17) : pf (n, w, img b V f) 0 (b + o) 0 (.inl x) = some (n, w, img b (vu V o 0 x) f) := by
  rw [← up_En_0 ho h]
  simp [pf, im_En ho h, fset]
theorem up_En_1 {x : Int32} (ho : o < 188) (h : kd o = 17) : mup (n, w, img b V f) (b + o) (.inl (0, [.inl (V o 0), .inl x, .inl (V o 2), .inl (V o 3)])) = (n, w, img b (vu V o 1 x) f) := mup_img ho (by rw [ly_En h]; simp [vu]) (fun o1 h1 => vu_off h1)
theorem pf_En_1 {x : Int32} (ho : o < 188) (h : kd o = 17) : pf (n, w, img b V f) 0 (b + o) 1 (.inl x) = some (n, w, img b (vu V o 1 x) f) := by
  rw [← up_En_1 ho h]
  simp [pf, im_En ho h, fset]
theorem up_En_2 {x : Int32} (ho : o < 188) (h : kd o = 17) : mup (n, w, img b V f) (b + o) (.inl (0, [.inl (V o 0), .inl (V o 1), .inl x, .inl (V o 3)])) = (n, w, img b (vu V o 2 x) f) := mup_img ho (by rw [ly_En h]; simp [vu]) (fun o1 h1 => vu_off h1)
theorem pf_En_2 {x : Int32} (ho : o < 188) (h : kd o = 17) : pf (n, w, img b V f) 0 (b + o) 2 (.inl x) = some (n, w, img b (vu V o 2 x) f) := by
  rw [← up_En_2 ho h]
  simp [pf, im_En ho h, fset]
theorem up_En_3 {x : Int32} (ho : o < 188) (h : kd o = 17) : mup (n, w, img b V f) (b + o) (.inl (0, [.inl (V o 0), .inl (V o 1), .inl (V o 2), .inl x])) = (n, w, img b (vu V o 3 x) f) := mup_img ho (by rw [ly_En h]; simp [vu]) (fun o1 h1 => vu_off h1)
theorem pf_En_3 {x : Int32} (ho : o < 188) (h : kd o = 17) : pf (n, w, img b V f) 0 (b + o) 3 (.inl x) = some (n, w, img b (vu V o 3 x) f) := by
  rw [← up_En_3 ho h]
  simp [pf, im_En ho h, fset]
theorem ly_z6 (h : kd o = 3) : ly b V o = .inr (1, 6, .inl (V o)) := by simp [ly, h]
theorem im_z6 (ho : o < 188) (h : kd o = 3) : img b V f (b + o) = some (.inr (1, 6, .inl (V o))) := by rw [img_at ho, ly_z6 h]
theorem up_z6 {j : Nat} {x : Int32} (ho : o < 188) (h : kd o = 3) : mup (n, w, img b V f) (b + o) (.inr (1, 6, .inl (upd (V o) j x))) = (n, w, img b (vu V o j x) f) := mup_img ho (by rw [ly_z6 h, vu_row]) (fun o1 h1 => vu_off h1)
theorem ly_i6 (h : kd o = 4) : ly b V o = .inr (0, 6, .inl (V o)) := by simp [ly, h]
theorem im_i6 (ho : o < 188) (h : kd o = 4) : img b V f (b + o) = some (.inr (0, 6, .inl (V o))) := by rw [img_at ho, ly_i6 h]
theorem up_i6 {j : Nat} {x : Int32} (ho : o < 188) (h : kd o = 4) : mup (n, w, img b V f) (b + o) (.inr (0, 6, .inl (upd (V o) j x))) = (n, w, img b (vu V o j x) f) := mup_img ho (by rw [ly_i6 h, vu_row]) (fun o1 h1 => vu_off h1)
theorem ly_i6b (h : kd o = 5) : ly b V o = .inr (0, 6, .inl (V o)) := by simp [ly, h]
theorem im_i6b (ho : o < 188) (h : kd o = 5) : img b V f (b + o) = some (.inr (0, 6, .inl (V o))) := by rw [img_at ho, ly_i6b h]
theorem up_i6b {j : Nat} {x : Int32} (ho : o < 188) (h : kd o = 5) : mup (n, w, img b V f) (b + o) (.inr (0, 6, .inl (upd (V o) j x))) = (n, w, img b (vu V o j x) f) := mup_img ho (by rw [ly_i6b h, vu_row]) (fun o1 h1 => vu_off h1)
theorem ly_i40 (h : kd o = 9) : ly b V o = .inr (0, 40, .inl (V o)) := by simp [ly, h]
theorem im_i40 (ho : o < 188) (h : kd o = 9) : img b V f (b + o) = some (.inr (0, 40, .inl (V o))) := by rw [img_at ho, ly_i40 h]
theorem up_i40 {j : Nat} {x : Int32} (ho : o < 188) (h : kd o = 9) : mup (n, w, img b V f) (b + o) (.inr (0, 40, .inl (upd (V o) j x))) = (n, w, img b (vu V o j x) f) := mup_img ho (by rw [ly_i40 h, vu_row]) (fun o1 h1 => vu_off h1)
theorem ly_i8 (h : kd o = 15) : ly b V o = .inr (0, 8, .inl (V o)) := by simp [ly, h]
theorem im_i8 (ho : o < 188) (h : kd o = 15) : img b V f (b + o) = some (.inr (0, 8, .inl (V o))) := by rw [img_at ho, ly_i8 h]
theorem up_i8 {j : Nat} {x : Int32} (ho : o < 188) (h : kd o = 15) : mup (n, w, img b V f) (b + o) (.inr (0, 8, .inl (upd (V o) j x))) = (n, w, img b (vu V o j x) f) := mup_img ho (by rw [ly_i8 h, vu_row]) (fun o1 h1 => vu_off h1)
theorem ly_files (h : kd o = 1) : ly b V o = .inr (3, 24, .inr (fun j => if j < 24 then some (b + (104 + 3 * j)) else none)) := by simp [ly, h]
theorem im_files (ho : o < 188) (h : kd o = 1) : img b V f (b + o) = some (.inr (3, 24, .inr (fun j => if j < 24 then some (b + (104 + 3 * j)) else none))) := by rw [img_at ho, ly_files h]
theorem ly_ring (h : kd o = 7) : ly b V o = .inr (2, 13, .inr (fun j => if j < 13 then some (b + (o + 1 + 2 * j)) else none)) := by simp [ly, h]
theorem im_ring (ho : o < 188) (h : kd o = 7) : img b V f (b + o) = some (.inr (2, 13, .inr (fun j => if j < 13 then some (b + (o + 1 + 2 * j)) else none))) := by rw [img_at ho, ly_ring h]
theorem ly_list (h : kd o = 10) : ly b V o = .inr (4, 12, .inr (fun j => if j < 12 then some (b + (176 + j)) else none)) := by simp [ly, h]
theorem im_list (ho : o < 188) (h : kd o = 10) : img b V f (b + o) = some (.inr (4, 12, .inr (fun j => if j < 12 then some (b + (176 + j)) else none))) := by rw [img_at ho, ly_list h]
theorem ly_recs (h : kd o = 12) : ly b V o = .inr (5, 12, .inr (fun j => if j < 12 then some (b + (65 + 3 * j)) else none)) := by simp [ly, h]
theorem im_recs (ho : o < 188) (h : kd o = 12) : img b V f (b + o) = some (.inr (5, 12, .inr (fun j => if j < 12 then some (b + (65 + 3 * j)) else none))) := by rw [img_at ho, ly_recs h]
end LY
section LF
variable {n w b : Nat} {V : v_N} {f : Nat → Option m_E}
theorem if_0 : img b V f b = some (.inl (8, [.inr (some (b + 1)), .inr (some (b + 2)), .inr (some (b + 6)), .inr (some (b + 34)), .inr (some (b + 62)), .inr (some (b + 63)), .inr (some (b + 101)), .inr (some (b + 103)), .inl (V 0 8), .inl (V 0 9), .inl (V 0 10), .inl (V 0 11)])) := im_TC (o := 0) (by decide) rfl
theorem uf_0_8 {x : Int32} : mup (n, w, img b V f) b (.inl (8, [.inr (some (b + 1)), .inr (some (b + 2)), .inr (some (b + 6)), .inr (some (b + 34)), .inr (some (b + 62)), .inr (some (b + 63)), .inr (some (b + 101)), .inr (some (b + 103)), .inl x, .inl (V 0 9), .inl (V 0 10), .inl (V 0 11)])) = (n, w, img b (vu V 0 8 x) f) := up_TC_8 (o := 0) (by decide) rfl
theorem pf_0_8 {x : Int32} : pf (n, w, img b V f) 8 b 8 (.inl x) = some (n, w, img b (vu V 0 8 x) f) := pf_TC_8 (o := 0) (by decide) rfl
theorem uf_0_9 {x : Int32} : mup (n, w, img b V f) b (.inl (8, [.inr (some (b + 1)), .inr (some (b + 2)), .inr (some (b + 6)), .inr (some (b + 34)), .inr (some (b + 62)), .inr (some (b + 63)), .inr (some (b + 101)), .inr (some (b + 103)), .inl (V 0 8), .inl x, .inl (V 0 10), .inl (V 0 11)])) = (n, w, img b (vu V 0 9 x) f) := up_TC_9 (o := 0) (by decide) rfl
theorem pf_0_9 {x : Int32} : pf (n, w, img b V f) 8 b 9 (.inl x) = some (n, w, img b (vu V 0 9 x) f) := pf_TC_9 (o := 0) (by decide) rfl
theorem uf_0_10 {x : Int32} : mup (n, w, img b V f) b (.inl (8, [.inr (some (b + 1)), .inr (some (b + 2)), .inr (some (b + 6)), .inr (some (b + 34)), .inr (some (b + 62)), .inr (some (b + 63)), .inr (some (b + 101)), .inr (some (b + 103)), .inl (V 0 8), .inl (V 0 9), .inl x, .inl (V 0 11)])) = (n, w, img b (vu V 0 10 x) f) := up_TC_10 (o := 0) (by decide) rfl
theorem pf_0_10 {x : Int32} : pf (n, w, img b V f) 8 b 10 (.inl x) = some (n, w, img b (vu V 0 10 x) f) := pf_TC_10 (o := 0) (by decide) rfl
theorem uf_0_11 {x : Int32} : mup (n, w, img b V f) b (.inl (8, [.inr (some (b + 1)), .inr (some (b + 2)), .inr (some (b + 6)), .inr (some (b + 34)), .inr (some (b + 62)), .inr (some (b + 63)), .inr (some (b + 101)), .inr (some (b + 103)), .inl (V 0 8), .inl (V 0 9), .inl (V 0 10), .inl x])) = (n, w, img b (vu V 0 11 x) f) := up_TC_11 (o := 0) (by decide) rfl
theorem pf_0_11 {x : Int32} : pf (n, w, img b V f) 8 b 11 (.inl x) = some (n, w, img b (vu V 0 11 x) f) := pf_TC_11 (o := 0) (by decide) rfl
theorem if_2 : img b V f (b + 2) = some (.inl (6, [.inr (some (b + 3)), .inr (some (b + 4)), .inr (some (b + 5)), .inl (V 2 3)])) := im_Ru (o := 2) (by decide) rfl
theorem uf_2_3 {x : Int32} : mup (n, w, img b V f) (b + 2) (.inl (6, [.inr (some (b + 3)), .inr (some (b + 4)), .inr (some (b + 5)), .inl x])) = (n, w, img b (vu V 2 3 x) f) := up_Ru_3 (o := 2) (by decide) rfl
theorem pf_2_3 {x : Int32} : pf (n, w, img b V f) 6 (b + 2) 3 (.inl x) = some (n, w, img b (vu V 2 3 x) f) := pf_Ru_3 (o := 2) (by decide) rfl
theorem if_6 : img b V f (b + 6) = some (.inl (3, [.inr (some (b + 7)), .inl (V 6 1), .inl (V 6 2)])) := im_Li (o := 6) (by decide) rfl
theorem uf_6_1 {x : Int32} : mup (n, w, img b V f) (b + 6) (.inl (3, [.inr (some (b + 7)), .inl x, .inl (V 6 2)])) = (n, w, img b (vu V 6 1 x) f) := up_Li_1 (o := 6) (by decide) rfl
theorem pf_6_1 {x : Int32} : pf (n, w, img b V f) 3 (b + 6) 1 (.inl x) = some (n, w, img b (vu V 6 1 x) f) := pf_Li_1 (o := 6) (by decide) rfl
theorem uf_6_2 {x : Int32} : mup (n, w, img b V f) (b + 6) (.inl (3, [.inr (some (b + 7)), .inl (V 6 1), .inl x])) = (n, w, img b (vu V 6 2 x) f) := up_Li_2 (o := 6) (by decide) rfl
theorem pf_6_2 {x : Int32} : pf (n, w, img b V f) 3 (b + 6) 2 (.inl x) = some (n, w, img b (vu V 6 2 x) f) := pf_Li_2 (o := 6) (by decide) rfl
theorem if_34 : img b V f (b + 34) = some (.inl (3, [.inr (some (b + 35)), .inl (V 34 1), .inl (V 34 2)])) := im_Li (o := 34) (by decide) rfl
theorem uf_34_1 {x : Int32} : mup (n, w, img b V f) (b + 34) (.inl (3, [.inr (some (b + 35)), .inl x, .inl (V 34 2)])) = (n, w, img b (vu V 34 1 x) f) := up_Li_1 (o := 34) (by decide) rfl
theorem pf_34_1 {x : Int32} : pf (n, w, img b V f) 3 (b + 34) 1 (.inl x) = some (n, w, img b (vu V 34 1 x) f) := pf_Li_1 (o := 34) (by decide) rfl
theorem uf_34_2 {x : Int32} : mup (n, w, img b V f) (b + 34) (.inl (3, [.inr (some (b + 35)), .inl (V 34 1), .inl x])) = (n, w, img b (vu V 34 2 x) f) := up_Li_2 (o := 34) (by decide) rfl
theorem pf_34_2 {x : Int32} : pf (n, w, img b V f) 3 (b + 34) 2 (.inl x) = some (n, w, img b (vu V 34 2 x) f) := pf_Li_2 (o := 34) (by decide) rfl
theorem if_63 : img b V f (b + 63) = some (.inl (1, [.inr (some (b + 64)), .inl (V 63 1), .inl (V 63 2)])) := im_Jo (o := 63) (by decide) rfl
theorem uf_63_1 {x : Int32} : mup (n, w, img b V f) (b + 63) (.inl (1, [.inr (some (b + 64)), .inl x, .inl (V 63 2)])) = (n, w, img b (vu V 63 1 x) f) := up_Jo_1 (o := 63) (by decide) rfl
theorem pf_63_1 {x : Int32} : pf (n, w, img b V f) 1 (b + 63) 1 (.inl x) = some (n, w, img b (vu V 63 1 x) f) := pf_Jo_1 (o := 63) (by decide) rfl
theorem uf_63_2 {x : Int32} : mup (n, w, img b V f) (b + 63) (.inl (1, [.inr (some (b + 64)), .inl (V 63 1), .inl x])) = (n, w, img b (vu V 63 2 x) f) := up_Jo_2 (o := 63) (by decide) rfl
theorem pf_63_2 {x : Int32} : pf (n, w, img b V f) 1 (b + 63) 2 (.inl x) = some (n, w, img b (vu V 63 2 x) f) := pf_Jo_2 (o := 63) (by decide) rfl
theorem if_101 : img b V f (b + 101) = some (.inl (5, [.inr (some (b + 102)), .inl (V 101 1)])) := im_Ro (o := 101) (by decide) rfl
theorem uf_101_1 {x : Int32} : mup (n, w, img b V f) (b + 101) (.inl (5, [.inr (some (b + 102)), .inl x])) = (n, w, img b (vu V 101 1 x) f) := up_Ro_1 (o := 101) (by decide) rfl
theorem pf_101_1 {x : Int32} : pf (n, w, img b V f) 5 (b + 101) 1 (.inl x) = some (n, w, img b (vu V 101 1 x) f) := pf_Ro_1 (o := 101) (by decide) rfl
theorem if_3 : img b V f (b + 3) = some (.inr (1, 6, .inl (V 3))) := im_z6 (o := 3) (by decide) rfl
theorem uf_3 {j : Nat} {x : Int32} : mup (n, w, img b V f) (b + 3) (.inr (1, 6, .inl (upd (V 3) j x))) = (n, w, img b (vu V 3 j x) f) := up_z6 (o := 3) (by decide) rfl
theorem if_4 : img b V f (b + 4) = some (.inr (0, 6, .inl (V 4))) := im_i6 (o := 4) (by decide) rfl
theorem uf_4 {j : Nat} {x : Int32} : mup (n, w, img b V f) (b + 4) (.inr (0, 6, .inl (upd (V 4) j x))) = (n, w, img b (vu V 4 j x) f) := up_i6 (o := 4) (by decide) rfl
theorem if_5 : img b V f (b + 5) = some (.inr (0, 6, .inl (V 5))) := im_i6b (o := 5) (by decide) rfl
theorem uf_5 {j : Nat} {x : Int32} : mup (n, w, img b V f) (b + 5) (.inr (0, 6, .inl (upd (V 5) j x))) = (n, w, img b (vu V 5 j x) f) := up_i6b (o := 5) (by decide) rfl
theorem if_102 : img b V f (b + 102) = some (.inr (0, 40, .inl (V 102))) := im_i40 (o := 102) (by decide) rfl
theorem uf_102 {j : Nat} {x : Int32} : mup (n, w, img b V f) (b + 102) (.inr (0, 40, .inl (upd (V 102) j x))) = (n, w, img b (vu V 102 j x) f) := up_i40 (o := 102) (by decide) rfl
theorem if_103 : img b V f (b + 103) = some (.inr (0, 8, .inl (V 103))) := im_i8 (o := 103) (by decide) rfl
theorem uf_103 {j : Nat} {x : Int32} : mup (n, w, img b V f) (b + 103) (.inr (0, 8, .inl (upd (V 103) j x))) = (n, w, img b (vu V 103 j x) f) := up_i8 (o := 103) (by decide) rfl
theorem if_1 : img b V f (b + 1) = some (.inr (3, 24, .inr (fun j => if j < 24 then some (b + (104 + 3 * j)) else none))) := im_files (o := 1) (by decide) rfl
theorem if_7 : img b V f (b + 7) = some (.inr (2, 13, .inr (fun j => if j < 13 then some (b + (8 + 2 * j)) else none))) := im_ring (o := 7) (by decide) rfl
theorem if_35 : img b V f (b + 35) = some (.inr (2, 13, .inr (fun j => if j < 13 then some (b + (36 + 2 * j)) else none))) := im_ring (o := 35) (by decide) rfl
theorem if_62 : img b V f (b + 62) = some (.inr (4, 12, .inr (fun j => if j < 12 then some (b + (176 + j)) else none))) := im_list (o := 62) (by decide) rfl
theorem if_64 : img b V f (b + 64) = some (.inr (5, 12, .inr (fun j => if j < 12 then some (b + (65 + 3 * j)) else none))) := im_recs (o := 64) (by decide) rfl
end LF
-- where the kinds lie
theorem kd_m0 : ∀ i, i < 13 → kd (8 + 2 * i) = 8 ∧ 8 + 2 * i < 188 ∧ kd (8 + 2 * i + 1) = 9 ∧ 8 + 2 * i + 1 < 188 := by decide
theorem kd_m1 : ∀ i, i < 13 → kd (36 + 2 * i) = 8 ∧ 36 + 2 * i < 188 ∧ kd (36 + 2 * i + 1) = 9 ∧ 36 + 2 * i + 1 < 188 := by decide
theorem kd_file : ∀ i, i < 24 → kd (104 + 3 * i) = 16 ∧ 104 + 3 * i < 188 ∧ kd (104 + 3 * i + 1) = 14 ∧ 104 + 3 * i + 1 < 188 ∧ kd (104 + 3 * i + 1 + 1) = 9 ∧ 104 + 3 * i + 1 + 1 < 188 := by decide
theorem kd_rec : ∀ i, i < 12 → kd (65 + 3 * i) = 13 ∧ 65 + 3 * i < 188 ∧ kd (65 + 3 * i + 1) = 14 ∧ 65 + 3 * i + 1 < 188 ∧ kd (65 + 3 * i + 1 + 1) = 9 ∧ 65 + 3 * i + 1 + 1 < 188 := by decide
theorem kd_entry : ∀ i, i < 12 → kd (176 + i) = 17 ∧ 176 + i < 188 := by decide
theorem mt_ix_nI {j n : Nat} (h : j < n) (hn : n < 2 ^ 31) : mt_ix (nI j) n = some j := by
  unfold mt_ix
  rw [if_neg (nI_in h hn), nI_clamp (by omega)]
