/-! The reference in memory: 20 cells from address c on; the numbers in them are U : offset → slot → Int32. -/
def mK (o : Nat) : Nat := if o = 1 ∨ o = 5 ∨ o = 11 then 1 else 0
def mL (o : Nat) : Nat := if o = 1 then 24 else if o = 2 then 24 else if o = 3 then 24 else if o = 4 then 960 else if o = 5 then 6 else if o = 6 then 6 else if o = 7 then 6 else if o = 8 then 12 else if o = 9 then 12 else if o = 10 then 12 else if o = 11 then 12 else if o = 12 then 2 else if o = 13 then 2880 else if o = 14 then 16 else if o = 15 then 16 else if o = 16 then 16 else if o = 17 then 640 else if o = 18 then 40 else if o = 19 then 8 else 0
def lz (c : Nat) (U : v_N) (o : Nat) : m_E := if o = 0 then .inl (9, [.inr (some (c + 1)), .inr (some (c + 2)), .inr (some (c + 3)), .inr (some (c + 4)), .inl (U 0 4), .inl (U 0 5), .inr (some (c + 5)), .inr (some (c + 6)), .inr (some (c + 7)), .inl (U 0 9), .inl (U 0 10), .inl (U 0 11), .inl (U 0 12), .inr (some (c + 8)), .inr (some (c + 9)), .inr (some (c + 10)), .inr (some (c + 11)), .inr (some (c + 12)), .inr (some (c + 13)), .inl (U 0 19), .inl (U 0 20), .inr (some (c + 14)), .inr (some (c + 15)), .inr (some (c + 16)), .inr (some (c + 17)), .inr (some (c + 18)), .inl (U 0 26), .inr (some (c + 19))]) else .inr (mK o, mL o, .inl (U o))
def imr (c : Nat) (U : v_N) (f : Nat → Option m_E) : Nat → Option m_E := fun a => if c ≤ a ∧ a < c + 20 then some (lz c U (a - c)) else f a
theorem lz_congr {c : Nat} {U U1 : v_N} {o : Nat} (h : U1 o = U o) : lz c U1 o = lz c U o := by
  unfold lz
  by_cases ho : o = 0
  · subst ho
    rw [if_pos rfl, if_pos rfl, h]
  · rw [if_neg ho, if_neg ho, h]
theorem imr_at {c : Nat} {U : v_N} {f : Nat → Option m_E} {o : Nat} (h : o < 20) : imr c U f (c + o) = some (lz c U o) := by
  unfold imr
  rw [if_pos (by omega), Nat.add_sub_cancel_left]
theorem mup_imr {n w c : Nat} {U U1 : v_N} {f : Nat → Option m_E} {o : Nat} {e : m_E} (h : o < 20) (he : e = lz c U1 o) (hV : ∀ o1, o1 ≠ o → U1 o1 = U o1) : mup (n, w, imr c U f) (c + o) e = (n, w, imr c U1 f) := by
  have h1 : va_up (imr c U f) (c + o) (some e) = imr c U1 f := by
    funext a
    unfold va_up
    by_cases ha : a = c + o
    · rw [if_pos ha, ha, imr_at h, he]
    · rw [if_neg ha]
      unfold imr
      by_cases hr : c ≤ a ∧ a < c + 20
      · rw [if_pos hr, if_pos hr, lz_congr (hV (a - c) (by omega))]
      · rw [if_neg hr, if_neg hr]
  unfold mup
  rw [h1]
theorem img_imr {b c : Nat} {V U : v_N} {f : Nat → Option m_E} (h : b + 188 ≤ c ∨ c + 20 ≤ b) : img b V (imr c U f) = imr c U (img b V f) := by
  funext a
  unfold img imr
  dsimp only
  by_cases h1 : b ≤ a ∧ a < b + 188
  · rw [if_pos h1, if_neg (by omega), if_pos h1]
  · rw [if_neg h1, if_neg h1]
section LZ
variable {n w c : Nat} {U : v_N} {f : Nat → Option m_E}
theorem jf_0 : imr c U f c = some (.inl (9, [.inr (some (c + 1)), .inr (some (c + 2)), .inr (some (c + 3)), .inr (some (c + 4)), .inl (U 0 4), .inl (U 0 5), .inr (some (c + 5)), .inr (some (c + 6)), .inr (some (c + 7)), .inl (U 0 9), .inl (U 0 10), .inl (U 0 11), .inl (U 0 12), .inr (some (c + 8)), .inr (some (c + 9)), .inr (some (c + 10)), .inr (some (c + 11)), .inr (some (c + 12)), .inr (some (c + 13)), .inl (U 0 19), .inl (U 0 20), .inr (some (c + 14)), .inr (some (c + 15)), .inr (some (c + 16)), .inr (some (c + 17)), .inr (some (c + 18)), .inl (U 0 26), .inr (some (c + 19))])) := imr_at (o := 0) (by decide)
theorem vf_0_4 {x : Int32} : mup (n, w, imr c U f) c (.inl (9, [.inr (some (c + 1)), .inr (some (c + 2)), .inr (some (c + 3)), .inr (some (c + 4)), .inl x, .inl (U 0 5), .inr (some (c + 5)), .inr (some (c + 6)), .inr (some (c + 7)), .inl (U 0 9), .inl (U 0 10), .inl (U 0 11), .inl (U 0 12), .inr (some (c + 8)), .inr (some (c + 9)), .inr (some (c + 10)), .inr (some (c + 11)), .inr (some (c + 12)), .inr (some (c + 13)), .inl (U 0 19), .inl (U 0 20), .inr (some (c + 14)), .inr (some (c + 15)), .inr (some (c + 16)), .inr (some (c + 17)), .inr (some (c + 18)), .inl (U 0 26), .inr (some (c + 19))])) = (n, w, imr c (vu U 0 4 x) f) := mup_imr (o := 0) (by decide) (by simp [lz, vu]) (fun o1 h1 => vu_off h1)
theorem vf_0_5 {x : Int32} : mup (n, w, imr c U f) c (.inl (9, [.inr (some (c + 1)), .inr (some (c + 2)), .inr (some (c + 3)), .inr (some (c + 4)), .inl (U 0 4), .inl x, .inr (some (c + 5)), .inr (some (c + 6)), .inr (some (c + 7)), .inl (U 0 9), .inl (U 0 10), .inl (U 0 11), .inl (U 0 12), .inr (some (c + 8)), .inr (some (c + 9)), .inr (some (c + 10)), .inr (some (c + 11)), .inr (some (c + 12)), .inr (some (c + 13)), .inl (U 0 19), .inl (U 0 20), .inr (some (c + 14)), .inr (some (c + 15)), .inr (some (c + 16)), .inr (some (c + 17)), .inr (some (c + 18)), .inl (U 0 26), .inr (some (c + 19))])) = (n, w, imr c (vu U 0 5 x) f) := mup_imr (o := 0) (by decide) (by simp [lz, vu]) (fun o1 h1 => vu_off h1)
theorem vf_0_9 {x : Int32} : mup (n, w, imr c U f) c (.inl (9, [.inr (some (c + 1)), .inr (some (c + 2)), .inr (some (c + 3)), .inr (some (c + 4)), .inl (U 0 4), .inl (U 0 5), .inr (some (c + 5)), .inr (some (c + 6)), .inr (some (c + 7)), .inl x, .inl (U 0 10), .inl (U 0 11), .inl (U 0 12), .inr (some (c + 8)), .inr (some (c + 9)), .inr (some (c + 10)), .inr (some (c + 11)), .inr (some (c + 12)), .inr (some (c + 13)), .inl (U 0 19), .inl (U 0 20), .inr (some (c + 14)), .inr (some (c + 15)), .inr (some (c + 16)), .inr (some (c + 17)), .inr (some (c + 18)), .inl (U 0 26), .inr (some (c + 19))])) = (n, w, imr c (vu U 0 9 x) f) := mup_imr (o := 0) (by decide) (by simp [lz, vu]) (fun o1 h1 => vu_off h1)
theorem vf_0_10 {x : Int32} : mup (n, w, imr c U f) c (.inl (9, [.inr (some (c + 1)), .inr (some (c + 2)), .inr (some (c + 3)), .inr (some (c + 4)), .inl (U 0 4), .inl (U 0 5), .inr (some (c + 5)), .inr (some (c + 6)), .inr (some (c + 7)), .inl (U 0 9), .inl x, .inl (U 0 11), .inl (U 0 12), .inr (some (c + 8)), .inr (some (c + 9)), .inr (some (c + 10)), .inr (some (c + 11)), .inr (some (c + 12)), .inr (some (c + 13)), .inl (U 0 19), .inl (U 0 20), .inr (some (c + 14)), .inr (some (c + 15)), .inr (some (c + 16)), .inr (some (c + 17)), .inr (some (c + 18)), .inl (U 0 26), .inr (some (c + 19))])) = (n, w, imr c (vu U 0 10 x) f) := mup_imr (o := 0) (by decide) (by simp [lz, vu]) (fun o1 h1 => vu_off h1)
theorem vf_0_11 {x : Int32} : mup (n, w, imr c U f) c (.inl (9, [.inr (some (c + 1)), .inr (some (c + 2)), .inr (some (c + 3)), .inr (some (c + 4)), .inl (U 0 4), .inl (U 0 5), .inr (some (c + 5)), .inr (some (c + 6)), .inr (some (c + 7)), .inl (U 0 9), .inl (U 0 10), .inl x, .inl (U 0 12), .inr (some (c + 8)), .inr (some (c + 9)), .inr (some (c + 10)), .inr (some (c + 11)), .inr (some (c + 12)), .inr (some (c + 13)), .inl (U 0 19), .inl (U 0 20), .inr (some (c + 14)), .inr (some (c + 15)), .inr (some (c + 16)), .inr (some (c + 17)), .inr (some (c + 18)), .inl (U 0 26), .inr (some (c + 19))])) = (n, w, imr c (vu U 0 11 x) f) := mup_imr (o := 0) (by decide) (by simp [lz, vu]) (fun o1 h1 => vu_off h1)
theorem vf_0_12 {x : Int32} : mup (n, w, imr c U f) c (.inl (9, [.inr (some (c + 1)), .inr (some (c + 2)), .inr (some (c + 3)), .inr (some (c + 4)), .inl (U 0 4), .inl (U 0 5), .inr (some (c + 5)), .inr (some (c + 6)), .inr (some (c + 7)), .inl (U 0 9), .inl (U 0 10), .inl (U 0 11), .inl x, .inr (some (c + 8)), .inr (some (c + 9)), .inr (some (c + 10)), .inr (some (c + 11)), .inr (some (c + 12)), .inr (some (c + 13)), .inl (U 0 19), .inl (U 0 20), .inr (some (c + 14)), .inr (some (c + 15)), .inr (some (c + 16)), .inr (some (c + 17)), .inr (some (c + 18)), .inl (U 0 26), .inr (some (c + 19))])) = (n, w, imr c (vu U 0 12 x) f) := mup_imr (o := 0) (by decide) (by simp [lz, vu]) (fun o1 h1 => vu_off h1)
theorem vf_0_19 {x : Int32} : mup (n, w, imr c U f) c (.inl (9, [.inr (some (c + 1)), .inr (some (c + 2)), .inr (some (c + 3)), .inr (some (c + 4)), .inl (U 0 4), .inl (U 0 5), .inr (some (c + 5)), .inr (some (c + 6)), .inr (some (c + 7)), .inl (U 0 9), .inl (U 0 10), .inl (U 0 11), .inl (U 0 12), .inr (some (c + 8)), .inr (some (c + 9)), .inr (some (c + 10)), .inr (some (c + 11)), .inr (some (c + 12)), .inr (some (c + 13)), .inl x, .inl (U 0 20), .inr (some (c + 14)), .inr (some (c + 15)), .inr (some (c + 16)), .inr (some (c + 17)), .inr (some (c + 18)), .inl (U 0 26), .inr (some (c + 19))])) = (n, w, imr c (vu U 0 19 x) f) := mup_imr (o := 0) (by decide) (by simp [lz, vu]) (fun o1 h1 => vu_off h1)
theorem vf_0_20 {x : Int32} : mup (n, w, imr c U f) c (.inl (9, [.inr (some (c + 1)), .inr (some (c + 2)), .inr (some (c + 3)), .inr (some (c + 4)), .inl (U 0 4), .inl (U 0 5), .inr (some (c + 5)), .inr (some (c + 6)), .inr (some (c + 7)), .inl (U 0 9), .inl (U 0 10), .inl (U 0 11), .inl (U 0 12), .inr (some (c + 8)), .inr (some (c + 9)), .inr (some (c + 10)), .inr (some (c + 11)), .inr (some (c + 12)), .inr (some (c + 13)), .inl (U 0 19), .inl x, .inr (some (c + 14)), .inr (some (c + 15)), .inr (some (c + 16)), .inr (some (c + 17)), .inr (some (c + 18)), .inl (U 0 26), .inr (some (c + 19))])) = (n, w, imr c (vu U 0 20 x) f) := mup_imr (o := 0) (by decide) (by simp [lz, vu]) (fun o1 h1 => vu_off h1)
theorem vf_0_26 {x : Int32} : mup (n, w, imr c U f) c (.inl (9, [.inr (some (c + 1)), .inr (some (c + 2)), .inr (some (c + 3)), .inr (some (c + 4)), .inl (U 0 4), .inl (U 0 5), .inr (some (c + 5)), .inr (some (c + 6)), .inr (some (c + 7)), .inl (U 0 9), .inl (U 0 10), .inl (U 0 11), .inl (U 0 12), .inr (some (c + 8)), .inr (some (c + 9)), .inr (some (c + 10)), .inr (some (c + 11)), .inr (some (c + 12)), .inr (some (c + 13)), .inl (U 0 19), .inl (U 0 20), .inr (some (c + 14)), .inr (some (c + 15)), .inr (some (c + 16)), .inr (some (c + 17)), .inr (some (c + 18)), .inl x, .inr (some (c + 19))])) = (n, w, imr c (vu U 0 26 x) f) := mup_imr (o := 0) (by decide) (by simp [lz, vu]) (fun o1 h1 => vu_off h1)
theorem jf_1 : imr c U f (c + 1) = some (.inr (1, 24, .inl (U 1))) := imr_at (o := 1) (by decide)
theorem vf_1 {j : Nat} {x : Int32} : mup (n, w, imr c U f) (c + 1) (.inr (1, 24, .inl (upd (U 1) j x))) = (n, w, imr c (vu U 1 j x) f) := mup_imr (o := 1) (by decide) (by simp [lz, vu_row, mK, mL]) (fun o1 h1 => vu_off h1)
theorem jf_2 : imr c U f (c + 2) = some (.inr (0, 24, .inl (U 2))) := imr_at (o := 2) (by decide)
theorem vf_2 {j : Nat} {x : Int32} : mup (n, w, imr c U f) (c + 2) (.inr (0, 24, .inl (upd (U 2) j x))) = (n, w, imr c (vu U 2 j x) f) := mup_imr (o := 2) (by decide) (by simp [lz, vu_row, mK, mL]) (fun o1 h1 => vu_off h1)
theorem jf_3 : imr c U f (c + 3) = some (.inr (0, 24, .inl (U 3))) := imr_at (o := 3) (by decide)
theorem vf_3 {j : Nat} {x : Int32} : mup (n, w, imr c U f) (c + 3) (.inr (0, 24, .inl (upd (U 3) j x))) = (n, w, imr c (vu U 3 j x) f) := mup_imr (o := 3) (by decide) (by simp [lz, vu_row, mK, mL]) (fun o1 h1 => vu_off h1)
theorem jf_4 : imr c U f (c + 4) = some (.inr (0, 960, .inl (U 4))) := imr_at (o := 4) (by decide)
theorem vf_4 {j : Nat} {x : Int32} : mup (n, w, imr c U f) (c + 4) (.inr (0, 960, .inl (upd (U 4) j x))) = (n, w, imr c (vu U 4 j x) f) := mup_imr (o := 4) (by decide) (by simp [lz, vu_row, mK, mL]) (fun o1 h1 => vu_off h1)
theorem jf_5 : imr c U f (c + 5) = some (.inr (1, 6, .inl (U 5))) := imr_at (o := 5) (by decide)
theorem vf_5 {j : Nat} {x : Int32} : mup (n, w, imr c U f) (c + 5) (.inr (1, 6, .inl (upd (U 5) j x))) = (n, w, imr c (vu U 5 j x) f) := mup_imr (o := 5) (by decide) (by simp [lz, vu_row, mK, mL]) (fun o1 h1 => vu_off h1)
theorem jf_6 : imr c U f (c + 6) = some (.inr (0, 6, .inl (U 6))) := imr_at (o := 6) (by decide)
theorem vf_6 {j : Nat} {x : Int32} : mup (n, w, imr c U f) (c + 6) (.inr (0, 6, .inl (upd (U 6) j x))) = (n, w, imr c (vu U 6 j x) f) := mup_imr (o := 6) (by decide) (by simp [lz, vu_row, mK, mL]) (fun o1 h1 => vu_off h1)
theorem jf_7 : imr c U f (c + 7) = some (.inr (0, 6, .inl (U 7))) := imr_at (o := 7) (by decide)
theorem vf_7 {j : Nat} {x : Int32} : mup (n, w, imr c U f) (c + 7) (.inr (0, 6, .inl (upd (U 7) j x))) = (n, w, imr c (vu U 7 j x) f) := mup_imr (o := 7) (by decide) (by simp [lz, vu_row, mK, mL]) (fun o1 h1 => vu_off h1)
theorem jf_8 : imr c U f (c + 8) = some (.inr (0, 12, .inl (U 8))) := imr_at (o := 8) (by decide)
theorem vf_8 {j : Nat} {x : Int32} : mup (n, w, imr c U f) (c + 8) (.inr (0, 12, .inl (upd (U 8) j x))) = (n, w, imr c (vu U 8 j x) f) := mup_imr (o := 8) (by decide) (by simp [lz, vu_row, mK, mL]) (fun o1 h1 => vu_off h1)
theorem jf_9 : imr c U f (c + 9) = some (.inr (0, 12, .inl (U 9))) := imr_at (o := 9) (by decide)
theorem vf_9 {j : Nat} {x : Int32} : mup (n, w, imr c U f) (c + 9) (.inr (0, 12, .inl (upd (U 9) j x))) = (n, w, imr c (vu U 9 j x) f) := mup_imr (o := 9) (by decide) (by simp [lz, vu_row, mK, mL]) (fun o1 h1 => vu_off h1)
theorem jf_10 : imr c U f (c + 10) = some (.inr (0, 12, .inl (U 10))) := imr_at (o := 10) (by decide)
theorem vf_10 {j : Nat} {x : Int32} : mup (n, w, imr c U f) (c + 10) (.inr (0, 12, .inl (upd (U 10) j x))) = (n, w, imr c (vu U 10 j x) f) := mup_imr (o := 10) (by decide) (by simp [lz, vu_row, mK, mL]) (fun o1 h1 => vu_off h1)
theorem jf_11 : imr c U f (c + 11) = some (.inr (1, 12, .inl (U 11))) := imr_at (o := 11) (by decide)
theorem vf_11 {j : Nat} {x : Int32} : mup (n, w, imr c U f) (c + 11) (.inr (1, 12, .inl (upd (U 11) j x))) = (n, w, imr c (vu U 11 j x) f) := mup_imr (o := 11) (by decide) (by simp [lz, vu_row, mK, mL]) (fun o1 h1 => vu_off h1)
theorem jf_12 : imr c U f (c + 12) = some (.inr (0, 2, .inl (U 12))) := imr_at (o := 12) (by decide)
theorem vf_12 {j : Nat} {x : Int32} : mup (n, w, imr c U f) (c + 12) (.inr (0, 2, .inl (upd (U 12) j x))) = (n, w, imr c (vu U 12 j x) f) := mup_imr (o := 12) (by decide) (by simp [lz, vu_row, mK, mL]) (fun o1 h1 => vu_off h1)
theorem jf_13 : imr c U f (c + 13) = some (.inr (0, 2880, .inl (U 13))) := imr_at (o := 13) (by decide)
theorem vf_13 {j : Nat} {x : Int32} : mup (n, w, imr c U f) (c + 13) (.inr (0, 2880, .inl (upd (U 13) j x))) = (n, w, imr c (vu U 13 j x) f) := mup_imr (o := 13) (by decide) (by simp [lz, vu_row, mK, mL]) (fun o1 h1 => vu_off h1)
theorem jf_14 : imr c U f (c + 14) = some (.inr (0, 16, .inl (U 14))) := imr_at (o := 14) (by decide)
theorem vf_14 {j : Nat} {x : Int32} : mup (n, w, imr c U f) (c + 14) (.inr (0, 16, .inl (upd (U 14) j x))) = (n, w, imr c (vu U 14 j x) f) := mup_imr (o := 14) (by decide) (by simp [lz, vu_row, mK, mL]) (fun o1 h1 => vu_off h1)
theorem jf_15 : imr c U f (c + 15) = some (.inr (0, 16, .inl (U 15))) := imr_at (o := 15) (by decide)
theorem vf_15 {j : Nat} {x : Int32} : mup (n, w, imr c U f) (c + 15) (.inr (0, 16, .inl (upd (U 15) j x))) = (n, w, imr c (vu U 15 j x) f) := mup_imr (o := 15) (by decide) (by simp [lz, vu_row, mK, mL]) (fun o1 h1 => vu_off h1)
theorem jf_16 : imr c U f (c + 16) = some (.inr (0, 16, .inl (U 16))) := imr_at (o := 16) (by decide)
theorem vf_16 {j : Nat} {x : Int32} : mup (n, w, imr c U f) (c + 16) (.inr (0, 16, .inl (upd (U 16) j x))) = (n, w, imr c (vu U 16 j x) f) := mup_imr (o := 16) (by decide) (by simp [lz, vu_row, mK, mL]) (fun o1 h1 => vu_off h1)
theorem jf_17 : imr c U f (c + 17) = some (.inr (0, 640, .inl (U 17))) := imr_at (o := 17) (by decide)
theorem vf_17 {j : Nat} {x : Int32} : mup (n, w, imr c U f) (c + 17) (.inr (0, 640, .inl (upd (U 17) j x))) = (n, w, imr c (vu U 17 j x) f) := mup_imr (o := 17) (by decide) (by simp [lz, vu_row, mK, mL]) (fun o1 h1 => vu_off h1)
theorem jf_18 : imr c U f (c + 18) = some (.inr (0, 40, .inl (U 18))) := imr_at (o := 18) (by decide)
theorem vf_18 {j : Nat} {x : Int32} : mup (n, w, imr c U f) (c + 18) (.inr (0, 40, .inl (upd (U 18) j x))) = (n, w, imr c (vu U 18 j x) f) := mup_imr (o := 18) (by decide) (by simp [lz, vu_row, mK, mL]) (fun o1 h1 => vu_off h1)
theorem jf_19 : imr c U f (c + 19) = some (.inr (0, 8, .inl (U 19))) := imr_at (o := 19) (by decide)
theorem vf_19 {j : Nat} {x : Int32} : mup (n, w, imr c U f) (c + 19) (.inr (0, 8, .inl (upd (U 19) j x))) = (n, w, imr c (vu U 19 j x) f) := mup_imr (o := 19) (by decide) (by simp [lz, vu_row, mK, mL]) (fun o1 h1 => vu_off h1)
theorem gj_0 : gf (n, w, imr c U f) 9 c 0 = some (.inr (some (c + 1))) := by simp [gf, jf_0, fnth]
theorem gj_1 : gf (n, w, imr c U f) 9 c 1 = some (.inr (some (c + 2))) := by simp [gf, jf_0, fnth]
theorem gj_2 : gf (n, w, imr c U f) 9 c 2 = some (.inr (some (c + 3))) := by simp [gf, jf_0, fnth]
theorem gj_3 : gf (n, w, imr c U f) 9 c 3 = some (.inr (some (c + 4))) := by simp [gf, jf_0, fnth]
theorem gj_4 : gf (n, w, imr c U f) 9 c 4 = some (.inl (U 0 4)) := by simp [gf, jf_0, fnth]
theorem pj_4 {x : Int32} : pf (n, w, imr c U f) 9 c 4 (.inl x) = some (n, w, imr c (vu U 0 4 x) f) := by
  rw [← vf_0_4]
  simp [pf, jf_0, fset]
theorem gj_5 : gf (n, w, imr c U f) 9 c 5 = some (.inl (U 0 5)) := by simp [gf, jf_0, fnth]
theorem pj_5 {x : Int32} : pf (n, w, imr c U f) 9 c 5 (.inl x) = some (n, w, imr c (vu U 0 5 x) f) := by
  rw [← vf_0_5]
  simp [pf, jf_0, fset]
theorem gj_6 : gf (n, w, imr c U f) 9 c 6 = some (.inr (some (c + 5))) := by simp [gf, jf_0, fnth]
theorem gj_7 : gf (n, w, imr c U f) 9 c 7 = some (.inr (some (c + 6))) := by simp [gf, jf_0, fnth]
theorem gj_8 : gf (n, w, imr c U f) 9 c 8 = some (.inr (some (c + 7))) := by simp [gf, jf_0, fnth]
theorem gj_9 : gf (n, w, imr c U f) 9 c 9 = some (.inl (U 0 9)) := by simp [gf, jf_0, fnth]
theorem pj_9 {x : Int32} : pf (n, w, imr c U f) 9 c 9 (.inl x) = some (n, w, imr c (vu U 0 9 x) f) := by
  rw [← vf_0_9]
  simp [pf, jf_0, fset]
theorem gj_10 : gf (n, w, imr c U f) 9 c 10 = some (.inl (U 0 10)) := by simp [gf, jf_0, fnth]
theorem pj_10 {x : Int32} : pf (n, w, imr c U f) 9 c 10 (.inl x) = some (n, w, imr c (vu U 0 10 x) f) := by
  rw [← vf_0_10]
  simp [pf, jf_0, fset]
theorem gj_11 : gf (n, w, imr c U f) 9 c 11 = some (.inl (U 0 11)) := by simp [gf, jf_0, fnth]
theorem pj_11 {x : Int32} : pf (n, w, imr c U f) 9 c 11 (.inl x) = some (n, w, imr c (vu U 0 11 x) f) := by
  rw [← vf_0_11]
  simp [pf, jf_0, fset]
theorem gj_12 : gf (n, w, imr c U f) 9 c 12 = some (.inl (U 0 12)) := by simp [gf, jf_0, fnth]
theorem pj_12 {x : Int32} : pf (n, w, imr c U f) 9 c 12 (.inl x) = some (n, w, imr c (vu U 0 12 x) f) := by
  rw [← vf_0_12]
  simp [pf, jf_0, fset]
theorem gj_13 : gf (n, w, imr c U f) 9 c 13 = some (.inr (some (c + 8))) := by simp [gf, jf_0, fnth]
theorem gj_14 : gf (n, w, imr c U f) 9 c 14 = some (.inr (some (c + 9))) := by simp [gf, jf_0, fnth]
theorem gj_15 : gf (n, w, imr c U f) 9 c 15 = some (.inr (some (c + 10))) := by simp [gf, jf_0, fnth]
theorem gj_16 : gf (n, w, imr c U f) 9 c 16 = some (.inr (some (c + 11))) := by simp [gf, jf_0, fnth]
theorem gj_17 : gf (n, w, imr c U f) 9 c 17 = some (.inr (some (c + 12))) := by simp [gf, jf_0, fnth]
theorem gj_18 : gf (n, w, imr c U f) 9 c 18 = some (.inr (some (c + 13))) := by simp [gf, jf_0, fnth]
theorem gj_19 : gf (n, w, imr c U f) 9 c 19 = some (.inl (U 0 19)) := by simp [gf, jf_0, fnth]
theorem pj_19 {x : Int32} : pf (n, w, imr c U f) 9 c 19 (.inl x) = some (n, w, imr c (vu U 0 19 x) f) := by
  rw [← vf_0_19]
  simp [pf, jf_0, fset]
theorem gj_20 : gf (n, w, imr c U f) 9 c 20 = some (.inl (U 0 20)) := by simp [gf, jf_0, fnth]
theorem pj_20 {x : Int32} : pf (n, w, imr c U f) 9 c 20 (.inl x) = some (n, w, imr c (vu U 0 20 x) f) := by
  rw [← vf_0_20]
  simp [pf, jf_0, fset]
theorem gj_21 : gf (n, w, imr c U f) 9 c 21 = some (.inr (some (c + 14))) := by simp [gf, jf_0, fnth]
theorem gj_22 : gf (n, w, imr c U f) 9 c 22 = some (.inr (some (c + 15))) := by simp [gf, jf_0, fnth]
theorem gj_23 : gf (n, w, imr c U f) 9 c 23 = some (.inr (some (c + 16))) := by simp [gf, jf_0, fnth]
theorem gj_24 : gf (n, w, imr c U f) 9 c 24 = some (.inr (some (c + 17))) := by simp [gf, jf_0, fnth]
theorem gj_25 : gf (n, w, imr c U f) 9 c 25 = some (.inr (some (c + 18))) := by simp [gf, jf_0, fnth]
theorem gj_26 : gf (n, w, imr c U f) 9 c 26 = some (.inl (U 0 26)) := by simp [gf, jf_0, fnth]
theorem pj_26 {x : Int32} : pf (n, w, imr c U f) 9 c 26 (.inl x) = some (n, w, imr c (vu U 0 26 x) f) := by
  rw [← vf_0_26]
  simp [pf, jf_0, fset]
theorem gj_27 : gf (n, w, imr c U f) 9 c 27 = some (.inr (some (c + 19))) := by simp [gf, jf_0, fnth]
theorem ij_1 : gi 1 (n, w, imr c U f) (c + 1) = some (24, U 1) := by simp [gi, jf_1]
theorem ij_2 : gi 0 (n, w, imr c U f) (c + 2) = some (24, U 2) := by simp [gi, jf_2]
theorem ij_3 : gi 0 (n, w, imr c U f) (c + 3) = some (24, U 3) := by simp [gi, jf_3]
theorem ij_4 : gi 0 (n, w, imr c U f) (c + 4) = some (960, U 4) := by simp [gi, jf_4]
theorem ij_5 : gi 1 (n, w, imr c U f) (c + 5) = some (6, U 5) := by simp [gi, jf_5]
theorem ij_6 : gi 0 (n, w, imr c U f) (c + 6) = some (6, U 6) := by simp [gi, jf_6]
theorem ij_7 : gi 0 (n, w, imr c U f) (c + 7) = some (6, U 7) := by simp [gi, jf_7]
theorem ij_8 : gi 0 (n, w, imr c U f) (c + 8) = some (12, U 8) := by simp [gi, jf_8]
theorem ij_9 : gi 0 (n, w, imr c U f) (c + 9) = some (12, U 9) := by simp [gi, jf_9]
theorem ij_10 : gi 0 (n, w, imr c U f) (c + 10) = some (12, U 10) := by simp [gi, jf_10]
theorem ij_11 : gi 1 (n, w, imr c U f) (c + 11) = some (12, U 11) := by simp [gi, jf_11]
theorem ij_12 : gi 0 (n, w, imr c U f) (c + 12) = some (2, U 12) := by simp [gi, jf_12]
theorem ij_13 : gi 0 (n, w, imr c U f) (c + 13) = some (2880, U 13) := by simp [gi, jf_13]
theorem ij_14 : gi 0 (n, w, imr c U f) (c + 14) = some (16, U 14) := by simp [gi, jf_14]
theorem ij_15 : gi 0 (n, w, imr c U f) (c + 15) = some (16, U 15) := by simp [gi, jf_15]
theorem ij_16 : gi 0 (n, w, imr c U f) (c + 16) = some (16, U 16) := by simp [gi, jf_16]
theorem ij_17 : gi 0 (n, w, imr c U f) (c + 17) = some (640, U 17) := by simp [gi, jf_17]
theorem ij_18 : gi 0 (n, w, imr c U f) (c + 18) = some (40, U 18) := by simp [gi, jf_18]
theorem ij_19 : gi 0 (n, w, imr c U f) (c + 19) = some (8, U 19) := by simp [gi, jf_19]
theorem sj : mt_is (n, w, imr c U f) 9 c = true := by simp [mt_is, jf_0]
end LZ
