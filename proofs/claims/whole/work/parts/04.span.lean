/-! a row's span, site by site -/
theorem zPw_lin (X Y W : Int → Int) (i s x y : Int) : zPw X Y W i x y - zPw X Y W s x y = zPw X Y W i 0 y - zPw X Y W s 0 y - 2 * (X i - X s) * x := by
  unfold zPw
  simp only [Int.sub_mul, Int.mul_sub, Int.zero_sub, Int.neg_mul, Int.mul_neg, Int.zero_mul, Int.mul_assoc, Int.mul_comm x]
  omega
theorem zBt_s {X Y W : Int → Int} {s y i x : Int} (h : 0 ≤ i) : zBt X Y W s y (i + 1) x ↔ zBt X Y W s y i x ∧ 2 * (X i - X s) * x ≤ zPw X Y W i 0 y - zPw X Y W s 0 y - bI (i < s) := by
  have hl := zPw_lin X Y W i s x y
  have hb : bI (i < s) = 1 ∧ i < s ∨ bI (i < s) = 0 ∧ s ≤ i := by
    by_cases z : i < s
    · exact Or.inl ⟨bI_t z, z⟩
    · exact Or.inr ⟨bI_f z, by omega⟩
  constructor
  · intro hz
    have h1 := hz i h (by omega)
    exact ⟨fun k h0 hk => hz k h0 (by omega), by omega⟩
  · rintro ⟨hz, h1⟩ k h0 hk
    by_cases e : k = i
    · subst e
      omega
    · exact hz k h0 (by omega)
theorem zdv {r c : Int} (hc : 0 < c) : (0 ≤ r → 0 ≤ r / c ∧ r / c ≤ r) ∧ (r < 0 → r ≤ r / c ∧ r / c < 0) := by
  refine ⟨fun h => ⟨Int.ediv_nonneg h (by omega), Int.ediv_le_self c h⟩, fun h => ⟨?_, Int.ediv_neg_of_neg_of_pos h hc⟩⟩
  rw [Int.le_ediv_iff_mul_le hc]
  have : r * c ≤ r * 1 := Int.mul_le_mul_of_nonpos_left (by omega) (by omega)
  omega
theorem zSpan_0 (X Y W : Int → Int) (s y : Int) : zSpan X Y W s y 0 0 40 := ⟨by omega, by omega, by omega, by omega, fun x h0 h1 => ⟨fun _ k a b => absurd a (by omega), fun _ => ⟨h0, h1⟩⟩⟩
theorem zSpan_p {X Y W : Int → Int} {s y i f l r c : Int} (h : zSpan X Y W s y i f l) (hi : 0 ≤ i) (er : r = zPw X Y W i 0 y - zPw X Y W s 0 y - bI (i < s)) (ec : c = 2 * (X i - X s)) (hr : -6000 ≤ r ∧ r ≤ 6000) (hc : 0 < c) : zSpan X Y W s y (i + 1) f (min l (r / c)) := by
  obtain ⟨h1, h2, h3, h4, h5⟩ := h
  have hd := zdv (r := r) hc
  refine ⟨h1, h2, by omega, by omega, fun x h0 h9 => ?_⟩
  have e : x ≤ r / c ↔ x * c ≤ r := Int.le_ediv_iff_mul_le hc
  rw [zBt_s hi, ← h5 x h0 h9, ← er, ← ec, Int.mul_comm c x, ← e]
  omega
theorem zSpan_n {X Y W : Int → Int} {s y i f l r c : Int} (h : zSpan X Y W s y i f l) (hi : 0 ≤ i) (er : r = zPw X Y W i 0 y - zPw X Y W s 0 y - bI (i < s)) (ec : c = 2 * (X i - X s)) (hr : -6000 ≤ r ∧ r ≤ 6000) (hc : c < 0) : zSpan X Y W s y (i + 1) (max f (-(r / (-c)))) l := by
  obtain ⟨h1, h2, h3, h4, h5⟩ := h
  have hd := zdv (r := r) (c := -c) (by omega)
  refine ⟨by omega, by omega, by omega, by omega, fun x h0 h9 => ?_⟩
  have e : -x ≤ r / (-c) ↔ (-x) * (-c) ≤ r := Int.le_ediv_iff_mul_le (by omega)
  rw [Int.neg_mul_neg] at e
  rw [zBt_s hi, ← h5 x h0 h9, ← er, ← ec, Int.mul_comm c x, ← e]
  omega
theorem zSpan_z {X Y W : Int → Int} {s y i f l r c : Int} (h : zSpan X Y W s y i f l) (hi : 0 ≤ i) (er : r = zPw X Y W i 0 y - zPw X Y W s 0 y - bI (i < s)) (ec : c = 2 * (X i - X s)) (hc : c = 0) : (r < 0 → zSpan X Y W s y (i + 1) f (-1)) ∧ (0 ≤ r → zSpan X Y W s y (i + 1) f l) := by
  obtain ⟨h1, h2, h3, h4, h5⟩ := h
  refine ⟨fun hr => ⟨h1, h2, by omega, by omega, fun x h0 h9 => ?_⟩, fun hr => ⟨h1, h2, h3, h4, fun x h0 h9 => ?_⟩⟩
  · rw [zBt_s hi, ← er, ← ec, hc, Int.zero_mul]
    omega
  · rw [zBt_s hi, ← er, ← ec, hc, Int.zero_mul, ← h5 x h0 h9]
    omega
