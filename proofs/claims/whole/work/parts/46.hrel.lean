/-! HIDDEN: the hull's answer is the reference's -/
theorem zi_1 (ua va ub vb : Int) : (ub - ua) * (-va) - (vb - va) * (-ua) = ua * vb - ub * va := by
  rw [Int.mul_neg, Int.mul_neg, Int.sub_mul, Int.sub_mul]
  have h1 := Int.mul_comm vb ua
  have h2 := Int.mul_comm va ua
  omega
theorem zi_2 (ua va ub vb : Int) : (ub - ua) * (ub - ua) + (vb - va) * (vb - va) = ub * ub + vb * vb - (ua * ub + va * vb) + (ua * ua + va * va - (ua * ub + va * vb)) := by
  simp only [Int.sub_mul, Int.mul_sub]
  have h1 := Int.mul_comm ub ua
  have h2 := Int.mul_comm vb va
  omega
theorem zi_3 (ua va ub vb : Int) : (-ua) * (ub - ua) + (-va) * (vb - va) = ua * ua + va * va - (ua * ub + va * vb) := by
  simp only [Int.neg_mul, Int.mul_sub]
  omega
theorem zi_4 (ua va ub vb uc vc : Int) : (ub - ua) * (vc - va) - (vb - va) * (uc - ua) = ub * vc - uc * vb + (uc * va - ua * vc) + (ua * vb - ub * va) := by
  simp only [Int.sub_mul, Int.mul_sub]
  have h1 := Int.mul_comm vb uc
  have h2 := Int.mul_comm va uc
  have h3 := Int.mul_comm vb ua
  have h4 := Int.mul_comm va ua
  omega
theorem zi_5 (ua va ub vb : Int) : (ua * ub + va * vb) * (ua * ub + va * vb) + (ua * vb - ub * va) * (ua * vb - ub * va) = (ua * ua + va * va) * (ub * ub + vb * vb) := by
  simp only [Int.add_mul, Int.mul_add, Int.sub_mul, Int.mul_sub, Int.mul_comm, Int.mul_left_comm, Int.mul_assoc]
  omega
theorem zi_6 {p a b : Int} (h : p * p = a * b) (h1 : p ≤ a) (h2 : p ≤ b) (hp : 0 < p) : a = p ∧ b = p := by
  have q1 : p * p ≤ p * b := Int.mul_le_mul_of_nonneg_left h2 (by omega)
  have q2 : p * b ≤ a * b := Int.mul_le_mul_of_nonneg_right h1 (by omega)
  have e1 : p * b = p * p := by omega
  have e2 : a * b = p * b := by omega
  have b1 : b = p := Int.eq_of_mul_eq_mul_left (by omega) e1
  have b2 : a = p := Int.eq_of_mul_eq_mul_right (show b ≠ 0 by omega) e2
  exact ⟨b2, b1⟩
def zRel (X Y W U V H : Int → Int) (k i : Int) : Prop := U i = X i - X k ∧ V i = Y i - Y k ∧ H i = zHt X Y W i - zHt X Y W k
theorem zHr_p {X Y W U V H : Int → Int} {k a : Int} (h : zRel X Y W U V H k a) : zPt U V H a ↔ zOp X Y W k a a := by
  obtain ⟨e1, e2, e3⟩ := h
  have z : zAl X Y a a = 0 := by
    unfold zAl
    rw [Int.sub_self, Int.sub_self]
    rfl
  unfold zPt zOp
  constructor
  · intro p
    exact Or.inl ⟨z, by omega, by omega, by omega⟩
  · intro p
    rcases p with p | p
    · omega
    · exact absurd z p.1
theorem zHr_a {X Y W U V H : Int → Int} {k a b : Int} (ha : zRel X Y W U V H k a) (hb : zRel X Y W U V H k b) : zCx X Y a b k = zCr U V a b ∧ zAl X Y a b = zDo U V b b - zDo U V a b + (zDo U V a a - zDo U V a b) ∧ zPa X Y k a b = zDo U V a a - zDo U V a b ∧ zCx X Y k a b = zCr U V a b := by
  obtain ⟨e1, e2, -⟩ := ha
  obtain ⟨f1, f2, -⟩ := hb
  have x1 : X b - X a = U b - U a := by omega
  have x2 : Y b - Y a = V b - V a := by omega
  have x3 : X k - X a = -U a := by omega
  have x4 : Y k - Y a = -V a := by omega
  refine ⟨?_, ?_, ?_, ?_⟩
  · unfold zCx zCr
    rw [x1, x2, x3, x4]
    exact zi_1 _ _ _ _
  · unfold zAl zDo
    rw [x1, x2]
    exact zi_2 _ _ _ _
  · unfold zPa zDo
    rw [x1, x2, x3, x4]
    exact zi_3 _ _ _ _
  · unfold zCx zCr
    rw [← e1, ← e2, ← f1, ← f2, Int.mul_comm (V a)]
theorem zHr_t {X Y W U V H : Int → Int} {k a b c : Int} (ha : zRel X Y W U V H k a) (hb : zRel X Y W U V H k b) (hc : zRel X Y W U V H k c) : zCx X Y a b c = zCr U V b c + zCr U V c a + zCr U V a b := by
  obtain ⟨e1, e2, -⟩ := ha
  obtain ⟨f1, f2, -⟩ := hb
  obtain ⟨g1, g2, -⟩ := hc
  unfold zCx zCr
  rw [show X b - X a = U b - U a by omega, show Y b - Y a = V b - V a by omega, show X c - X a = U c - U a by omega, show Y c - Y a = V c - V a by omega]
  exact zi_4 _ _ _ _ _ _
theorem zDo_ge (U V : Int → Int) (a : Int) : 0 ≤ zDo U V a a := by
  have h1 := zs_ge (U a)
  have h2 := zs_ge (V a)
  unfold zDo
  omega
/-- straight between two -/
theorem zHr_s {X Y W U V H : Int → Int} {k a b : Int} (ha : zRel X Y W U V H k a) (hb : zRel X Y W U V H k b) (hn : ¬ zAl X Y a b = 0) : zSg U V H a b ↔ zOp X Y W k a b := by
  obtain ⟨i1, i2, i3, -⟩ := zHr_a ha hb
  have p1 := zDo_ge U V a
  have p2 := zDo_ge U V b
  have hl : zDo U V a b * zDo U V a b + zCr U V a b * zCr U V a b = zDo U V a a * zDo U V b b := zi_5 (U a) (V a) (U b) (V b)
  have ea := ha.2.2
  have eb := hb.2.2
  have m1 : (zDo U V b b - zDo U V a b) * H a = (zDo U V b b - zDo U V a b) * zHt X Y W a - (zDo U V b b - zDo U V a b) * zHt X Y W k := by rw [ea, Int.mul_sub]
  have m2 : (zDo U V a a - zDo U V a b) * H b = (zDo U V a a - zDo U V a b) * zHt X Y W b - (zDo U V a a - zDo U V a b) * zHt X Y W k := by rw [eb, Int.mul_sub]
  have m3 : zHt X Y W a * (zAl X Y a b - zPa X Y k a b) = (zDo U V b b - zDo U V a b) * zHt X Y W a := by
    rw [i2, i3, Int.mul_comm]
    congr 1
    omega
  have m4 : zHt X Y W b * zPa X Y k a b = (zDo U V a a - zDo U V a b) * zHt X Y W b := by rw [i3, Int.mul_comm]
  have m5 : zHt X Y W k * zAl X Y a b = (zDo U V b b - zDo U V a b) * zHt X Y W k + (zDo U V a a - zDo U V a b) * zHt X Y W k := by rw [i2, Int.mul_comm, Int.add_mul]
  unfold zSg zOp
  constructor
  · rintro ⟨h1, h2, h3, h4⟩
    refine Or.inr ⟨hn, by rw [i1]; exact h1, by omega, by omega, by omega⟩
  · intro h
    rcases h with h | h
    · exact absurd h.1 hn
    · obtain ⟨-, h2, h3, h4, h5⟩ := h
      rw [i1] at h2
      refine ⟨h2, ?_, by omega, by omega⟩
      rw [h2, Int.mul_zero] at hl
      by_cases z : zDo U V a b ≤ 0
      · exact z
      · have q := zi_6 (p := zDo U V a b) (a := zDo U V a a) (b := zDo U V b b) (by omega) (by omega) (by omega) (by omega)
        omega
theorem zHr_3 {X Y W U V H : Int → Int} {k a b c : Int} (ha : zRel X Y W U V H k a) (hb : zRel X Y W U V H k b) (hc : zRel X Y W U V H k c) : zT3 U V H a b c ↔ zOt X Y W k a b c := by
  have s := zHr_t ha hb hc
  have i1 := (zHr_a hb hc).2.2.2
  have i2 := (zHr_a hc ha).2.2.2
  have i3 := (zHr_a ha hb).2.2.2
  have et : zTs2 X Y a b c = zTn U V a b c := by
    unfold zTs2 zTn
    rw [s]
  have m1 : zCr U V b c * H a = zCr U V b c * zHt X Y W a - zCr U V b c * zHt X Y W k := by rw [ha.2.2, Int.mul_sub]
  have m2 : zCr U V c a * H b = zCr U V c a * zHt X Y W b - zCr U V c a * zHt X Y W k := by rw [hb.2.2, Int.mul_sub]
  have m3 : zCr U V a b * H c = zCr U V a b * zHt X Y W c - zCr U V a b * zHt X Y W k := by rw [hc.2.2, Int.mul_sub]
  have m4 : zHt X Y W k * (zCr U V b c + zCr U V c a + zCr U V a b) = zCr U V b c * zHt X Y W k + zCr U V c a * zHt X Y W k + zCr U V a b * zHt X Y W k := by
    rw [Int.mul_comm, Int.add_mul, Int.add_mul]
  unfold zT3 zOt zTr zOtt
  rw [et, s, i1, i2, i3, m4]
  rcases zTn_ne U V a b c with t | t <;> rw [t] <;> simp only [Int.neg_one_mul, Int.one_mul, Int.mul_neg, Int.mul_one] <;> constructor <;> rintro ⟨h1, h2, h3, h4, h5⟩ <;> exact ⟨h1, by omega, by omega, by omega, by omega⟩
theorem zAl_0 {X Y : Int → Int} {a b : Int} (h : zAl X Y a b = 0) : X b = X a ∧ Y b = Y a := by
  have s1 := zs_ge (X b - X a)
  have s2 := zs_ge (Y b - Y a)
  unfold zAl at h
  have z1 : (X b - X a) * (X b - X a) = 0 := by omega
  have z2 : (Y b - Y a) * (Y b - Y a) = 0 := by omega
  have w1 := Int.mul_eq_zero.1 z1
  have w2 := Int.mul_eq_zero.1 z2
  omega
theorem zAb_ho {X Y W U V H : Int → Int} {N k : Int} (h : ∀ i : Int, 0 ≤ i → i < N → zRel X Y W U V H k i) : zAb U V H N k ↔ zHo X Y W N k N := by
  constructor
  · rintro ⟨a, a0, aN, ak, ha⟩
    have ra := h a a0 aN
    rcases ha with ha | ⟨b, ab, bN, bk, hb⟩
    · exact ⟨a, a, a0, aN, by omega, aN, ak, ak, Or.inl ((zHr_p ra).1 ha)⟩
    · have rb := h b (by omega) bN
      rcases hb with hb | ⟨c, bc, cN, ck, hc⟩
      · refine ⟨a, b, a0, aN, by omega, bN, ak, bk, Or.inl ((zHr_s ra rb ?_).1 hb)⟩
        rw [(zHr_a ra rb).2.1]
        have := hb.2.2.1
        omega
      · exact ⟨a, b, a0, aN, by omega, bN, ak, bk, Or.inr ⟨by omega, c, bc, cN, ck, (zHr_3 ra rb (h c (by omega) cN)).1 hc⟩⟩
  · rintro ⟨a, b, a0, aN, ab, bN, ak, bk, hq⟩
    have ra := h a a0 aN
    have rb := h b (by omega) bN
    rcases hq with hq | ⟨hab, c, bc, cN, ck, hc⟩
    · by_cases z : zAl X Y a b = 0
      · rcases hq with hq | hq
        · obtain ⟨-, q1, q2, q3⟩ := hq
          have w := zAl_0 z
          rcases q3 with q3 | q3
          · refine ⟨a, a0, aN, ak, Or.inl ?_⟩
            unfold zPt
            have := ra.1
            have := ra.2.1
            have := ra.2.2
            omega
          · refine ⟨b, by omega, bN, bk, Or.inl ?_⟩
            unfold zPt
            have := rb.1
            have := rb.2.1
            have := rb.2.2
            omega
        · exact absurd z hq.1
      · have hne : ¬ a = b := by
          intro e
          subst e
          apply z
          unfold zAl
          rw [Int.sub_self, Int.sub_self]
          rfl
        exact ⟨a, a0, aN, ak, Or.inr ⟨b, by omega, bN, bk, Or.inl ((zHr_s ra rb z).2 hq)⟩⟩
    · exact ⟨a, a0, aN, ak, Or.inr ⟨b, by omega, bN, bk, Or.inr ⟨c, bc, cN, ck, (zHr_3 ra rb (h c (by omega) cN)).2 hc⟩⟩⟩
