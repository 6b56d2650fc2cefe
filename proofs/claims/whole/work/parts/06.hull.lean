/-! what the hull says -/
def zCr (U V : Int → Int) (a b : Int) : Int := U a * V b - U b * V a
def zDo (U V : Int → Int) (a b : Int) : Int := U a * U b + V a * V b
def zPt (U V H : Int → Int) (a : Int) : Prop := U a = 0 ∧ V a = 0 ∧ H a ≤ 0
def zSg (U V H : Int → Int) (a b : Int) : Prop := zCr U V a b = 0 ∧ zDo U V a b ≤ 0 ∧ 0 < zDo U V b b - zDo U V a b + (zDo U V a a - zDo U V a b) ∧ (zDo U V b b - zDo U V a b) * H a + (zDo U V a a - zDo U V a b) * H b ≤ 0
def zTr (U V H : Int → Int) (t a b c : Int) : Prop := ¬ zCr U V b c + zCr U V c a + zCr U V a b = 0 ∧ 0 ≤ t * zCr U V b c ∧ 0 ≤ t * zCr U V c a ∧ 0 ≤ t * zCr U V a b ∧ t * (zCr U V b c * H a + zCr U V c a * H b + zCr U V a b * H c) ≤ 0
def zTn (U V : Int → Int) (a b c : Int) : Int := if zCr U V b c + zCr U V c a + zCr U V a b < 0 then -1 else 1
def zT3 (U V H : Int → Int) (a b c : Int) : Prop := zTr U V H (zTn U V a b c) a b c
def zTs (U V H : Int → Int) (N k a b : Int) : Prop := ∃ c : Int, b < c ∧ c < N ∧ ¬ c = k ∧ zT3 U V H a b c
def zAn (U V H : Int → Int) (N k a : Int) : Prop := ∃ b : Int, a < b ∧ b < N ∧ ¬ b = k ∧ (zSg U V H a b ∨ zTs U V H N k a b)
def zAb (U V H : Int → Int) (N k : Int) : Prop := ∃ a : Int, 0 ≤ a ∧ a < N ∧ ¬ a = k ∧ (zPt U V H a ∨ zAn U V H N k a)
def zHb (U V H : Int → Int) (N : Int) : Prop := ∀ i : Int, 0 ≤ i → i < N → (-40 ≤ U i ∧ U i ≤ 40) ∧ (-40 ≤ V i ∧ V i ≤ 40) ∧ (-5198 ≤ H i ∧ H i ≤ 5198)
theorem zCr_rg {U V H : Int → Int} {N a b : Int} (h : zHb U V H N) (ha : 0 ≤ a ∧ a < N) (hb : 0 ≤ b ∧ b < N) : -3200 ≤ zCr U V a b ∧ zCr U V a b ≤ 3200 := by
  have h1 := h a ha.1 ha.2
  have h2 := h b hb.1 hb.2
  have m1 := zm_le h1.1 h2.2.1
  have m2 := zm_le h2.1 h1.2.1
  unfold zCr
  omega
theorem zDo_rg {U V H : Int → Int} {N a b : Int} (h : zHb U V H N) (ha : 0 ≤ a ∧ a < N) (hb : 0 ≤ b ∧ b < N) : -3200 ≤ zDo U V a b ∧ zDo U V a b ≤ 3200 := by
  have h1 := h a ha.1 ha.2
  have h2 := h b hb.1 hb.2
  have m1 := zm_le h1.1 h2.1
  have m2 := zm_le h1.2.1 h2.2.1
  unfold zDo
  omega
/-- none of those so far, and not this one -/
theorem zfa_st {L P : Int → Prop} {i k : Int} (h : ∀ a : Int, L a → a < i → ¬ a = k → ¬ P a) (hi : i = k ∨ ¬ P i) : ∀ a : Int, L a → a < i + 1 → ¬ a = k → ¬ P a := by
  intro a h0 h1 h2
  by_cases e : a = i
  · subst e
    rcases hi with hi | hi
    · exact absurd hi h2
    · exact hi
  · exact h a h0 (by omega) h2
theorem zTn_ne (U V : Int → Int) (a b c : Int) : zTn U V a b c = -1 ∨ zTn U V a b c = 1 := by
  unfold zTn
  split
  · exact Or.inl rfl
  · exact Or.inr rfl
theorem zHb_of {X Y W U V H : Int → Int} {N k : Int} (hB : zBd X Y W) (h : ∀ i : Int, 0 ≤ i → i < N → U i = X i - X k ∧ V i = Y i - Y k ∧ H i = zHt X Y W i - zHt X Y W k) : zHb U V H N := by
  intro i h0 h1
  obtain ⟨e1, e2, e3⟩ := h i h0 h1
  have a1 := hB.1 i
  have a2 := hB.1 k
  have a3 := hB.2.1 i
  have a4 := hB.2.1 k
  have a5 := zHt_rg hB i
  have a6 := zHt_rg hB k
  rw [e1, e2, e3]
  omega
