/-! HIDDEN by pairs and triangles, as the reference has it; it is the hull's -/
def zCx (X Y : Int → Int) (a b c : Int) : Int := (X b - X a) * (Y c - Y a) - (Y b - Y a) * (X c - X a)
def zAl (X Y : Int → Int) (a b : Int) : Int := (X b - X a) * (X b - X a) + (Y b - Y a) * (Y b - Y a)
def zPa (X Y : Int → Int) (s a b : Int) : Int := (X s - X a) * (X b - X a) + (Y s - Y a) * (Y b - Y a)
def zOp (X Y W : Int → Int) (s a b : Int) : Prop := (zAl X Y a b = 0 ∧ X s = X a ∧ Y s = Y a ∧ (zHt X Y W a ≤ zHt X Y W s ∨ zHt X Y W b ≤ zHt X Y W s)) ∨ (¬ zAl X Y a b = 0 ∧ zCx X Y a b s = 0 ∧ 0 ≤ zPa X Y s a b ∧ zPa X Y s a b ≤ zAl X Y a b ∧ zHt X Y W a * (zAl X Y a b - zPa X Y s a b) + zHt X Y W b * zPa X Y s a b ≤ zHt X Y W s * zAl X Y a b)
def zTs2 (X Y : Int → Int) (a b c : Int) : Int := if zCx X Y a b c < 0 then -1 else 1
def zOtt (X Y W : Int → Int) (t s a b c : Int) : Prop := ¬ zCx X Y a b c = 0 ∧ 0 ≤ zCx X Y s b c * t ∧ 0 ≤ zCx X Y s c a * t ∧ 0 ≤ zCx X Y s a b * t ∧ (zCx X Y s b c * zHt X Y W a + zCx X Y s c a * zHt X Y W b + zCx X Y s a b * zHt X Y W c) * t ≤ zHt X Y W s * zCx X Y a b c * t
def zOt (X Y W : Int → Int) (s a b c : Int) : Prop := zOtt X Y W (zTs2 X Y a b c) s a b c
def zQo (X Y W : Int → Int) (N s a b : Int) : Prop := zOp X Y W s a b ∨ (¬ a = b ∧ ∃ c : Int, b < c ∧ c < N ∧ ¬ c = s ∧ zOt X Y W s a b c)
def zHo (X Y W : Int → Int) (N s i : Int) : Prop := ∃ a b : Int, 0 ≤ a ∧ a < i ∧ a ≤ b ∧ b < N ∧ ¬ a = s ∧ ¬ b = s ∧ zQo X Y W N s a b
def zHm (X Y W : Int → Int) (N s i j : Int) : Prop := zHo X Y W N s i ∨ ∃ b : Int, i ≤ b ∧ b < j ∧ ¬ i = s ∧ ¬ b = s ∧ zQo X Y W N s i b
def zHi (X Y W : Int → Int) (N s i j m : Int) : Prop := zHm X Y W N s i j ∨ (¬ i = s ∧ ¬ j = s ∧ (zOp X Y W s i j ∨ (¬ i = j ∧ ∃ c : Int, j < c ∧ c < m ∧ ¬ c = s ∧ zOt X Y W s i j c)))
theorem zCx_rg {X Y W : Int → Int} (h : zBd X Y W) (a b c : Int) : -3200 ≤ zCx X Y a b c ∧ zCx X Y a b c ≤ 3200 := by
  have h1 := h.1 a
  have h2 := h.1 b
  have h3 := h.1 c
  have h4 := h.2.1 a
  have h5 := h.2.1 b
  have h6 := h.2.1 c
  have m1 := zm_le (a := X b - X a) (b := Y c - Y a) (A := 40) (B := 40) (by omega) (by omega)
  have m2 := zm_le (a := Y b - Y a) (b := X c - X a) (A := 40) (B := 40) (by omega) (by omega)
  unfold zCx
  omega
theorem zAl_rg {X Y W : Int → Int} (h : zBd X Y W) (a b : Int) : 0 ≤ zAl X Y a b ∧ zAl X Y a b ≤ 3200 := by
  have h1 := h.1 a
  have h2 := h.1 b
  have h4 := h.2.1 a
  have h5 := h.2.1 b
  have m1 := zm_le (a := X b - X a) (b := X b - X a) (A := 40) (B := 40) (by omega) (by omega)
  have m2 := zm_le (a := Y b - Y a) (b := Y b - Y a) (A := 40) (B := 40) (by omega) (by omega)
  have s1 := zs_ge (X b - X a)
  have s2 := zs_ge (Y b - Y a)
  unfold zAl
  omega
theorem zPa_rg {X Y W : Int → Int} (h : zBd X Y W) (s a b : Int) : -3200 ≤ zPa X Y s a b ∧ zPa X Y s a b ≤ 3200 := by
  have h1 := h.1 a
  have h2 := h.1 b
  have h3 := h.1 s
  have h4 := h.2.1 a
  have h5 := h.2.1 b
  have h6 := h.2.1 s
  have m1 := zm_le (a := X s - X a) (b := X b - X a) (A := 40) (B := 40) (by omega) (by omega)
  have m2 := zm_le (a := Y s - Y a) (b := Y b - Y a) (A := 40) (B := 40) (by omega) (by omega)
  unfold zPa
  omega
theorem zTs2_ne (X Y : Int → Int) (a b c : Int) : zTs2 X Y a b c = -1 ∨ zTs2 X Y a b c = 1 := by
  unfold zTs2
  split
  · exact Or.inl rfl
  · exact Or.inr rfl
theorem zor_1 {v : Int} {P R : Prop} (e : v = bI P) (h : ¬ v = 0) : 1 = bI (P ∨ R) := by
  by_cases p : P
  · exact (bI_t (Or.inl p)).symm
  · rw [bI_f p] at e
    exact absurd e h
theorem zor_2 {P R : Prop} (h : R) : 1 = bI (P ∨ R) := (bI_t (Or.inr h)).symm
theorem zor_0 {v : Int} {P R : Prop} (e : v = bI P) (h : v = 0) (r : ¬ R) : 0 = bI (P ∨ R) := by
  have hp : ¬ P := fun p => by rw [bI_t p, h] at e; exact absurd e (by decide)
  exact (bI_f (fun z => z.elim hp r)).symm
theorem zHi_s {X Y W : Int → Int} {N s i j m : Int} (hm : j < m) : zHi X Y W N s i j (m + 1) ↔ zHi X Y W N s i j m ∨ (¬ i = s ∧ ¬ j = s ∧ ¬ m = s ∧ ¬ i = j ∧ zOt X Y W s i j m) := by
  constructor
  · rintro (h | ⟨h1, h2, h | ⟨h3, c, c1, c2, c3, c4⟩⟩)
    · exact Or.inl (Or.inl h)
    · exact Or.inl (Or.inr ⟨h1, h2, Or.inl h⟩)
    · by_cases e : c = m
      · subst e
        exact Or.inr ⟨h1, h2, c3, h3, c4⟩
      · exact Or.inl (Or.inr ⟨h1, h2, Or.inr ⟨h3, c, c1, by omega, c3, c4⟩⟩)
  · rintro ((h | ⟨h1, h2, h | ⟨h3, c, c1, c2, c3, c4⟩⟩) | ⟨h1, h2, h3, h4, h5⟩)
    · exact Or.inl h
    · exact Or.inr ⟨h1, h2, Or.inl h⟩
    · exact Or.inr ⟨h1, h2, Or.inr ⟨h3, c, c1, by omega, c3, c4⟩⟩
    · exact Or.inr ⟨h1, h2, Or.inr ⟨h4, m, hm, by omega, h3, h5⟩⟩
theorem zHi_0 {X Y W : Int → Int} {N s i j : Int} : zHi X Y W N s i j (j + 1) ↔ zHm X Y W N s i j ∨ (¬ i = s ∧ ¬ j = s ∧ zOp X Y W s i j) := by
  constructor
  · rintro (h | ⟨h1, h2, h | ⟨h3, c, c1, c2, c3, c4⟩⟩)
    · exact Or.inl h
    · exact Or.inr ⟨h1, h2, h⟩
    · omega
  · rintro (h | ⟨h1, h2, h⟩)
    · exact Or.inl h
    · exact Or.inr ⟨h1, h2, Or.inl h⟩
theorem zHm_s {X Y W : Int → Int} {N s i j : Int} (hj : i ≤ j) : zHm X Y W N s i (j + 1) ↔ zHi X Y W N s i j N := by
  constructor
  · rintro (h | ⟨b, b1, b2, b3, b4, b5⟩)
    · exact Or.inl (Or.inl h)
    · by_cases e : b = j
      · subst e
        exact Or.inr ⟨b3, b4, b5⟩
      · exact Or.inl (Or.inr ⟨b, b1, by omega, b3, b4, b5⟩)
  · rintro ((h | ⟨b, b1, b2, b3, b4, b5⟩) | ⟨h1, h2, h3⟩)
    · exact Or.inl h
    · exact Or.inr ⟨b, b1, by omega, b3, b4, b5⟩
    · exact Or.inr ⟨j, hj, by omega, h1, h2, h3⟩
theorem zHm_0 {X Y W : Int → Int} {N s i : Int} : zHm X Y W N s i i ↔ zHo X Y W N s i := by
  constructor
  · rintro (h | ⟨b, b1, b2, -⟩)
    · exact h
    · omega
  · exact Or.inl
theorem zHo_s {X Y W : Int → Int} {N s i : Int} (hi : 0 ≤ i) : zHo X Y W N s (i + 1) ↔ zHm X Y W N s i N := by
  constructor
  · rintro ⟨a, b, h1, h2, h3, h4, h5, h6, h7⟩
    by_cases e : a = i
    · subst e
      exact Or.inr ⟨b, h3, h4, h5, h6, h7⟩
    · exact Or.inl ⟨a, b, h1, by omega, h3, h4, h5, h6, h7⟩
  · rintro (⟨a, b, h1, h2, h3, h4, h5, h6, h7⟩ | ⟨b, h3, h4, h5, h6, h7⟩)
    · exact ⟨a, b, h1, by omega, h3, h4, h5, h6, h7⟩
    · exact ⟨i, b, hi, by omega, h3, h4, h5, h6, h7⟩
theorem zHo_0 {X Y W : Int → Int} {N s : Int} : ¬ zHo X Y W N s 0 := by
  rintro ⟨a, b, h1, h2, -⟩
  omega
