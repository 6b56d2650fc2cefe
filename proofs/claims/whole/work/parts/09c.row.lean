/-! arguments of balancing; a row's first or last point -/
theorem zMs_rg (bs tm N : Int) : -2147483648 ≤ zMs bs tm N ∧ zMs bs tm N ≤ 2147483647 := by
  unfold zMs
  split
  · omega
  · split <;> omega
theorem zMs_x {bs tm N : Int} (h : ¬ 0 < zMs bs tm N) (hN : 0 ≤ N ∧ N ≤ 12) : (1 ≤ bs ∧ bs ≤ 999 ∧ 1 ≤ tm ∧ tm ≤ 20) ∧ 1 ≤ N := by
  unfold zMs at h
  by_cases c : ¬ (1 ≤ bs ∧ bs ≤ 999 ∧ 1 ≤ tm ∧ tm ≤ 20)
  · rw [if_pos c] at h
    omega
  · rw [if_neg c] at h
    by_cases d : N = 0
    · rw [if_pos d] at h
      omega
    · omega
theorem zMs_0 {bs tm N : Int} (h : zMs bs tm N ≤ 0) (hN : 0 ≤ N ∧ N ≤ 12) : 1 ≤ N ∧ N ≤ 12 := ⟨(zMs_x (show ¬ 0 < zMs bs tm N by omega) hN).2, hN.2⟩
theorem zMs_1 {bs tm N : Int} (h : zMs bs tm N ≤ 0) (hN : 0 ≤ N ∧ N ≤ 12) : 1 ≤ bs ∧ bs ≤ 999 := by
  have := (zMs_x (show ¬ 0 < zMs bs tm N by omega) hN).1
  omega
theorem zMs_2 {bs tm N : Int} (h : zMs bs tm N ≤ 0) (hN : 0 ≤ N ∧ N ≤ 12) : 1 ≤ tm ∧ tm ≤ 20 := by
  have := (zMs_x (show ¬ 0 < zMs bs tm N by omega) hN).1
  omega
theorem zMsP {bs tm N : Int} {X Y W1 : Int → Int} {R : Int × (Int → Int)} {W : Int → Int} (e : W1 = R.2) (b : zBd X Y W1) (h : zMs bs tm N ≤ 0) (hN : 0 ≤ N ∧ N ≤ 12) : ((1 ≤ bs ∧ bs ≤ 999 ∧ 1 ≤ tm ∧ tm ≤ 20) ∧ 1 ≤ N → zMs bs tm N = 0 ∧ W1 = R.2 ∧ zBd X Y W1 ∧ R.1 = R.1) ∧ ((1 ≤ bs ∧ bs ≤ 999 ∧ 1 ≤ tm ∧ tm ≤ 20) ∧ N = 0 → zMs bs tm N = 2 ∧ W1 = W) ∧ (¬ (1 ≤ bs ∧ bs ≤ 999 ∧ 1 ≤ tm ∧ tm ≤ 20) → zMs bs tm N = 1 ∧ W1 = W) := by
  have hx := zMs_x (show ¬ 0 < zMs bs tm N by omega) hN
  refine ⟨fun z => ⟨?_, e, b, rfl⟩, fun z => absurd hx.2 (by omega), fun z => absurd hx.1 z⟩
  unfold zMs
  rw [if_neg (by omega), if_neg (by omega)]
theorem zMsQ {bs tm N v : Int} {X Y : Int → Int} {R : Int × (Int → Int)} {W : Int → Int} (h : ¬ zMs bs tm N ≤ 0) (hN : 0 ≤ N ∧ N ≤ 12) : ((1 ≤ bs ∧ bs ≤ 999 ∧ 1 ≤ tm ∧ tm ≤ 20) ∧ 1 ≤ N → zMs bs tm N = 0 ∧ W = R.2 ∧ zBd X Y W ∧ v = R.1) ∧ ((1 ≤ bs ∧ bs ≤ 999 ∧ 1 ≤ tm ∧ tm ≤ 20) ∧ N = 0 → zMs bs tm N = 2 ∧ W = W) ∧ (¬ (1 ≤ bs ∧ bs ≤ 999 ∧ 1 ≤ tm ∧ tm ≤ 20) → zMs bs tm N = 1 ∧ W = W) := by
  refine ⟨fun z => ?_, fun z => ⟨?_, rfl⟩, fun z => ⟨?_, rfl⟩⟩
  · exfalso
    unfold zMs at h
    rw [if_neg (by omega), if_neg (by omega)] at h
    omega
  · unfold zMs
    rw [if_neg (by omega), if_pos z.2]
  · unfold zMs
    rw [if_pos z]
/-- of the first i points of a row: the first (w = 0) or the last that k owns -/
def zIr (X Y W : Int → Int) (N k y w i own : Int) : Prop := (own = -1 ∧ ∀ x : Int, 0 ≤ x → x < i → ¬ zOA X Y W x y N = k) ∨ (0 ≤ own ∧ own < i ∧ zOA X Y W own y N = k ∧ (w = 0 → ∀ x : Int, 0 ≤ x → x < own → ¬ zOA X Y W x y N = k) ∧ (¬ w = 0 → ∀ x : Int, own < x → x < i → ¬ zOA X Y W x y N = k))
theorem zIr_0 (X Y W : Int → Int) (N k y w : Int) : zIr X Y W N k y w 0 (-1) := Or.inl ⟨rfl, fun x a b => absurd a (by omega)⟩
theorem zIr_n {X Y W : Int → Int} {N k y w i own : Int} (hi : 0 ≤ i) (h : zIr X Y W N k y w i own) (c : ¬ zOA X Y W i y N = k) : zIr X Y W N k y w (i + 1) own := by
  rcases h with ⟨e, h⟩ | ⟨e0, e1, e2, e3, e4⟩
  · refine Or.inl ⟨e, fun x a b => ?_⟩
    by_cases z : x = i
    · subst z; exact c
    · exact h x a (by omega)
  · refine Or.inr ⟨e0, by omega, e2, e3, fun w x a b => ?_⟩
    by_cases z : x = i
    · subst z; exact c
    · exact e4 w x a (by omega)
theorem zIr_l {X Y W : Int → Int} {N k y w i own : Int} (hi : 0 ≤ i) (h : zIr X Y W N k y w i own) (c : zOA X Y W i y N = k) (hw : ¬ w = 0) : zIr X Y W N k y w (i + 1) i :=
  Or.inr ⟨hi, by omega, c, fun z => absurd z hw, fun _ x a b => absurd a (by omega)⟩
theorem zIr_f {X Y W : Int → Int} {N k y w i own : Int} (hi : 0 ≤ i) (h : zIr X Y W N k y w i own) (c : zOA X Y W i y N = k) (hw : w = 0) (ho : own = -1) : zIr X Y W N k y w (i + 1) i := by
  rcases h with ⟨e, h⟩ | ⟨e0, e1, e2, e3, e4⟩
  · exact Or.inr ⟨hi, by omega, c, fun _ => h, fun z => absurd hw z⟩
  · omega
theorem zIr_k {X Y W : Int → Int} {N k y w i own : Int} (hi : 0 ≤ i) (h : zIr X Y W N k y w i own) (c : zOA X Y W i y N = k) (hw : w = 0) (ho : ¬ own = -1) : zIr X Y W N k y w (i + 1) own := by
  rcases h with ⟨e, h⟩ | ⟨e0, e1, e2, e3, e4⟩
  · exact absurd e ho
  · exact Or.inr ⟨e0, by omega, e2, e3, fun z => absurd hw z⟩
/-- the span's answer is that one -/
theorem zIr_sp {X Y W : Int → Int} {N k y w f l v : Int} (hk : 0 ≤ k ∧ k < N) (hs : zSpan X Y W k y N f l) (h : zIr X Y W N k y w 41 v) : (if max 0 (l - f + 1) = 0 then -1 else if w = 0 then f else l) = v := by
  have key : ∀ x : Int, 0 ≤ x → x ≤ 40 → (f ≤ x ∧ x ≤ l ↔ zOA X Y W x y N = k) := fun x a b => by
    rw [zOA_iff X Y W x y hk]
    exact hs.2.2.2.2 x a b
  obtain ⟨s1, s2, s3, s4, -⟩ := hs
  rcases h with ⟨e, h⟩ | ⟨e0, e1, e2, e3, e4⟩
  · have hn : ¬ f ≤ l := fun z => h f s1 (by omega) ((key f s1 (by omega)).mp ⟨by omega, z⟩)
    rw [if_pos (by omega), e]
  · have h1 := (key v e0 (by omega)).mpr e2
    rw [if_neg (by omega)]
    by_cases hw : w = 0
    · rw [if_pos hw]
      have h2 := e3 hw
      by_cases z : f < v
      · exact absurd ((key f s1 (by omega)).mp ⟨by omega, by omega⟩) (h2 f s1 z)
      · omega
    · rw [if_neg hw]
      have h2 := e4 hw
      by_cases z : v < l
      · exact absurd ((key l (by omega) s4).mp ⟨by omega, by omega⟩) (h2 l z (by omega))
      · omega
theorem zMsW {bs tm N v R : Int} {W : Int → Int} (h : ¬ zMs bs tm N ≤ 0) (hN : 0 ≤ N ∧ N ≤ 12) : ((1 ≤ bs ∧ bs ≤ 999 ∧ 1 ≤ tm ∧ tm ≤ 20) ∧ 1 ≤ N → zMs bs tm N = 0 ∧ W = W ∧ v = R) ∧ ((1 ≤ bs ∧ bs ≤ 999 ∧ 1 ≤ tm ∧ tm ≤ 20) ∧ N = 0 → zMs bs tm N = 2 ∧ W = W) ∧ (¬ (1 ≤ bs ∧ bs ≤ 999 ∧ 1 ≤ tm ∧ tm ≤ 20) → zMs bs tm N = 1 ∧ W = W) := by
  refine ⟨fun z => ?_, fun z => ⟨?_, rfl⟩, fun z => ⟨?_, rfl⟩⟩
  · exfalso
    unfold zMs at h
    rw [if_neg (by omega), if_neg (by omega)] at h
    omega
  · unfold zMs
    rw [if_neg (by omega), if_pos z.2]
  · unfold zMs
    rw [if_pos z]
theorem zMsV {bs tm N v R : Int} {W W1 : Int → Int} (h : zMs bs tm N ≤ 0) (hN : 0 ≤ N ∧ N ≤ 12) (e : W1 = W) (ev : v = R) : ((1 ≤ bs ∧ bs ≤ 999 ∧ 1 ≤ tm ∧ tm ≤ 20) ∧ 1 ≤ N → zMs bs tm N = 0 ∧ W1 = W ∧ v = R) ∧ ((1 ≤ bs ∧ bs ≤ 999 ∧ 1 ≤ tm ∧ tm ≤ 20) ∧ N = 0 → zMs bs tm N = 2 ∧ W1 = W) ∧ (¬ (1 ≤ bs ∧ bs ≤ 999 ∧ 1 ≤ tm ∧ tm ≤ 20) → zMs bs tm N = 1 ∧ W1 = W) := by
  have hx := zMs_x (show ¬ 0 < zMs bs tm N by omega) hN
  refine ⟨fun z => ⟨?_, e, ev⟩, fun z => absurd hx.2 (by omega), fun z => absurd hx.1 z⟩
  unfold zMs
  rw [if_neg (by omega), if_neg (by omega)]
theorem zWs {Wz kz W0 : Int → Int} {j : Int} (h : 0 ≤ j) (k2 : ∀ s : Int, (0 ≤ s → s < j → Wz s = kz s) ∧ (¬ (0 ≤ s ∧ s < j) → Wz s = W0 s)) : ∀ s : Int, (0 ≤ s → s < j + 1 → zU Wz j (kz j) s = kz s) ∧ (¬ (0 ≤ s ∧ s < j + 1) → zU Wz j (kz j) s = W0 s) := by
  intro s
  unfold zU
  by_cases c : s = j
  · rw [if_pos c, c]
    exact ⟨fun _ _ => rfl, fun z => absurd ⟨h, by omega⟩ z⟩
  · rw [if_neg c]
    exact ⟨fun p q => (k2 s).1 p (by omega), fun z => (k2 s).2 (by omega)⟩
