/-! borders: the line, its cuts -/
def zUp (dy : Int) : Int := if dy = 0 then 1 else 0
def zRn (up dx dy : Int) : Int := if up = 0 then dx else dy
def zSd (up dx dy : Int) : Int := if up = 0 then dy else dx
def zTu (sd : Int) : Int := if sd < 0 then -1 else 1
def zK5 : Type := Int × Int × Int × Int × Int
/-- a cut: em, lt, lb, ht, hb -/
def zCut (sl rm em lt lb ht hb : Int) : Int × Int × Int × Int × Int :=
  if 0 < sl then (if ht * sl > rm * hb then (em, lt, lb, rm, sl) else (em, lt, lb, ht, hb))
  else if sl < 0 then (if lt * (-sl) < -rm * lb then (em, -rm, -sl, ht, hb) else (em, lt, lb, ht, hb))
  else if rm < 0 then (1, lt, lb, ht, hb) else (em, lt, lb, ht, hb)
def zFb (lt lb ht hb : Int) : Prop := (-415840 ≤ lt ∧ lt ≤ 415840) ∧ (0 < lb ∧ lb ≤ 6400) ∧ (-415840 ≤ ht ∧ ht ≤ 415840) ∧ 0 < hb ∧ hb ≤ 6400
def zLb (rf sf lv : Int) : Prop := (-40 ≤ rf ∧ rf ≤ 40) ∧ (-40 ≤ sf ∧ sf ≤ 40) ∧ -5198 ≤ lv ∧ lv ≤ 5198
def zSl (rf sf ra rb : Int) : Int := 2 * (ra * sf - rb * rf)
def zRm (sf lv rb m : Int) : Int := m * sf - rb * lv
theorem zSl_rg {rf sf lv ra rb : Int} (h : zLb rf sf lv) (ha : -40 ≤ ra ∧ ra ≤ 40) (hb : -40 ≤ rb ∧ rb ≤ 40) : -6400 ≤ zSl rf sf ra rb ∧ zSl rf sf ra rb ≤ 6400 := by
  have m1 := zm_le ha h.2.1
  have m2 := zm_le hb h.1
  unfold zSl
  omega
theorem zRm_rg {rf sf lv rb m : Int} (h : zLb rf sf lv) (hb : -40 ≤ rb ∧ rb ≤ 40) (hm : -5198 ≤ m ∧ m ≤ 5198) : -415840 ≤ zRm sf lv rb m ∧ zRm sf lv rb m ≤ 415840 := by
  have m1 := zm_le hm h.2.1
  have m2 := zm_le hb h.2.2
  unfold zRm
  omega
theorem zCut_fb {sl rm em lt lb ht hb : Int} (h : zFb lt lb ht hb) (hs : -6400 ≤ sl ∧ sl ≤ 6400) (hr : -415840 ≤ rm ∧ rm ≤ 415840) (he : 0 ≤ em ∧ em ≤ 1) : zFb (zCut sl rm em lt lb ht hb).2.1 (zCut sl rm em lt lb ht hb).2.2.1 (zCut sl rm em lt lb ht hb).2.2.2.1 (zCut sl rm em lt lb ht hb).2.2.2.2 ∧ 0 ≤ (zCut sl rm em lt lb ht hb).1 ∧ (zCut sl rm em lt lb ht hb).1 ≤ 1 := by
  obtain ⟨h1, h2, h3, h4⟩ := h
  unfold zCut zFb
  split
  · split <;> (dsimp only; omega)
  · split
    · split <;> (dsimp only; omega)
    · split <;> (dsimp only; omega)
def zGone (q : Int × Int × Int × Int × Int) : Prop := ¬ q.1 = 0 ∨ ¬ q.2.1 * q.2.2.2.2 < q.2.2.2.1 * q.2.2.1
/-- the box's two cuts -/
def zBox (rf sf lv : Int) : Int × Int × Int × Int × Int :=
  zCut (zSl rf sf 0 1) (zRm sf lv 1 80) (zCut (zSl rf sf 0 (-1)) (zRm sf lv (-1) 0) 0 0 1 40 1).1 (zCut (zSl rf sf 0 (-1)) (zRm sf lv (-1) 0) 0 0 1 40 1).2.1 (zCut (zSl rf sf 0 (-1)) (zRm sf lv (-1) 0) 0 0 1 40 1).2.2.1 (zCut (zSl rf sf 0 (-1)) (zRm sf lv (-1) 0) 0 0 1 40 1).2.2.2.1 (zCut (zSl rf sf 0 (-1)) (zRm sf lv (-1) 0) 0 0 1 40 1).2.2.2.2
/-- a site's cut -/
def zCs (X Y W : Int → Int) (up rf sf lv k t : Int) (q : Int × Int × Int × Int × Int) : Int × Int × Int × Int × Int :=
  zCut (zSl rf sf (zRn up (X t - X k) (Y t - Y k)) (zSd up (X t - X k) (Y t - Y k))) (zRm sf lv (zSd up (X t - X k) (Y t - Y k)) (zHt X Y W t - zHt X Y W k)) q.1 q.2.1 q.2.2.1 q.2.2.2.1 q.2.2.2.2
noncomputable def zTc (X Y W : Int → Int) (up rf sf lv k o : Int) : Nat → Int → Int × Int × Int × Int × Int → Int × (Int × Int × Int × Int × Int)
  | 0, _, q => (-1, q)
  | n + 1, i, q => @ite _ (i = k ∨ i = o) (Classical.propDecidable _) (zTc X Y W up rf sf lv k o n (i + 1) q) (@ite _ (zGone (zCs X Y W up rf sf lv k i q)) (Classical.propDecidable _) (i, zCs X Y W up rf sf lv k i q) (zTc X Y W up rf sf lv k o n (i + 1) (zCs X Y W up rf sf lv k i q)))
theorem zTc_k {X Y W : Int → Int} {up rf sf lv k o : Int} {n : Nat} {i : Int} {q : Int × Int × Int × Int × Int} (h : i = k ∨ i = o) : zTc X Y W up rf sf lv k o (n + 1) i q = zTc X Y W up rf sf lv k o n (i + 1) q := if_pos h
theorem zTc_g {X Y W : Int → Int} {up rf sf lv k o : Int} {n : Nat} {i : Int} {q : Int × Int × Int × Int × Int} (h : ¬ (i = k ∨ i = o)) (hg : zGone (zCs X Y W up rf sf lv k i q)) : zTc X Y W up rf sf lv k o (n + 1) i q = (i, zCs X Y W up rf sf lv k i q) := (if_neg h).trans (if_pos hg)
theorem zTc_n {X Y W : Int → Int} {up rf sf lv k o : Int} {n : Nat} {i : Int} {q : Int × Int × Int × Int × Int} (h : ¬ (i = k ∨ i = o)) (hg : ¬ zGone (zCs X Y W up rf sf lv k i q)) : zTc X Y W up rf sf lv k o (n + 1) i q = zTc X Y W up rf sf lv k o n (i + 1) (zCs X Y W up rf sf lv k i q) := (if_neg h).trans (if_neg hg)
theorem zRn_rg {up dx dy : Int} (hx : -40 ≤ dx ∧ dx ≤ 40) (hy : -40 ≤ dy ∧ dy ≤ 40) : -40 ≤ zRn up dx dy ∧ zRn up dx dy ≤ 40 := by
  unfold zRn
  split <;> omega
theorem zSd_rg {up dx dy : Int} (hx : -40 ≤ dx ∧ dx ≤ 40) (hy : -40 ≤ dy ∧ dy ≤ 40) : -40 ≤ zSd up dx dy ∧ zSd up dx dy ≤ 40 := by
  unfold zSd
  split <;> omega
/-- the line of two sites: up, rf, sf, lv -/
def zLay (X Y W : Int → Int) (k o up rf sf lv : Int) : Prop :=
  up = zUp (Y o - Y k) ∧ rf = zTu (zSd up (X o - X k) (Y o - Y k)) * zRn up (X o - X k) (Y o - Y k) ∧ sf = zTu (zSd up (X o - X k) (Y o - Y k)) * zSd up (X o - X k) (Y o - Y k) ∧ lv = zTu (zSd up (X o - X k) (Y o - Y k)) * (zHt X Y W o - zHt X Y W k)
theorem zTu_ne (sd : Int) : zTu sd = -1 ∧ sd < 0 ∨ zTu sd = 1 ∧ 0 ≤ sd := by
  unfold zTu
  split
  · exact Or.inl ⟨rfl, by omega⟩
  · exact Or.inr ⟨rfl, by omega⟩
theorem zLay_rg {X Y W : Int → Int} {k o up rf sf lv : Int} (hB : zBd X Y W) (h : zLay X Y W k o up rf sf lv) : zLb rf sf lv ∧ 0 ≤ up ∧ up ≤ 1 ∧ 0 ≤ sf ∧ (¬ (X k = X o ∧ Y k = Y o) → 0 < sf) := by
  obtain ⟨e1, e2, e3, e4⟩ := h
  have b1 := hB.1 k
  have b2 := hB.1 o
  have b3 := hB.2.1 k
  have b4 := hB.2.1 o
  have b5 := zHt_rg hB k
  have b6 := zHt_rg hB o
  have r1 := zRn_rg (up := up) (dx := X o - X k) (dy := Y o - Y k) (by omega) (by omega)
  have r2 := zSd_rg (up := up) (dx := X o - X k) (dy := Y o - Y k) (by omega) (by omega)
  have hu : (up = 1 ∧ Y o - Y k = 0) ∨ (up = 0 ∧ ¬ Y o - Y k = 0) := by
    rw [e1]
    unfold zUp
    split
    · exact Or.inl ⟨rfl, by assumption⟩
    · exact Or.inr ⟨rfl, by assumption⟩
  have hs : ¬ (X k = X o ∧ Y k = Y o) → ¬ zSd up (X o - X k) (Y o - Y k) = 0 := by
    intro hn
    rcases hu with ⟨u1, u2⟩ | ⟨u1, u2⟩
    · rw [u1]
      show ¬ (X o - X k) = 0
      omega
    · rw [u1]
      exact u2
  unfold zLb
  rcases zTu_ne (zSd up (X o - X k) (Y o - Y k)) with ⟨t, g⟩ | ⟨t, g⟩
  · rw [t] at e2 e3 e4
    refine ⟨⟨by omega, by omega, by omega, by omega⟩, by omega, by omega, by omega, fun hn => by have := hs hn; omega⟩
  · rw [t] at e2 e3 e4
    refine ⟨⟨by omega, by omega, by omega, by omega⟩, by omega, by omega, by omega, fun hn => by have := hs hn; omega⟩
theorem zBox_fb {rf sf lv : Int} (h : zLb rf sf lv) : zFb (zBox rf sf lv).2.1 (zBox rf sf lv).2.2.1 (zBox rf sf lv).2.2.2.1 (zBox rf sf lv).2.2.2.2 ∧ 0 ≤ (zBox rf sf lv).1 ∧ (zBox rf sf lv).1 ≤ 1 := by
  have f0 : zFb 0 1 40 1 := by unfold zFb; omega
  have f1 := zCut_fb (em := 0) f0 (zSl_rg h (show -40 ≤ (0 : Int) ∧ (0 : Int) ≤ 40 by omega) (show -40 ≤ (-1 : Int) ∧ (-1 : Int) ≤ 40 by omega)) (zRm_rg h (show -40 ≤ (-1 : Int) ∧ (-1 : Int) ≤ 40 by omega) (show -5198 ≤ (0 : Int) ∧ (0 : Int) ≤ 5198 by omega)) (by omega)
  exact zCut_fb f1.1 (zSl_rg h (show -40 ≤ (0 : Int) ∧ (0 : Int) ≤ 40 by omega) (show -40 ≤ (1 : Int) ∧ (1 : Int) ≤ 40 by omega)) (zRm_rg h (show -40 ≤ (1 : Int) ∧ (1 : Int) ≤ 40 by omega) (show -5198 ≤ (80 : Int) ∧ (80 : Int) ≤ 5198 by omega)) f1.2
theorem zCs_fb {X Y W : Int → Int} {up rf sf lv k t em lt lb ht hb : Int} (hB : zBd X Y W) (hL : zLb rf sf lv) (hF : zFb lt lb ht hb) (he : 0 ≤ em ∧ em ≤ 1) : zFb (zCs X Y W up rf sf lv k t (em, lt, lb, ht, hb)).2.1 (zCs X Y W up rf sf lv k t (em, lt, lb, ht, hb)).2.2.1 (zCs X Y W up rf sf lv k t (em, lt, lb, ht, hb)).2.2.2.1 (zCs X Y W up rf sf lv k t (em, lt, lb, ht, hb)).2.2.2.2 ∧ 0 ≤ (zCs X Y W up rf sf lv k t (em, lt, lb, ht, hb)).1 ∧ (zCs X Y W up rf sf lv k t (em, lt, lb, ht, hb)).1 ≤ 1 := by
  have b1 := hB.1 k
  have b2 := hB.1 t
  have b3 := hB.2.1 k
  have b4 := hB.2.1 t
  have b5 := zHt_rg hB k
  have b6 := zHt_rg hB t
  have r1 := zRn_rg (up := up) (dx := X t - X k) (dy := Y t - Y k) (by omega) (by omega)
  have r2 := zSd_rg (up := up) (dx := X t - X k) (dy := Y t - Y k) (by omega) (by omega)
  exact zCut_fb hF (zSl_rg hL r1 r2) (zRm_rg hL r2 (by omega)) he
/-- the whole cutting of two sites at unlike places: the cause, and what is left -/
noncomputable def zTrc (X Y W : Int → Int) (N k o up rf sf lv : Int) : Int × (Int × Int × Int × Int × Int) := @ite _ (zGone (zBox rf sf lv)) (Classical.propDecidable _) (-2, zBox rf sf lv) (zTc X Y W up rf sf lv k o N.toNat 0 (zBox rf sf lv))
theorem zTrc_1 {X Y W : Int → Int} {N k o up rf sf lv : Int} (h : zGone (zBox rf sf lv)) : zTrc X Y W N k o up rf sf lv = (-2, zBox rf sf lv) := if_pos h
theorem zTrc_2 {X Y W : Int → Int} {N k o up rf sf lv : Int} (h : ¬ zGone (zBox rf sf lv)) : zTrc X Y W N k o up rf sf lv = zTc X Y W up rf sf lv k o N.toNat 0 (zBox rf sf lv) := if_neg h
