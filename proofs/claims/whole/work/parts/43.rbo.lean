/-! the reference's border: its cuts are the component's, twice as large -/
def zRk (T L t b : Int) : Prop := (T = t ∧ L = b) ∨ (T = 2 * t ∧ L = 2 * b)
def zFc (lt lb ht hb : Int) : Prop := (-831680 ≤ lt ∧ lt ≤ 831680) ∧ (0 < lb ∧ lb ≤ 12800) ∧ (-831680 ≤ ht ∧ ht ≤ 831680) ∧ 0 < hb ∧ hb ≤ 12800
theorem z22 (p q : Int) : 2 * p * (2 * q) = 4 * (p * q) := by
  have h : p * (2 * q) = 2 * (p * q) := Int.mul_left_comm p 2 q
  rw [Int.mul_assoc, h]
  omega
theorem z12 (p q : Int) : p * (2 * q) = 2 * (p * q) := Int.mul_left_comm p 2 q
theorem z21 (p q : Int) : 2 * p * q = 2 * (p * q) := Int.mul_assoc 2 p q
theorem zRk_e {T L t b : Int} (h : zRk T L t b) (s r : Int) : (T * (2 * s) = 2 * (t * s) ∧ 2 * r * L = 2 * (r * b)) ∨ (T * (2 * s) = 4 * (t * s) ∧ 2 * r * L = 4 * (r * b)) := by
  rcases h with ⟨e1, e2⟩ | ⟨e1, e2⟩
  · rw [e1, e2]
    exact Or.inl ⟨z12 t s, z21 r b⟩
  · rw [e1, e2]
    exact Or.inr ⟨z22 t s, z22 r b⟩
theorem zRk_lt {T L t b T2 L2 t2 b2 : Int} (h : zRk T L t b) (h2 : zRk T2 L2 t2 b2) : T * L2 < T2 * L ↔ t * b2 < t2 * b := by
  rcases h with ⟨e1, e2⟩ | ⟨e1, e2⟩ <;> rcases h2 with ⟨e3, e4⟩ | ⟨e3, e4⟩ <;> rw [e1, e2, e3, e4]
  · have a1 := z12 t b2
    have a2 := z21 t2 b
    omega
  · have a1 := z21 t b2
    have a2 := z12 t2 b
    omega
  · have a1 := z22 t b2
    have a2 := z22 t2 b
    omega
theorem zCut_fc {sl rm em lt lb ht hb : Int} (h : zFc lt lb ht hb) (hs : -12800 ≤ sl ∧ sl ≤ 12800) (hr : -831680 ≤ rm ∧ rm ≤ 831680) (he : 0 ≤ em ∧ em ≤ 1) : zFc (zCut sl rm em lt lb ht hb).2.1 (zCut sl rm em lt lb ht hb).2.2.1 (zCut sl rm em lt lb ht hb).2.2.2.1 (zCut sl rm em lt lb ht hb).2.2.2.2 ∧ 0 ≤ (zCut sl rm em lt lb ht hb).1 ∧ (zCut sl rm em lt lb ht hb).1 ≤ 1 := by
  obtain ⟨h1, h2, h3, h4⟩ := h
  unfold zCut zFc
  split
  · split <;> (dsimp only; omega)
  · split
    · split <;> (dsimp only; omega)
    · split <;> (dsimp only; omega)
theorem zCut_fcp {sl rm em lt lb ht hb i1 a1 b1 c1 d1 : Int} (h : zFc lt lb ht hb) (hs : -12800 ≤ sl ∧ sl ≤ 12800) (hr : -831680 ≤ rm ∧ rm ≤ 831680) (he : 0 ≤ em ∧ em ≤ 1) (e : (i1, a1, b1, c1, d1) = zCut sl rm em lt lb ht hb) : (i1, a1, b1, c1, d1) = zCut sl rm em lt lb ht hb ∧ zFc a1 b1 c1 d1 ∧ 0 ≤ i1 ∧ i1 ≤ 1 := by
  have h1 := zCut_fc h hs hr he
  rw [← e] at h1
  exact ⟨e, h1⟩
def zKt (up ax ay ra rb : Int) : Int := if up = 0 then (ra * ay - rb * ax) * zTu ay else rb * ax * zTu ax
def zKm (up ax ay ri ra rb mm : Int) : Int := if up = 0 then (mm * ay - rb * ri) * zTu ay else (mm * ax - ra * ri) * zTu ax
theorem zTu_2 (x : Int) : zTu (2 * x) = zTu x := by
  unfold zTu
  by_cases h : x < 0
  · rw [if_pos h, if_pos (by omega)]
  · rw [if_neg h, if_neg (by omega)]
theorem zUp_1 {dy : Int} (h : dy = 0) : zUp dy = 1 := if_pos h
theorem zUp_0 {dy : Int} (h : ¬ dy = 0) : zUp dy = 0 := if_neg h
theorem zUp_b (dy : Int) : zUp dy = bI (dy = 0) := by
  by_cases h : dy = 0
  · rw [zUp_1 h, bI_t h]
  · rw [zUp_0 h, bI_f h]
/-- the slope of a site's cut -/
theorem zKt_2 (dx dy d3x d3y : Int) : zKt (zUp dy) (2 * dx) (2 * dy) (2 * d3x) (2 * d3y) = 2 * zSl (zTu (zSd (zUp dy) dx dy) * zRn (zUp dy) dx dy) (zTu (zSd (zUp dy) dx dy) * zSd (zUp dy) dx dy) (zRn (zUp dy) d3x d3y) (zSd (zUp dy) d3x d3y) := by
  by_cases h : dy = 0
  · rw [zUp_1 h]
    show 2 * d3y * (2 * dx) * zTu (2 * dx) = 2 * (2 * (d3y * (zTu dx * dx) - d3x * (zTu dx * dy)))
    rw [zTu_2, z22, h]
    rcases zTu_ne dx with ⟨t, -⟩ | ⟨t, -⟩ <;> rw [t] <;> simp only [Int.neg_mul, Int.mul_neg, Int.one_mul, Int.mul_one, Int.mul_zero] <;> omega
  · rw [zUp_0 h]
    show (2 * d3x * (2 * dy) - 2 * d3y * (2 * dx)) * zTu (2 * dy) = 2 * (2 * (d3x * (zTu dy * dy) - d3y * (zTu dy * dx)))
    rw [zTu_2, z22, z22]
    rcases zTu_ne dy with ⟨t, -⟩ | ⟨t, -⟩ <;> rw [t] <;> simp only [Int.neg_mul, Int.mul_neg, Int.one_mul, Int.mul_one] <;> omega
/-- what a site's cut leaves -/
theorem zKm_2 (dx dy d3x d3y ri mm : Int) : zKm (zUp dy) (2 * dx) (2 * dy) ri (2 * d3x) (2 * d3y) mm = 2 * zRm (zTu (zSd (zUp dy) dx dy) * zSd (zUp dy) dx dy) (zTu (zSd (zUp dy) dx dy) * ri) (zSd (zUp dy) d3x d3y) mm := by
  by_cases h : dy = 0
  · rw [zUp_1 h]
    show (mm * (2 * dx) - 2 * d3x * ri) * zTu (2 * dx) = 2 * (mm * (zTu dx * dx) - d3x * (zTu dx * ri))
    rw [zTu_2, z12, z21]
    rcases zTu_ne dx with ⟨t, -⟩ | ⟨t, -⟩ <;> rw [t] <;> simp only [Int.neg_mul, Int.mul_neg, Int.one_mul, Int.mul_one] <;> omega
  · rw [zUp_0 h]
    show (mm * (2 * dy) - 2 * d3y * ri) * zTu (2 * dy) = 2 * (mm * (zTu dy * dy) - d3y * (zTu dy * ri))
    rw [zTu_2, z12, z21]
    rcases zTu_ne dy with ⟨t, -⟩ | ⟨t, -⟩ <;> rw [t] <;> simp only [Int.neg_mul, Int.mul_neg, Int.one_mul, Int.mul_one] <;> omega
/-- a cut twice as large, of what is left up to a factor -/
theorem zCut_2 {S R ig lT lL hT hL lt lb ht hb : Int} (h1 : zRk lT lL lt lb) (h2 : zRk hT hL ht hb) : (zCut (2 * S) (2 * R) ig lT lL hT hL).1 = (zCut S R ig lt lb ht hb).1 ∧ zRk (zCut (2 * S) (2 * R) ig lT lL hT hL).2.1 (zCut (2 * S) (2 * R) ig lT lL hT hL).2.2.1 (zCut S R ig lt lb ht hb).2.1 (zCut S R ig lt lb ht hb).2.2.1 ∧ zRk (zCut (2 * S) (2 * R) ig lT lL hT hL).2.2.2.1 (zCut (2 * S) (2 * R) ig lT lL hT hL).2.2.2.2 (zCut S R ig lt lb ht hb).2.2.2.1 (zCut S R ig lt lb ht hb).2.2.2.2 := by
  unfold zCut
  by_cases s1 : 0 < S
  · rw [if_pos (show 0 < 2 * S by omega), if_pos s1]
    have e := zRk_e h2 S R
    by_cases c : ht * S > R * hb
    · rw [if_pos c, if_pos (show hT * (2 * S) > 2 * R * hL by omega)]
      exact ⟨rfl, h1, Or.inr ⟨rfl, rfl⟩⟩
    · rw [if_neg c, if_neg (show ¬ hT * (2 * S) > 2 * R * hL by omega)]
      exact ⟨rfl, h1, h2⟩
  · by_cases s2 : S < 0
    · rw [if_neg (show ¬ 0 < 2 * S by omega), if_pos (show 2 * S < 0 by omega), if_neg s1, if_pos s2]
      have e := zRk_e h1 (-S) (-R)
      have n1 : -(2 * S) = 2 * -S := by omega
      have n2 : -(2 * R) = 2 * -R := by omega
      rw [n1, n2]
      by_cases c : lt * -S < -R * lb
      · rw [if_pos c, if_pos (show lT * (2 * -S) < 2 * -R * lL by omega)]
        exact ⟨rfl, Or.inr ⟨rfl, rfl⟩, h2⟩
      · rw [if_neg c, if_neg (show ¬ lT * (2 * -S) < 2 * -R * lL by omega)]
        exact ⟨rfl, h1, h2⟩
    · rw [if_neg (show ¬ 0 < 2 * S by omega), if_neg (show ¬ 2 * S < 0 by omega), if_neg s1, if_neg s2]
      by_cases c : R < 0
      · rw [if_pos c, if_pos (show 2 * R < 0 by omega)]
        exact ⟨rfl, h1, h2⟩
      · rw [if_neg c, if_neg (show ¬ 2 * R < 0 by omega)]
        exact ⟨rfl, h1, h2⟩
/-- two cuts of opposite slopes commute -/
def zCq (s r : Int) (q : Int × Int × Int × Int × Int) : Int × Int × Int × Int × Int := zCut s r q.1 q.2.1 q.2.2.1 q.2.2.2.1 q.2.2.2.2
theorem zCq_cm (s a b em lt lb ht hb : Int) : zCq s a (zCut (-s) b em lt lb ht hb) = zCq (-s) b (zCut s a em lt lb ht hb) := by
  unfold zCq zCut
  by_cases h : s < 0
  · simp only [if_neg (show ¬ 0 < s by omega), if_pos h, if_pos (show 0 < -s by omega)]
    by_cases c1 : ht * -s > b * hb
    · by_cases c2 : lt * -s < -a * lb
      · simp only [if_pos c1, if_pos c2]
      · simp only [if_pos c1, if_neg c2]
    · by_cases c2 : lt * -s < -a * lb
      · simp only [if_neg c1, if_pos c2]
      · simp only [if_neg c1, if_neg c2]
  · by_cases h2 : 0 < s
    · simp only [if_pos h2, if_neg (show ¬ 0 < -s by omega), if_pos (show -s < 0 by omega)]
      by_cases c1 : ht * s > a * hb
      · by_cases c2 : lt * - -s < -b * lb
        · simp only [if_pos c1, if_pos c2]
        · simp only [if_pos c1, if_neg c2]
      · by_cases c2 : lt * - -s < -b * lb
        · simp only [if_neg c1, if_pos c2]
        · simp only [if_neg c1, if_neg c2]
    · simp only [if_neg h2, if_neg h, if_neg (show ¬ 0 < -s by omega), if_neg (show ¬ -s < 0 by omega)]
      by_cases c1 : a < 0
      · by_cases c2 : b < 0
        · simp only [if_pos c1, if_pos c2]
        · simp only [if_pos c1, if_neg c2]
      · by_cases c2 : b < 0
        · simp only [if_neg c1, if_pos c2]
        · simp only [if_neg c1, if_neg c2]
theorem zCut_k1 {s em lt lb : Int} (h : 0 < s) : zCut (2 * s) (40 * (2 * s)) em lt lb 40 1 = (em, lt, lb, 40, 1) := by
  unfold zCut
  rw [if_pos (by omega), if_neg (by omega)]
theorem zCut_k2 {s em ht hb : Int} (h : 0 < s) : zCut (-(2 * s)) 0 em 0 1 ht hb = (em, 0, 1, ht, hb) := by
  unfold zCut
  rw [if_neg (by omega), if_pos (by omega), if_neg (by omega)]
theorem zCut_0 (r em lt lb ht hb : Int) : zCut 0 r em lt lb ht hb = (if r < 0 then 1 else em, lt, lb, ht, hb) := by
  unfold zCut
  rw [if_neg (by omega), if_neg (by omega)]
  by_cases h : r < 0
  · rw [if_pos h, if_pos h]
  · rw [if_neg h, if_neg h]
/-- the line of two sites -/
def zLu (Y : Int → Int) (k o : Int) : Int := zUp (Y o - Y k)
def zLt (X Y : Int → Int) (k o : Int) : Int := zTu (zSd (zLu Y k o) (X o - X k) (Y o - Y k))
def zLr (X Y : Int → Int) (k o : Int) : Int := zLt X Y k o * zRn (zLu Y k o) (X o - X k) (Y o - Y k)
def zLs (X Y : Int → Int) (k o : Int) : Int := zLt X Y k o * zSd (zLu Y k o) (X o - X k) (Y o - Y k)
def zLv (X Y W : Int → Int) (k o : Int) : Int := zLt X Y k o * (zHt X Y W o - zHt X Y W k)
theorem zLay_l (X Y W : Int → Int) (k o : Int) : zLay X Y W k o (zLu Y k o) (zLr X Y k o) (zLs X Y k o) (zLv X Y W k o) := ⟨rfl, rfl, rfl, rfl⟩
/-- what the reference's four cuts leave of the box -/
def zKb (up ax ay ri : Int) : Int × Int × Int × Int × Int :=
  zCq (zKt up ax ay 0 (-1)) (zKm up ax ay ri 0 (-1) 0) (zCq (zKt up ax ay 0 1) (zKm up ax ay ri 0 1 40) (zCq (zKt up ax ay (-1) 0) (zKm up ax ay ri (-1) 0 0) (zCut (zKt up ax ay 1 0) (zKm up ax ay ri 1 0 40) 0 0 1 40 1)))
theorem zKb_x (dx dy ri : Int) (hne : ¬ (dx = 0 ∧ dy = 0)) : zKb (zUp dy) (2 * dx) (2 * dy) ri = zBox (zTu (zSd (zUp dy) dx dy) * zRn (zUp dy) dx dy) (zTu (zSd (zUp dy) dx dy) * zSd (zUp dy) dx dy) (zTu (zSd (zUp dy) dx dy) * ri) := by
  have hB : ∀ rf sf lv : Int, zBox rf sf lv = zCq (-(2 * rf)) (80 * sf - lv) (zCut (2 * rf) lv 0 0 1 40 1) := by
    intro rf sf lv
    unfold zBox
    have e1 : zSl rf sf 0 (-1) = 2 * rf := by unfold zSl; omega
    have e2 : zRm sf lv (-1) 0 = lv := by unfold zRm; omega
    have e3 : zSl rf sf 0 1 = -(2 * rf) := by unfold zSl; omega
    have e4 : zRm sf lv 1 80 = 80 * sf - lv := by unfold zRm; omega
    rw [e1, e2, e3, e4]
    rfl
  rw [hB]
  by_cases h : dy = 0
  · rw [zUp_1 h]
    have hx : ¬ dx = 0 := fun z => hne ⟨z, h⟩
    have f1 : zTu (zSd 1 dx dy) * zRn 1 dx dy = 0 := by
      show zTu dx * dy = 0
      rw [h, Int.mul_zero]
    rw [f1]
    show zKb 1 (2 * dx) (2 * dy) ri = zCq (-(2 * 0)) (80 * (zTu dx * dx) - zTu dx * ri) (zCut (2 * 0) (zTu dx * ri) 0 0 1 40 1)
    have g0 : (-(2 * 0) : Int) = 0 := by omega
    have g1 : (2 * 0 : Int) = 0 := by omega
    have k1 : zKt 1 (2 * dx) (2 * dy) 1 0 = 0 := by
      show 0 * (2 * dx) * zTu (2 * dx) = 0
      rw [Int.zero_mul, Int.zero_mul]
    have k2 : zKt 1 (2 * dx) (2 * dy) (-1) 0 = 0 := by
      show 0 * (2 * dx) * zTu (2 * dx) = 0
      rw [Int.zero_mul, Int.zero_mul]
    have k3 : zKt 1 (2 * dx) (2 * dy) 0 1 = 2 * (zTu dx * dx) := by
      show 1 * (2 * dx) * zTu (2 * dx) = 2 * (zTu dx * dx)
      rw [zTu_2, Int.one_mul, Int.mul_assoc, Int.mul_comm dx]
    have k4 : zKt 1 (2 * dx) (2 * dy) 0 (-1) = -(2 * (zTu dx * dx)) := by
      show -1 * (2 * dx) * zTu (2 * dx) = -(2 * (zTu dx * dx))
      rw [zTu_2, Int.neg_mul, Int.neg_mul, Int.one_mul, Int.mul_assoc, Int.mul_comm dx]
    have m1 : zKm 1 (2 * dx) (2 * dy) ri 1 0 40 = 80 * (zTu dx * dx) - zTu dx * ri := by
      show (40 * (2 * dx) - 1 * ri) * zTu (2 * dx) = 80 * (zTu dx * dx) - zTu dx * ri
      rw [zTu_2]
      rcases zTu_ne dx with ⟨t, -⟩ | ⟨t, -⟩ <;> rw [t] <;> omega
    have m2 : zKm 1 (2 * dx) (2 * dy) ri (-1) 0 0 = zTu dx * ri := by
      show (0 * (2 * dx) - -1 * ri) * zTu (2 * dx) = zTu dx * ri
      rw [zTu_2]
      rcases zTu_ne dx with ⟨t, -⟩ | ⟨t, -⟩ <;> rw [t] <;> omega
    have m3 : zKm 1 (2 * dx) (2 * dy) ri 0 1 40 = 40 * (2 * (zTu dx * dx)) := by
      show (40 * (2 * dx) - 0 * ri) * zTu (2 * dx) = 40 * (2 * (zTu dx * dx))
      rw [zTu_2]
      rcases zTu_ne dx with ⟨t, -⟩ | ⟨t, -⟩ <;> rw [t] <;> omega
    have m4 : zKm 1 (2 * dx) (2 * dy) ri 0 (-1) 0 = 0 := by
      show (0 * (2 * dx) - 0 * ri) * zTu (2 * dx) = 0
      rw [Int.zero_mul, Int.zero_mul]
      exact Int.zero_mul _
    have hp : 0 < zTu dx * dx := by
      rcases zTu_ne dx with ⟨t, u⟩ | ⟨t, u⟩ <;> rw [t] <;> omega
    unfold zKb
    rw [k1, k2, k3, k4, m1, m2, m3, m4, g0, g1]
    have c := zCq_cm 0 (zTu dx * ri) (80 * (zTu dx * dx) - zTu dx * ri) 0 0 1 40 1
    rw [show (-0 : Int) = 0 from rfl] at c
    rw [c, zCut_0]
    generalize 80 * (zTu dx * dx) - zTu dx * ri = B
    unfold zCq
    dsimp only
    rw [zCut_0]
    dsimp only
    rw [zCut_k1 hp]
    dsimp only
    rw [zCut_k2 hp]
  · rw [zUp_0 h]
    show zKb 0 (2 * dx) (2 * dy) ri = zCq (-(2 * (zTu dy * dx))) (80 * (zTu dy * dy) - zTu dy * ri) (zCut (2 * (zTu dy * dx)) (zTu dy * ri) 0 0 1 40 1)
    have hp : 0 < zTu dy * dy := by
      rcases zTu_ne dy with ⟨t, u⟩ | ⟨t, u⟩ <;> rw [t] <;> omega
    have k1 : zKt 0 (2 * dx) (2 * dy) 1 0 = 2 * (zTu dy * dy) := by
      show (1 * (2 * dy) - 0 * (2 * dx)) * zTu (2 * dy) = 2 * (zTu dy * dy)
      rw [zTu_2]
      rcases zTu_ne dy with ⟨t, -⟩ | ⟨t, -⟩ <;> rw [t] <;> omega
    have k2 : zKt 0 (2 * dx) (2 * dy) (-1) 0 = -(2 * (zTu dy * dy)) := by
      show (-1 * (2 * dy) - 0 * (2 * dx)) * zTu (2 * dy) = -(2 * (zTu dy * dy))
      rw [zTu_2]
      rcases zTu_ne dy with ⟨t, -⟩ | ⟨t, -⟩ <;> rw [t] <;> omega
    have k3 : zKt 0 (2 * dx) (2 * dy) 0 1 = -(2 * (zTu dy * dx)) := by
      show (0 * (2 * dy) - 1 * (2 * dx)) * zTu (2 * dy) = -(2 * (zTu dy * dx))
      rw [zTu_2]
      rcases zTu_ne dy with ⟨t, -⟩ | ⟨t, -⟩ <;> rw [t] <;> omega
    have k4 : zKt 0 (2 * dx) (2 * dy) 0 (-1) = 2 * (zTu dy * dx) := by
      show (0 * (2 * dy) - -1 * (2 * dx)) * zTu (2 * dy) = 2 * (zTu dy * dx)
      rw [zTu_2]
      rcases zTu_ne dy with ⟨t, -⟩ | ⟨t, -⟩ <;> rw [t] <;> omega
    have m1 : zKm 0 (2 * dx) (2 * dy) ri 1 0 40 = 40 * (2 * (zTu dy * dy)) := by
      show (40 * (2 * dy) - 0 * ri) * zTu (2 * dy) = 40 * (2 * (zTu dy * dy))
      rw [zTu_2]
      rcases zTu_ne dy with ⟨t, -⟩ | ⟨t, -⟩ <;> rw [t] <;> omega
    have m2 : zKm 0 (2 * dx) (2 * dy) ri (-1) 0 0 = 0 := by
      show (0 * (2 * dy) - 0 * ri) * zTu (2 * dy) = 0
      rw [Int.zero_mul, Int.zero_mul]
      exact Int.zero_mul _
    have m3 : zKm 0 (2 * dx) (2 * dy) ri 0 1 40 = 80 * (zTu dy * dy) - zTu dy * ri := by
      show (40 * (2 * dy) - 1 * ri) * zTu (2 * dy) = 80 * (zTu dy * dy) - zTu dy * ri
      rw [zTu_2]
      rcases zTu_ne dy with ⟨t, -⟩ | ⟨t, -⟩ <;> rw [t] <;> omega
    have m4 : zKm 0 (2 * dx) (2 * dy) ri 0 (-1) 0 = zTu dy * ri := by
      show (0 * (2 * dy) - -1 * ri) * zTu (2 * dy) = zTu dy * ri
      rw [zTu_2]
      rcases zTu_ne dy with ⟨t, -⟩ | ⟨t, -⟩ <;> rw [t] <;> omega
    unfold zKb
    rw [k1, k2, k3, k4, m1, m2, m3, m4, zCut_k1 hp]
    have e : zCq (-(2 * (zTu dy * dy))) 0 (0, 0, 1, 40, 1) = (0, 0, 1, 40, 1) := zCut_k2 hp
    rw [e]
    exact zCq_cm (2 * (zTu dy * dx)) (zTu dy * ri) (80 * (zTu dy * dy) - zTu dy * ri) 0 0 1 40 1
theorem zKb_e {X Y W : Int → Int} {k o i1 a1 b1 c1 d1 i2 a2 b2 c2 d2 i3 a3 b3 c3 d3 i4 a4 b4 c4 d4 u1 : Int} (hne : ¬ (X k = X o ∧ Y k = Y o)) (hu : u1 = zLu Y k o)
    (h1 : (i1, a1, b1, c1, d1) = zCut (zKt u1 (2 * (X o - X k)) (2 * (Y o - Y k)) 1 0) (zKm u1 (2 * (X o - X k)) (2 * (Y o - Y k)) (zHt X Y W o - zHt X Y W k) 1 0 40) 0 0 1 40 1)
    (h2 : (i2, a2, b2, c2, d2) = zCut (zKt u1 (2 * (X o - X k)) (2 * (Y o - Y k)) (-1) 0) (zKm u1 (2 * (X o - X k)) (2 * (Y o - Y k)) (zHt X Y W o - zHt X Y W k) (-1) 0 0) i1 a1 b1 c1 d1)
    (h3 : (i3, a3, b3, c3, d3) = zCut (zKt u1 (2 * (X o - X k)) (2 * (Y o - Y k)) 0 1) (zKm u1 (2 * (X o - X k)) (2 * (Y o - Y k)) (zHt X Y W o - zHt X Y W k) 0 1 40) i2 a2 b2 c2 d2)
    (h4 : (i4, a4, b4, c4, d4) = zCut (zKt u1 (2 * (X o - X k)) (2 * (Y o - Y k)) 0 (-1)) (zKm u1 (2 * (X o - X k)) (2 * (Y o - Y k)) (zHt X Y W o - zHt X Y W k) 0 (-1) 0) i3 a3 b3 c3 d3) :
    (i4, a4, b4, c4, d4) = zBox (zLr X Y k o) (zLs X Y k o) (zLv X Y W k o) := by
  subst hu
  have q2 : (i2, a2, b2, c2, d2) = zCq (zKt (zLu Y k o) (2 * (X o - X k)) (2 * (Y o - Y k)) (-1) 0) (zKm (zLu Y k o) (2 * (X o - X k)) (2 * (Y o - Y k)) (zHt X Y W o - zHt X Y W k) (-1) 0 0) (i1, a1, b1, c1, d1) := h2
  have q3 : (i3, a3, b3, c3, d3) = zCq (zKt (zLu Y k o) (2 * (X o - X k)) (2 * (Y o - Y k)) 0 1) (zKm (zLu Y k o) (2 * (X o - X k)) (2 * (Y o - Y k)) (zHt X Y W o - zHt X Y W k) 0 1 40) (i2, a2, b2, c2, d2) := h3
  have q4 : (i4, a4, b4, c4, d4) = zCq (zKt (zLu Y k o) (2 * (X o - X k)) (2 * (Y o - Y k)) 0 (-1)) (zKm (zLu Y k o) (2 * (X o - X k)) (2 * (Y o - Y k)) (zHt X Y W o - zHt X Y W k) 0 (-1) 0) (i3, a3, b3, c3, d3) := h4
  rw [q4, q3, q2, h1]
  exact zKb_x (X o - X k) (Y o - Y k) (zHt X Y W o - zHt X Y W k) (fun z => hne (by omega))
/-- the reference's state before third i: up to the factor the component's -/
def zKi (X Y W : Int → Int) (N k o i ig lT lL hT hL : Int) : Prop := ∃ em lt lb ht hb : Int, zFb lt lb ht hb ∧ (0 ≤ em ∧ em ≤ 1) ∧ ig = em ∧ zRk lT lL lt lb ∧ zRk hT hL ht hb ∧ zTrc X Y W N k o (zLu Y k o) (zLr X Y k o) (zLs X Y k o) (zLv X Y W k o) = zTc X Y W (zLu Y k o) (zLr X Y k o) (zLs X Y k o) (zLv X Y W k o) k o (N - i).toNat i (em, lt, lb, ht, hb)
theorem zKi_fc {X Y W : Int → Int} {N k o i ig lT lL hT hL : Int} (h : zKi X Y W N k o i ig lT lL hT hL) : zFc lT lL hT hL ∧ 0 ≤ ig ∧ ig ≤ 1 := by
  obtain ⟨em, lt, lb, ht, hb, ⟨f1, f2, f3, f4⟩, he, hi, h1, h2, -⟩ := h
  unfold zFc
  rcases h1 with ⟨a, b⟩ | ⟨a, b⟩ <;> rcases h2 with ⟨c, d⟩ | ⟨c, d⟩ <;> omega
theorem zGone_n {em lt lb ht hb : Int} : ¬ zGone (em, lt, lb, ht, hb) ↔ em = 0 ∧ lt * hb < ht * lb := by
  unfold zGone
  dsimp only
  omega
theorem zKi_0 {X Y W : Int → Int} {N k o ig lT lL hT hL : Int} (hB : zBd X Y W) (h : (ig, lT, lL, hT, hL) = zBox (zLr X Y k o) (zLs X Y k o) (zLv X Y W k o)) (hg : ig = 0 ∧ lT * hL < hT * lL) : zKi X Y W N k o 0 ig lT lL hT hL := by
  have h1 := zLay_rg hB (zLay_l X Y W k o)
  have h2 := zBox_fb h1.1
  rw [← h] at h2
  refine ⟨ig, lT, lL, hT, hL, h2.1, h2.2, rfl, Or.inl ⟨rfl, rfl⟩, Or.inl ⟨rfl, rfl⟩, ?_⟩
  rw [zTrc_2 (by rw [← h]; exact zGone_n.2 hg), ← h, show (N - 0).toNat = N.toNat by omega]
theorem zTrV_n {X Y W : Int → Int} {N k o : Int} (hne : ¬ (X k = X o ∧ Y k = Y o)) : zTrV X Y W N k o = (zTrc X Y W N k o (zLu Y k o) (zLr X Y k o) (zLs X Y k o) (zLv X Y W k o)).1 := if_neg hne
theorem zTrV_s {X Y W : Int → Int} {N k o : Int} (h : X k = X o ∧ Y k = Y o) : zTrV X Y W N k o = -3 := if_pos h
theorem zTrV_b {X Y W : Int → Int} {N k o ig lT lL hT hL : Int} (hne : ¬ (X k = X o ∧ Y k = Y o)) (h : (ig, lT, lL, hT, hL) = zBox (zLr X Y k o) (zLs X Y k o) (zLv X Y W k o)) (hg : ¬ (ig = 0 ∧ lT * hL < hT * lL)) : zTrV X Y W N k o = -2 := by
  rw [zTrV_n hne, zTrc_1 (by rw [← h]; exact Classical.byContradiction fun z => hg (zGone_n.1 z))]
theorem zKi_k {X Y W : Int → Int} {N k o i ig lT lL hT hL : Int} (h : zKi X Y W N k o i ig lT lL hT hL) (hi : i < N) (hk : i = k ∨ i = o) : zKi X Y W N k o (i + 1) ig lT lL hT hL := by
  obtain ⟨em, lt, lb, ht, hb, f, he, e, h1, h2, h3⟩ := h
  refine ⟨em, lt, lb, ht, hb, f, he, e, h1, h2, ?_⟩
  rw [h3, show (N - i).toNat = (N - (i + 1)).toNat + 1 by omega, zTc_k hk]
/-- a third's cut -/
theorem zKi_c {X Y W : Int → Int} {N k o i ig lT lL hT hL i1 a1 b1 c1 d1 u1 : Int} (hB : zBd X Y W) (h : zKi X Y W N k o i ig lT lL hT hL) (hi : i < N) (hk : ¬ (i = k ∨ i = o)) (hne : ¬ (X k = X o ∧ Y k = Y o)) (hu : u1 = zLu Y k o)
    (hc : (i1, a1, b1, c1, d1) = zCut (zKt u1 (2 * (X o - X k)) (2 * (Y o - Y k)) (2 * (X i - X k)) (2 * (Y i - Y k))) (zKm u1 (2 * (X o - X k)) (2 * (Y o - Y k)) (zHt X Y W o - zHt X Y W k) (2 * (X i - X k)) (2 * (Y i - Y k)) (zHt X Y W i - zHt X Y W k)) ig lT lL hT hL) :
    (i1 = 0 ∧ a1 * d1 < c1 * b1 → zKi X Y W N k o (i + 1) i1 a1 b1 c1 d1) ∧ (¬ (i1 = 0 ∧ a1 * d1 < c1 * b1) → zTrV X Y W N k o = i) := by
  subst hu
  obtain ⟨em, lt, lb, ht, hb, f, he, e, h1, h2, h3⟩ := h
  subst e
  have g1 := zLay_rg hB (zLay_l X Y W k o)
  have g2 := zCs_fb (up := zLu Y k o) (k := k) (t := i) hB g1.1 f he
  have e1 : zKt (zLu Y k o) (2 * (X o - X k)) (2 * (Y o - Y k)) (2 * (X i - X k)) (2 * (Y i - Y k)) = 2 * zSl (zLr X Y k o) (zLs X Y k o) (zRn (zLu Y k o) (X i - X k) (Y i - Y k)) (zSd (zLu Y k o) (X i - X k) (Y i - Y k)) := zKt_2 (X o - X k) (Y o - Y k) (X i - X k) (Y i - Y k)
  have e2 : zKm (zLu Y k o) (2 * (X o - X k)) (2 * (Y o - Y k)) (zHt X Y W o - zHt X Y W k) (2 * (X i - X k)) (2 * (Y i - Y k)) (zHt X Y W i - zHt X Y W k) = 2 * zRm (zLs X Y k o) (zLv X Y W k o) (zSd (zLu Y k o) (X i - X k) (Y i - Y k)) (zHt X Y W i - zHt X Y W k) := zKm_2 (X o - X k) (Y o - Y k) (X i - X k) (Y i - Y k) (zHt X Y W o - zHt X Y W k) (zHt X Y W i - zHt X Y W k)
  rw [e1, e2] at hc
  have r := zCut_2 (S := zSl (zLr X Y k o) (zLs X Y k o) (zRn (zLu Y k o) (X i - X k) (Y i - Y k)) (zSd (zLu Y k o) (X i - X k) (Y i - Y k))) (R := zRm (zLs X Y k o) (zLv X Y W k o) (zSd (zLu Y k o) (X i - X k) (Y i - Y k)) (zHt X Y W i - zHt X Y W k)) (ig := ig) h1 h2
  rw [← hc] at r
  dsimp only at r
  have hq : zCs X Y W (zLu Y k o) (zLr X Y k o) (zLs X Y k o) (zLv X Y W k o) k i (ig, lt, lb, ht, hb) = zCut (zSl (zLr X Y k o) (zLs X Y k o) (zRn (zLu Y k o) (X i - X k) (Y i - Y k)) (zSd (zLu Y k o) (X i - X k) (Y i - Y k))) (zRm (zLs X Y k o) (zLv X Y W k o) (zSd (zLu Y k o) (X i - X k) (Y i - Y k)) (zHt X Y W i - zHt X Y W k)) ig lt lb ht hb := rfl
  rw [← hq] at r
  generalize hQ : zCs X Y W (zLu Y k o) (zLr X Y k o) (zLs X Y k o) (zLv X Y W k o) k i (ig, lt, lb, ht, hb) = Q at r g2
  obtain ⟨q1, q2, q3, q4, q5⟩ := Q
  dsimp only at r g2
  have hl := zRk_lt r.2.1 r.2.2
  have hs : (N - i).toNat = (N - (i + 1)).toNat + 1 := by omega
  refine ⟨fun z => ⟨q1, q2, q3, q4, q5, g2.1, g2.2, r.1, r.2.1, r.2.2, ?_⟩, fun z => ?_⟩
  · rw [h3, hs, zTc_n hk (by rw [hQ]; exact zGone_n.2 ⟨r.1 ▸ z.1, hl.1 z.2⟩), hQ]
  · rw [zTrV_n hne, h3, hs, zTc_g hk (by rw [hQ]; exact Classical.byContradiction fun y => z ⟨r.1.trans (zGone_n.1 y).1, hl.2 (zGone_n.1 y).2⟩)]
/-- a border is there: the reference's numbers -/
def zRq (X Y W : Int → Int) (N k o iu ax ay ri lT lL hT hL : Int) : Prop := ¬ (X k = X o ∧ Y k = Y o) ∧ iu = zLu Y k o ∧ ax = 2 * (X o - X k) ∧ ay = 2 * (Y o - Y k) ∧ ri = zHt X Y W o - zHt X Y W k ∧ ∃ em lt lb ht hb : Int, zTrQ X Y W N k o (zLu Y k o) em (zLr X Y k o) (zLs X Y k o) (zLv X Y W k o) lt lb ht hb ∧ zRk lT lL lt lb ∧ zRk hT hL ht hb
theorem zKi_e {X Y W : Int → Int} {N k o i ig lT lL hT hL u1 : Int} (h : zKi X Y W N k o i ig lT lL hT hL) (hi : i = N) (hne : ¬ (X k = X o ∧ Y k = Y o)) (hu : u1 = zLu Y k o) : zTrV X Y W N k o = -1 ∧ zRq X Y W N k o u1 (2 * (X o - X k)) (2 * (Y o - Y k)) (zHt X Y W o - zHt X Y W k) lT lL hT hL := by
  subst hi
  subst hu
  obtain ⟨em, lt, lb, ht, hb, f, he, e, h1, h2, h3⟩ := h
  rw [show (i - i).toNat = 0 by omega] at h3
  have h4 : zTrc X Y W i k o (zLu Y k o) (zLr X Y k o) (zLs X Y k o) (zLv X Y W k o) = (-1, (em, lt, lb, ht, hb)) := h3
  refine ⟨by rw [zTrV_n hne, h4], hne, rfl, rfl, rfl, rfl, em, lt, lb, ht, hb, ⟨hne, zLay_l X Y W k o, f, h4.symm⟩, h1, h2⟩
/-- a number of a fraction in lowest terms -/
def zTl (T L it : Int) : Int := if it = 1 then (zTu L * T) / zGc T L else (zTu L * L) / zGc T L
theorem zGc_c {c T L : Int} (hc : 0 < c) : zGc (c * T) (c * L) = c * zGc T L := by
  unfold zGc
  rw [Int.gcd_mul_left]
  have h : ((c.natAbs : Nat) : Int) = c := by omega
  rw [Int.natCast_mul, h]
theorem zGc_n (T L : Int) : zGc (-T) (-L) = zGc T L := by
  unfold zGc
  rw [Int.neg_gcd, Int.gcd_neg]
theorem zTu_c {c L : Int} (hc : 0 < c) : zTu (c * L) = zTu L := by
  unfold zTu
  by_cases h : L < 0
  · rw [if_pos h, if_pos (Int.mul_neg_of_pos_of_neg hc h)]
  · rw [if_neg h, if_neg (by have := Int.mul_nonneg (show 0 ≤ c by omega) (show 0 ≤ L by omega); omega)]
theorem zTl_c {c T L it : Int} (hc : 0 < c) : zTl (c * T) (c * L) it = zTl T L it := by
  unfold zTl
  rw [zGc_c hc, zTu_c hc, Int.mul_left_comm, Int.mul_left_comm (zTu L) c L, Int.mul_ediv_mul_of_pos _ _ hc, Int.mul_ediv_mul_of_pos _ _ hc]
theorem zTl_n {T L it : Int} (h : ¬ L = 0) : zTl (-T) (-L) it = zTl T L it := by
  unfold zTl
  rw [zGc_n]
  rcases zTu_ne L with ⟨t, u⟩ | ⟨t, u⟩
  · have t2 : zTu (-L) = 1 := if_neg (by omega)
    rw [t, t2, Int.one_mul, Int.one_mul, Int.neg_one_mul, Int.neg_one_mul]
  · have t2 : zTu (-L) = -1 := if_pos (by omega)
    rw [t, t2, Int.neg_one_mul, Int.neg_one_mul, Int.neg_neg, Int.neg_neg, Int.one_mul, Int.one_mul]
theorem zTl_p {T L wv : Int} (h : 0 < L) (hw : 0 ≤ wv ∧ wv ≤ 3) : zTl T L (bI (wv = 0 ∨ wv = 2)) = zTold (T, L) wv := by
  have t : zTu L = 1 := if_neg (by omega)
  unfold zTl zTold
  rw [t, Int.one_mul, Int.one_mul]
  by_cases c : wv = 0 ∨ wv = 2
  · rw [bI_t c, if_pos rfl, if_pos c]
  · rw [bI_f c, if_neg (by decide), if_neg c]
/-- the end that is told, by the places alone -/
noncomputable def zEndV (X Y W : Int → Int) (N k o ev wv : Int) : Int :=
  zTold (zPe (zLu Y k o) (zLr X Y k o) (zLs X Y k o) (zLv X Y W k o) (zP1 ev (zTrc X Y W N k o (zLu Y k o) (zLr X Y k o) (zLs X Y k o) (zLv X Y W k o)).2.2.1 (zTrc X Y W N k o (zLu Y k o) (zLr X Y k o) (zLs X Y k o) (zLv X Y W k o)).2.2.2.2.1) (zP1 ev (zTrc X Y W N k o (zLu Y k o) (zLr X Y k o) (zLs X Y k o) (zLv X Y W k o)).2.2.2.1 (zTrc X Y W N k o (zLu Y k o) (zLr X Y k o) (zLs X Y k o) (zLv X Y W k o)).2.2.2.2.2) wv) wv
theorem zEndV_q {X Y W : Int → Int} {N k o up em rf sf lv lt lb ht hb : Int} (h : zTrQ X Y W N k o up em rf sf lv lt lb ht hb) (ev wv : Int) : zTold (zPe up rf sf lv (zP1 ev lt ht) (zP1 ev lb hb) wv) wv = zEndV X Y W N k o ev wv := by
  obtain ⟨-, ⟨e1, e2, e3, e4⟩, -, h4⟩ := h
  subst e1
  subst e2
  subst e3
  subst e4
  unfold zEndV
  rw [show zTrc X Y W N k o (zLu Y k o) (zLr X Y k o) (zLs X Y k o) (zLv X Y W k o) = (-1, (em, lt, lb, ht, hb)) from h4.symm]
  rfl
theorem zP1_rl {ev lT hT lL hL lt ht lb hb : Int} (h1 : zRk lT lL lt lb) (h2 : zRk hT hL ht hb) : zRk (zP1 ev lT hT) (zP1 ev lL hL) (zP1 ev lt ht) (zP1 ev lb hb) := by
  unfold zP1
  by_cases c : ev = 0
  · rw [if_pos c, if_pos c, if_pos c, if_pos c]
    exact h1
  · rw [if_neg c, if_neg c, if_neg c, if_neg c]
    exact h2
theorem zRk_c {T L t b : Int} (h : zRk T L t b) : ∃ c : Int, 0 < c ∧ c ≤ 2 ∧ T = c * t ∧ L = c * b := by
  rcases h with ⟨a, b⟩ | ⟨a, b⟩
  · exact ⟨1, by omega, by omega, by omega, by omega⟩
  · exact ⟨2, by omega, by omega, a, b⟩
/-- what the reference tells of an end -/
def zRe (iu ax ay ri top line wv : Int) : Int × Int := if wv / 2 = iu then (top, line) else if iu = 0 then (ri * line - ax * top, ay * line) else (ri, ax)
theorem zRe_e {X Y W : Int → Int} {N k o iu ax ay ri lT lL hT hL ev wv : Int} (hB : zBd X Y W) (h : zRq X Y W N k o iu ax ay ri lT lL hT hL) (hw : 0 ≤ wv ∧ wv ≤ 3) :
    zTl (zRe iu ax ay ri (zP1 ev lT hT) (zP1 ev lL hL) wv).1 (zRe iu ax ay ri (zP1 ev lT hT) (zP1 ev lL hL) wv).2 (bI (wv = 0 ∨ wv = 2)) = zEndV X Y W N k o ev wv := by
  obtain ⟨hne, e1, e2, e3, e4, em, lt, lb, ht, hb, hq, r1, r2⟩ := h
  obtain ⟨c, c0, -, cT, cL⟩ := zRk_c (zP1_rl (ev := ev) r1 r2)
  rw [← zEndV_q hq ev wv]
  have g := zTrQ_rg hB hq
  have f := g.2.1
  have hb0 : 0 < zP1 ev lb hb ∧ zP1 ev lb hb ≤ 6400 := by
    unfold zP1
    have f2 := f.2.1
    have f4 := f.2.2.2
    split <;> omega
  have ht0 : -415840 ≤ zP1 ev lt ht ∧ zP1 ev lt ht ≤ 415840 := by
    unfold zP1
    have f1 := f.1
    have f3 := f.2.2.1
    split <;> omega
  have hp : 0 < (zPe (zLu Y k o) (zLr X Y k o) (zLs X Y k o) (zLv X Y W k o) (zP1 ev lt ht) (zP1 ev lb hb) wv).2 := (zPe_rg (up := zLu Y k o) (t1 := (zPe (zLu Y k o) (zLr X Y k o) (zLs X Y k o) (zLv X Y W k o) (zP1 ev lt ht) (zP1 ev lb hb) wv).1) (wv := wv) g.1 g.2.2.1 ht0 hb0 rfl).2.1
  generalize zP1 ev lt ht = t at hp ht0 cT ⊢
  generalize zP1 ev lb hb = b at hp hb0 cL ⊢
  rw [cT, cL]
  have hz : zTl (zPe (zLu Y k o) (zLr X Y k o) (zLs X Y k o) (zLv X Y W k o) t b wv).1 (zPe (zLu Y k o) (zLr X Y k o) (zLs X Y k o) (zLv X Y W k o) t b wv).2 (bI (wv = 0 ∨ wv = 2)) = zTold (zPe (zLu Y k o) (zLr X Y k o) (zLs X Y k o) (zLv X Y W k o) t b wv) wv := zTl_p hp hw
  rw [← hz]
  have hw2 : (if wv < 2 then (1 : Int) else 0) = iu ↔ ¬ wv / 2 = iu := by
    have hu : iu = 0 ∨ iu = 1 := by rw [e1]; have := g.2.2.2; omega
    split <;> omega
  unfold zRe zPe
  rw [← e1]
  by_cases q : wv / 2 = iu
  · rw [if_pos q, if_neg (fun z => hw2.1 z q)]
    exact zTl_c c0
  · rw [if_neg q, if_pos (hw2.2 q)]
    by_cases hu : Y o - Y k = 0
    · have u1 : iu = 1 := e1.trans (zUp_1 hu)
      have l1 : zLu Y k o = 1 := zUp_1 hu
      have l2 : zLt X Y k o = zTu (X o - X k) := by unfold zLt; rw [l1]; rfl
      have l3 : zLr X Y k o = 0 := by
        unfold zLr
        rw [l1]
        show zLt X Y k o * (Y o - Y k) = 0
        rw [hu, Int.mul_zero]
      have l4 : zLs X Y k o = zTu (X o - X k) * (X o - X k) := by unfold zLs; rw [l1, l2]; rfl
      have l5 : zLv X Y W k o = zTu (X o - X k) * ri := by unfold zLv; rw [l2, e4]
      rw [u1, if_neg (by decide), l3, l4, l5, e2]
      dsimp only
      have hx : ¬ X o - X k = 0 := fun z => hne (by omega)
      rcases zTu_ne (X o - X k) with ⟨w, -⟩ | ⟨w, -⟩
      · rw [w]
        have a1 : -1 * ri * b - 2 * 0 * t = -(b * ri) := by
          rw [Int.mul_zero, Int.zero_mul, Int.neg_one_mul, Int.neg_mul, Int.mul_comm ri b]
          omega
        have a2 : 2 * (-1 * (X o - X k)) * b = -(b * (2 * (X o - X k))) := by
          rw [show 2 * (-1 * (X o - X k)) = -(2 * (X o - X k)) by omega, Int.neg_mul, Int.mul_comm b]
        have a3 := Int.mul_ne_zero (show b ≠ 0 by omega) (show 2 * (X o - X k) ≠ 0 by omega)
        rw [a1, a2, zTl_n a3, zTl_c hb0.1]
      · rw [w]
        have a1 : 1 * ri * b - 2 * 0 * t = b * ri := by
          rw [Int.mul_zero, Int.zero_mul, Int.one_mul, Int.mul_comm ri b]
          omega
        have a2 : 2 * (1 * (X o - X k)) * b = b * (2 * (X o - X k)) := by
          rw [Int.one_mul, Int.mul_comm b]
        rw [a1, a2, zTl_c hb0.1]
    · have u1 : iu = 0 := e1.trans (zUp_0 hu)
      have l1 : zLu Y k o = 0 := zUp_0 hu
      have l2 : zLt X Y k o = zTu (Y o - Y k) := by unfold zLt; rw [l1]; rfl
      have l3 : zLr X Y k o = zTu (Y o - Y k) * (X o - X k) := by unfold zLr; rw [l1, l2]; rfl
      have l4 : zLs X Y k o = zTu (Y o - Y k) * (Y o - Y k) := by unfold zLs; rw [l1, l2]; rfl
      have l5 : zLv X Y W k o = zTu (Y o - Y k) * ri := by unfold zLv; rw [l2, e4]
      rw [u1, if_pos rfl, l3, l4, l5, e2, e3]
      dsimp only
      generalize hdx : X o - X k = dx
      generalize hdy : Y o - Y k = dy
      rw [hdy] at hu
      have b1 : ri * (c * b) - 2 * dx * (c * t) = c * (ri * b - 2 * dx * t) := by
        rw [Int.mul_sub, Int.mul_left_comm ri c b, Int.mul_left_comm (2 * dx) c t]
      have b2 : 2 * dy * (c * b) = c * (2 * dy * b) := Int.mul_left_comm _ _ _
      rw [b1, b2, zTl_c c0]
      rcases zTu_ne dy with ⟨w, -⟩ | ⟨w, -⟩
      · rw [w]
        have a1 : -1 * ri * b - 2 * (-1 * dx) * t = -(ri * b - 2 * dx * t) := by
          rw [show 2 * (-1 * dx) = -(2 * dx) by omega, Int.neg_one_mul, Int.neg_mul, Int.neg_mul]
          omega
        have a2 : 2 * (-1 * dy) * b = -(2 * dy * b) := by
          rw [show 2 * (-1 * dy) = -(2 * dy) by omega, Int.neg_mul]
        have a3 := Int.mul_ne_zero (show 2 * dy ≠ 0 by omega) (show b ≠ 0 by omega)
        rw [a1, a2, zTl_n a3]
      · rw [w, Int.one_mul, Int.one_mul, Int.one_mul]
theorem zRq_rg {X Y W : Int → Int} {N k o iu ax ay ri lT lL hT hL : Int} (hB : zBd X Y W) (h : zRq X Y W N k o iu ax ay ri lT lL hT hL) (ev : Int) : (0 ≤ iu ∧ iu ≤ 1) ∧ (-80 ≤ ax ∧ ax ≤ 80) ∧ (-80 ≤ ay ∧ ay ≤ 80) ∧ (-5198 ≤ ri ∧ ri ≤ 5198) ∧ (-831680 ≤ zP1 ev lT hT ∧ zP1 ev lT hT ≤ 831680) ∧ (0 < zP1 ev lL hL ∧ zP1 ev lL hL ≤ 12800) ∧ (iu = 0 → ¬ ay = 0) ∧ (¬ iu = 0 → ¬ ax = 0) := by
  obtain ⟨hne, e1, e2, e3, e4, em, lt, lb, ht, hb, hq, r1, r2⟩ := h
  have g := zTrQ_rg hB hq
  have f := g.2.1
  have x1 := hB.1 k
  have x2 := hB.1 o
  have y1 := hB.2.1 k
  have y2 := hB.2.1 o
  have h1 := zHt_rg hB k
  have h2 := zHt_rg hB o
  have u := g.2.2.2
  rw [← e1] at u
  have f1 := f.1
  have f2 := f.2.1
  have f3 := f.2.2.1
  have f4 := f.2.2.2
  have n1 : iu = 0 → ¬ ay = 0 := fun z w => by
    have hu : Y o - Y k = 0 := by omega
    have := zUp_1 hu
    unfold zLu at e1
    omega
  have n2 : ¬ iu = 0 → ¬ ax = 0 := fun z w => by
    by_cases hu : Y o - Y k = 0
    · exact hne (by omega)
    · have := zUp_0 hu
      unfold zLu at e1
      omega
  refine ⟨u, by omega, by omega, by omega, ?_, ?_, n1, n2⟩
  · unfold zP1
    rcases r1 with ⟨a, -⟩ | ⟨a, -⟩ <;> rcases r2 with ⟨b, -⟩ | ⟨b, -⟩ <;> split <;> omega
  · unfold zP1
    rcases r1 with ⟨-, a⟩ | ⟨-, a⟩ <;> rcases r2 with ⟨-, b⟩ | ⟨-, b⟩ <;> split <;> omega
theorem zGc_ar (x y : Int) : zGc x (zab y) = zGc x y := by
  unfold zGc zab
  split
  · rfl
  · rw [Int.gcd_neg]
theorem zGc_po {x y : Int} (h : ¬ y = 0) : 0 < zGc x y := by
  unfold zGc
  have : 0 < Int.gcd x y := Int.gcd_pos_of_ne_zero_right x h
  omega
theorem zGc_le {x y A : Int} (h : ¬ y = 0) (hA : -A ≤ y ∧ y ≤ A) : zGc x y ≤ A := by
  rcases Int.lt_or_gt_of_ne h with c | c
  · have := Int.le_of_dvd (show 0 < -y by omega) (Int.dvd_neg.2 (zGc_dr x y))
    omega
  · have := Int.le_of_dvd (show 0 < y from c) (zGc_dr x y)
    omega
theorem zTl_d {L T g : Int} (h : g ∣ T) : T.tdiv (zTu L * g) = (zTu L * T) / g := by
  rcases zTu_ne L with ⟨t, -⟩ | ⟨t, -⟩
  · rw [t, Int.neg_one_mul, Int.neg_one_mul, Int.tdiv_neg, Int.tdiv_eq_ediv_of_dvd h, Int.neg_ediv_of_dvd h]
  · rw [t, Int.one_mul, Int.one_mul, Int.tdiv_eq_ediv_of_dvd h]
theorem zTrV_rg {X Y W : Int → Int} {N : Int} (hN : 0 ≤ N ∧ N ≤ 12) (k o : Int) : -3 ≤ zTrV X Y W N k o ∧ zTrV X Y W N k o < 12 := by
  by_cases h : X k = X o ∧ Y k = Y o
  · rw [zTrV_s h]
    omega
  · rw [zTrV_n h]
    have := zTrc_rg X Y W k o (zLu Y k o) (zLr X Y k o) (zLs X Y k o) (zLv X Y W k o) hN.1
    omega
