/-! Euclid's steps, shortened fractions, ends -/
def zGc (x y : Int) : Int := (Int.gcd x y : Int)
theorem zGc_s (x y : Int) : zGc y (x.tmod y) = zGc x y := by
  unfold zGc
  rw [Int.tmod_def, Int.gcd_sub_mul_left_right, Int.gcd_comm]
theorem zGc_0 {x : Int} (h : 0 ≤ x) : zGc x 0 = x := by
  unfold zGc
  rw [Int.gcd_zero]
  omega
theorem zGc_ab (x y : Int) : zGc (zab x) y = zGc x y := by
  unfold zGc zab
  split
  · rfl
  · rw [Int.neg_gcd]
theorem zGc_pos {x y : Int} (h : 0 < y) : 0 < zGc x y := by
  unfold zGc
  have : 0 < Int.gcd x y := Int.gcd_pos_of_ne_zero_right x (by omega)
  omega
theorem zGc_dl (x y : Int) : zGc x y ∣ x := Int.gcd_dvd_left x y
theorem zGc_dr (x y : Int) : zGc x y ∣ y := Int.gcd_dvd_right x y
/-- after the first step: falling, and the product halves at each step -/
def zEu (st x y : Int) : Prop := 0 < st → y < x ∧ x * y < 2 ^ (60 - st).toNat
theorem zEu_s {st x y : Int} (h0 : 0 ≤ st) (hx : 0 ≤ x) (hy : 0 < y ∧ y ≤ 1048576) (h : zEu st x y) : zEu (st + 1) y (x.tmod y) := by
  intro _
  have r0 := Int.tmod_nonneg y hx
  have r1 := Int.tmod_lt_of_pos x hy.1
  refine ⟨r1, ?_⟩
  by_cases hs : st = 0
  · subst hs
    have m := zm_le (a := y) (b := x.tmod y) (A := 1048576) (B := 1048576) (by omega) (by omega)
    have e : (2 : Int) ^ (60 - (0 + 1) : Int).toNat = 576460752303423488 := by decide
    rw [e]
    omega
  · obtain ⟨h1, h2⟩ := h (by omega)
    have q1 := Int.mul_tdiv_add_tmod x y
    have q2 : 1 ≤ x.tdiv y := by
      rw [Int.tdiv_eq_ediv_of_nonneg hx, Int.le_ediv_iff_mul_le hy.1]
      omega
    have q3 : y * 1 ≤ y * x.tdiv y := Int.mul_le_mul_of_nonneg_left q2 (by omega)
    have q4 : x.tmod y + x.tmod y ≤ x := by omega
    have q5 : (x.tmod y + x.tmod y) * y ≤ x * y := Int.mul_le_mul_of_nonneg_right q4 (by omega)
    rw [Int.add_mul] at q5
    rw [Int.mul_comm]
    by_cases he : st < 60
    · rw [show (60 - st).toNat = (60 - (st + 1)).toNat + 1 by omega, Int.pow_succ] at h2
      omega
    · rw [show (60 - st).toNat = 0 by omega] at h2
      have : x * y < 1 := h2
      have q6 : 1 * 1 ≤ x * y := by
        have a1 : 1 * y ≤ x * y := Int.mul_le_mul_of_nonneg_right (by omega) (by omega)
        omega
      omega
theorem zEu_e {st x y : Int} (hs : 100 ≤ st) (hx : 0 ≤ x) (hy : 0 ≤ y) (h : zEu st x y) : y = 0 := by
  obtain ⟨h1, h2⟩ := h (by omega)
  rw [show (60 - st).toNat = 0 by omega] at h2
  have h3 : x * y < 1 := h2
  have a1 : 1 * y ≤ x * y := Int.mul_le_mul_of_nonneg_right (by omega) hy
  omega
/-- what is told of an end -/
def zP1 (ev lo hi : Int) : Int := if ev = 0 then lo else hi
def zPe (up rf sf lv rt rb wv : Int) : Int × Int := if (if wv < 2 then (1 : Int) else 0) = up then (lv * rb - 2 * rf * rt, 2 * sf * rb) else (rt, rb)
theorem zPe_rg {up rf sf lv rt rb wv t1 b1 : Int} (hL : zLb rf sf lv) (hs : 0 < sf) (ht : -415840 ≤ rt ∧ rt ≤ 415840) (hb : 0 < rb ∧ rb ≤ 6400) (h : (t1, b1) = zPe up rf sf lv rt rb wv) : (-134217728 ≤ t1 ∧ t1 ≤ 134217728) ∧ 0 < b1 ∧ b1 ≤ 1048576 := by
  have m1 := zm_le (a := lv) (b := rb) (A := 5198) (B := 6400) hL.2.2 (by omega)
  have m2 := zm_le (a := 2 * rf) (b := rt) (A := 80) (B := 415840) (by have := hL.1; omega) ht
  have m3 := zm_le (a := 2 * sf) (b := rb) (A := 80) (B := 6400) (by have := hL.2.1; omega) (by omega)
  have m4 : 0 < 2 * sf * rb := Int.mul_pos (by omega) hb.1
  unfold zPe at h
  by_cases c : (if wv < 2 then (1 : Int) else 0) = up
  · rw [if_pos c] at h
    have e1 := congrArg Prod.fst h
    have e2 := congrArg Prod.snd h
    dsimp only at e1 e2
    omega
  · rw [if_neg c] at h
    have e1 := congrArg Prod.fst h
    have e2 := congrArg Prod.snd h
    dsimp only at e1 e2
    omega
/-- the number that is told: above or below the stroke, shortened -/
def zTold (q : Int × Int) (wv : Int) : Int := if wv = 0 ∨ wv = 2 then q.1 / zGc q.1 q.2 else q.2 / zGc q.1 q.2
