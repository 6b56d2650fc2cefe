/-! what Integer.getChars writes -/
theorem zdt_e {v d : Int} (hv : 0 ≤ v) (hd : 0 < d) : (v.tdiv d).tmod 10 = v / d % 10 := by
  have h := Int.ediv_nonneg hv (show 0 ≤ d by omega)
  rw [Int.tdiv_eq_ediv_of_nonneg hv, Int.tmod_eq_emod_of_nonneg h]
theorem zDt_e {v p : Int} (hv : 0 ≤ v) : zDt v p = if p = zDg v - 1 then 48 + v % 10 else if p = zDg v - 2 then 48 + v / 10 % 10 else 48 + v / 100 % 10 := by
  unfold zDt
  rw [zdt_e hv (by omega), zdt_e hv (by omega), zdt_e hv (by omega), Int.ediv_one]
theorem zDg_c (v : Int) : (v < 10 ∧ zDg v = 1) ∨ (10 ≤ v ∧ v < 100 ∧ zDg v = 2) ∨ (100 ≤ v ∧ zDg v = 3) := by
  unfold zDg
  split
  · omega
  · split <;> omega
theorem zGch1 {v ix i cp : Int} {T1 T2 : Int → Int} (gv : 0 ≤ v ∧ v ≤ 999) (h1 : (i = -v ∧ cp = ix) ∨ (100 ≤ v ∧ i = -(v / 100) ∧ cp = ix - 2)) (h2 : (i = -v → T2 = T1) ∧ (¬ i = -v → T2 = zU (zU T1 (ix - 1) (48 + (v % 100) % 10)) (ix - 2) (48 + (v % 100) / 10))) (c : -9 ≤ i) :
    ∀ j : Int, zU T2 (cp + (-1)) (48 + (-i) % 10) j = (if ix - zDg v ≤ j ∧ j < ix then zDt v (j - (ix - zDg v)) else T1 j) := by
  intro j
  rw [zDt_e gv.1]
  have zd := zDg_c v
  by_cases e : i = -v
  · rw [h2.1 e]
    have z : zDg v = 1 := by omega
    rw [z]
    unfold zU
    repeat' split
    all_goals omega
  · rw [h2.2 e]
    have z : zDg v = 3 := by omega
    rw [z]
    unfold zU
    repeat' split
    all_goals omega
theorem zGch2 {v ix i cp : Int} {T1 T2 : Int → Int} (gv : 0 ≤ v ∧ v ≤ 999) (h1 : (i = -v ∧ cp = ix) ∨ (100 ≤ v ∧ i = -(v / 100) ∧ cp = ix - 2)) (h2 : (i = -v → T2 = T1) ∧ (¬ i = -v → T2 = zU (zU T1 (ix - 1) (48 + (v % 100) % 10)) (ix - 2) (48 + (v % 100) / 10))) (c : ¬ -9 ≤ i) (c2 : -100 < i) :
    ∀ j : Int, zU (zU T2 (cp + (-1)) (48 + (-i) % 10)) (cp + (-1) + (-1)) (48 + (-i) / 10) j = (if ix - zDg v ≤ j ∧ j < ix then zDt v (j - (ix - zDg v)) else T1 j) := by
  intro j
  rw [zDt_e gv.1]
  have zd := zDg_c v
  have e : i = -v := by omega
  rw [h2.1 e]
  have z : zDg v = 2 := by omega
  rw [z]
  unfold zU
  repeat' split
  all_goals omega
