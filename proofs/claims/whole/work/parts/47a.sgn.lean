/-! what stands in a site's text -/
theorem iI_c2 {a : Int} (h : 0 ≤ a ∧ a < 65536) : ((iI a).toUInt32 % 65536).toInt32 = iI a := lg_i2c_word (by rw [iI_T (by omega)]; omega) (by rw [iI_T (by omega)]; omega)
theorem iI_nch {a : Int} (h : 0 ≤ a ∧ a < 65536) : narrow .char (.int (iI a)) = .int (iI a) := congrArg Value.int (lg_i2c_small (by rw [iI_T (by omega)]; omega) (by rw [iI_T (by omega)]; omega))
def zDg (n : Int) : Int := if n < 10 then 1 else if n < 100 then 2 else 3
theorem zDg_rg (n : Int) : 1 ≤ zDg n ∧ zDg n ≤ 3 := by
  unfold zDg
  split
  · omega
  · split <;> omega
theorem zdt_rg {n d : Int} (hn : 0 ≤ n) (hd : 0 < d) : (0 ≤ n.tdiv d ∧ n.tdiv d ≤ n) ∧ 0 ≤ (n.tdiv d).tmod 10 ∧ (n.tdiv d).tmod 10 < 10 := by
  have h1 : 0 ≤ n.tdiv d := by
    rw [Int.tdiv_eq_ediv_of_nonneg hn]
    exact Int.ediv_nonneg hn (by omega)
  have h2 : n.tdiv d ≤ n := by
    rw [Int.tdiv_eq_ediv_of_nonneg hn]
    exact Int.ediv_le_self d hn
  exact ⟨⟨h1, h2⟩, Int.tmod_nonneg 10 h1, Int.tmod_lt_of_pos _ (by omega)⟩
def zDt (n p : Int) : Int := if p = zDg n - 1 then 48 + (n.tdiv 1).tmod 10 else if p = zDg n - 2 then 48 + (n.tdiv 10).tmod 10 else 48 + (n.tdiv 100).tmod 10
theorem zDt_rc {n p : Int} (hn : 0 ≤ n) : 0 ≤ zDt n p ∧ zDt n p < 65536 := by
  have h1 := zdt_rg hn (show (0 : Int) < 1 by omega)
  have h2 := zdt_rg hn (show (0 : Int) < 10 by omega)
  have h3 := zdt_rg hn (show (0 : Int) < 100 by omega)
  unfold zDt
  split
  · omega
  · split <;> omega
def zSgn (X Y W : Int → Int) (k pl : Int) : Int :=
  if pl < zDg (X k) then zDt (X k) pl
  else if pl ≤ zDg (X k) + 1 + zDg (Y k) then (if pl = zDg (X k) then 44 else if pl < zDg (X k) + 1 + zDg (Y k) then zDt (Y k) (pl - zDg (X k) - 1) else if W k < 0 then 45 else 43)
  else if pl - (zDg (X k) + 1 + zDg (Y k)) - 1 < zDg (zab (W k)) then zDt (zab (W k)) (pl - (zDg (X k) + 1 + zDg (Y k)) - 1) else 32
