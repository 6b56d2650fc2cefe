/-! the text of a site -/
theorem nI_i {n : Nat} (h : n < 2147483648) : nI n = iI (n : Int) := Int32.toInt_inj.mp (by rw [nI_toInt h, iI_T (by omega)])
theorem iI_m255 {x : Int} (h : 0 ≤ x ∧ x ≤ 255) : iI x &&& iI 255 = iI x := by
  have h1 : iI x = nI x.toNat := by
    rw [nI_i (by omega)]
    exact congrArg iI (by omega)
  rw [h1, pk_andN (by omega) (m := iI 255) 8 (by decide)]
  exact congrArg nI (Nat.mod_eq_of_lt (by omega))
theorem zDt_r7 {n : Int} (hn : 0 ≤ n) (p : Int) : 0 ≤ zDt n p ∧ zDt n p ≤ 127 := by
  have h1 := zdt_rg hn (show (0 : Int) < 1 by omega)
  have h2 := zdt_rg hn (show (0 : Int) < 10 by omega)
  have h3 := zdt_rg hn (show (0 : Int) < 100 by omega)
  unfold zDt
  split
  · omega
  · split <;> omega
theorem zSgn_r7 {X Y W : Int → Int} {k : Int} (h1 : 0 ≤ X k) (h2 : 0 ≤ Y k) (h3 : 0 ≤ zab (W k)) (pl : Int) : 0 ≤ zSgn X Y W k pl ∧ zSgn X Y W k pl ≤ 127 := by
  have e1 := zDt_r7 h1 pl
  have e2 := zDt_r7 h2 (pl - zDg (X k) - 1)
  have e3 := zDt_r7 h3 (pl - (zDg (X k) + 1 + zDg (Y k)) - 1)
  unfold zSgn
  split
  · omega
  · split
    · split
      · omega
      · split
        · omega
        · split <;> omega
    · split <;> omega
def zLn (X Y W : Int → Int) (k : Int) : Int := 0 + zDg (X k) + 1 + zDg (Y k) + 1 + zDg (zab (W k))
theorem zSgn_32 {X Y W : Int → Int} {k pl : Int} (h : zLn X Y W k ≤ pl) : zSgn X Y W k pl = 32 := by
  have y1 := zDg_rg (X k)
  have y2 := zDg_rg (Y k)
  have y3 := zDg_rg (zab (W k))
  unfold zLn at h
  unfold zSgn
  rw [if_neg (by omega), if_neg (by omega), if_neg (by omega)]
theorem zWrt {X Y W T0 A1 A2 A3 : Int → Int} {k sg : Int} (w1 : ∀ j : Int, A1 j = (if 0 ≤ j ∧ j < 0 + zDg (X k) then zDt (X k) (j - 0) else T0 j)) (w2 : ∀ j : Int, A2 j = (if 0 + zDg (X k) + 1 ≤ j ∧ j < 0 + zDg (X k) + 1 + zDg (Y k) then zDt (Y k) (j - (0 + zDg (X k) + 1)) else zU A1 (0 + zDg (X k)) 44 j)) (w3 : ∀ j : Int, A3 j = (if 0 + zDg (X k) + 1 + zDg (Y k) + 1 ≤ j ∧ j < 0 + zDg (X k) + 1 + zDg (Y k) + 1 + zDg (zab (W k)) then zDt (zab (W k)) (j - (0 + zDg (X k) + 1 + zDg (Y k) + 1)) else zU A2 (0 + zDg (X k) + 1 + zDg (Y k)) sg j)) (hsg : sg = if W k < 0 then 45 else 43) (j : Int) (h0 : 0 ≤ j) (h1 : j < zLn X Y W k) : A3 j = zSgn X Y W k j := by
  have y1 := zDg_rg (X k)
  have y2 := zDg_rg (Y k)
  have y3 := zDg_rg (zab (W k))
  have e1 := w1 j
  have e2 := w2 j
  have e3 := w3 j
  unfold zU at e2 e3
  unfold zLn at h1
  unfold zSgn
  by_cases c1 : j < zDg (X k)
  · rw [if_pos c1, e3, if_neg (by omega), if_neg (by omega), e2, if_neg (by omega), if_neg (by omega), e1, if_pos (by omega), show j - 0 = j by omega]
  · rw [if_neg c1]
    by_cases c2 : j ≤ zDg (X k) + 1 + zDg (Y k)
    · rw [if_pos c2]
      by_cases c3 : j = zDg (X k)
      · rw [if_pos c3, e3, if_neg (by omega), if_neg (by omega), e2, if_neg (by omega), if_pos (by omega)]
      · rw [if_neg c3]
        by_cases c4 : j < zDg (X k) + 1 + zDg (Y k)
        · rw [if_pos c4, e3, if_neg (by omega), if_neg (by omega), e2, if_pos (by omega), show j - (0 + zDg (X k) + 1) = j - zDg (X k) - 1 by omega]
        · rw [if_neg c4, e3, if_neg (by omega), if_pos (by omega), hsg]
    · rw [if_neg c2, if_pos (by omega), e3, if_pos (by omega), show j - (0 + zDg (X k) + 1 + zDg (Y k) + 1) = j - (zDg (X k) + 1 + zDg (Y k)) - 1 by omega]
