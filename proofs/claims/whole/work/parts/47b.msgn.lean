set_option maxHeartbeats 4000000 in
set_option maxRecDepth 100000 in
/-- PowerPlotModel.digits -/
theorem c_X8_digits (l : Launch) (D : va_G) (sz : Nat) (tys : List (ClassId × FieldType)) (cA : ClassId) (hty : tys[0]? = some (cA, .int)) (n : Int) (gn : 0 ≤ n ∧ n ≤ 999) : Met l yX8_digits wsX8_digits ({ frames := 0, cells := 0, slots := 0, locals := 0 }) (zP D [.int (iI n)] sz [] tys) (zRi (zDg n) sz) 0 0 (zN sz) := by
  refine Met.ofW (cc := cX8_digits) (maxL := 1) (ret := (some .int)) (by decide +kernel) rfl ?_
  intro p e s m args below meth c s₁ B hml hv
  obtain ⟨rfl, hsz, hP, hK, hD0⟩ := hv
  have hx := B.exec
  have hb := B.bytes
  have hr := B.returns
  have hts := atoms_spec (ws := wsX8_digits) B.pre
  have hown : s.vm.findClass RX8 = some m.cls := findClass_of_methodNamed B.named
  have hlocks := B.notSynchronized
  subst hsz
  have hD := hD0
  have hS : va_S (zN s.heap.size) s.heap s.heap [] := va_S.rf
  have hA : ∀ q9 : Nat, s.heap.size ≤ q9 → (zN s.heap.size) q9 := fun q9 h => h
  have hl := lv_entry ([.int (iI n)]) (n := 1) (Nat.le_of_ble_eq_true rfl)
  rw [lg_entry_eq]
  generalize (lg_sl ([.int (iI n)]) ++ List.replicate (1 - (lg_sl ([.int (iI n)])).length) Slot.unset).toArray = ls at hl ⊢
  have hl : lv_has ls 1 [(0, .int (iI n))] := hl
  refine lv_iload_n hx hb dX8_digits_0 rfl (lv_at hl 0 rfl) ?_
  refine lv_bipush (v := iI 10) hx hb dX8_digits_1 (by decide +kernel) ?_
  refine zi_icmp_ge (tgt := 10) hx hb dX8_digits_3 (by decide) (by omega) (by omega) (fun c3 => ?_) (fun c3 => ?_)
  · skip
    refine lv_iload_n hx hb dX8_digits_10 rfl (lv_at hl 0 rfl) ?_
    refine lv_bipush (v := iI 100) hx hb dX8_digits_11 (by decide +kernel) ?_
    refine zi_icmp_ge (tgt := 20) hx hb dX8_digits_13 (by decide) (by omega) (by omega) (fun c13 => ?_) (fun c13 => ?_)
    · skip
      refine lv_iconst (v := iI 3) hx hb dX8_digits_20 rfl ?_
      exact W.iret (v := iI 3) hx hb hr (fun t ht hW => ⟨⟨iI 3, (), rfl, congrArg iI (show 3 = zDg n from by unfold zDg; first | exact (if_pos (by omega)).symm | (rw [if_neg (by omega)]; first | exact (if_pos (by omega)).symm | exact (if_neg (by omega)).symm) | fail), trivial⟩, hS.F ht⟩) hS.2.2 dX8_digits_21
    · skip
      refine lv_iconst (v := iI 2) hx hb dX8_digits_16 rfl ?_
      refine lv_goto (tgt := 21) hx hb dX8_digits_17 (by decide) ?_
      exact W.iret (v := iI 2) hx hb hr (fun t ht hW => ⟨⟨iI 2, (), rfl, congrArg iI (show 2 = zDg n from by unfold zDg; first | exact (if_pos (by omega)).symm | (rw [if_neg (by omega)]; first | exact (if_pos (by omega)).symm | exact (if_neg (by omega)).symm) | fail), trivial⟩, hS.F ht⟩) hS.2.2 dX8_digits_21
  · skip
    refine lv_iconst (v := iI 1) hx hb dX8_digits_6 rfl ?_
    refine lv_goto (tgt := 21) hx hb dX8_digits_7 (by decide) ?_
    exact W.iret (v := iI 1) hx hb hr (fun t ht hW => ⟨⟨iI 1, (), rfl, congrArg iI (show 1 = zDg n from by unfold zDg; first | exact (if_pos (by omega)).symm | (rw [if_neg (by omega)]; first | exact (if_pos (by omega)).symm | exact (if_neg (by omega)).symm) | fail), trivial⟩, hS.F ht⟩) hS.2.2 dX8_digits_21
set_option maxHeartbeats 4000000 in
set_option maxRecDepth 100000 in
/-- PowerPlotModel.digit -/
theorem c_X8_digit (l : Launch) (D : va_G) (sz : Nat) (tys : List (ClassId × FieldType)) (cA : ClassId) (hty : tys[0]? = some (cA, .int)) (n p1 : Int) (gn : 0 ≤ n ∧ n ≤ 999) (gp : -2147483648 ≤ p1 ∧ p1 ≤ 2147483647) : Met l yX8_digit wsX8_digit ({ frames := 1, cells := 0, slots := 0, locals := 20 }) (zP D [.int (iI n), .int (iI p1)] sz [] tys) (zRi (zDt n p1) sz) 0 0 (zN sz) := by
  refine Met.ofW (cc := cX8_digit) (maxL := 3) (ret := (some .char)) (by decide +kernel) rfl ?_
  intro p e s m args below meth c s₁ B hml hv
  obtain ⟨rfl, hsz, hP, hK, hD0⟩ := hv
  have hx := B.exec
  have hb := B.bytes
  have hr := B.returns
  have hts := atoms_spec (ws := wsX8_digit) B.pre
  have hown : s.vm.findClass RX8 = some m.cls := findClass_of_methodNamed B.named
  have hlocks := B.notSynchronized
  subst hsz
  have hD := hD0
  have hS : va_S (zN s.heap.size) s.heap s.heap [] := va_S.rf
  have hA : ∀ q9 : Nat, s.heap.size ≤ q9 → (zN s.heap.size) q9 := fun q9 h => h
  have hl := lv_entry ([.int (iI n), .int (iI p1)]) (n := 3) (Nat.le_of_ble_eq_true rfl)
  rw [lg_entry_eq]
  generalize (lg_sl ([.int (iI n), .int (iI p1)]) ++ List.replicate (3 - (lg_sl ([.int (iI n), .int (iI p1)])).length) Slot.unset).toArray = ls at hl ⊢
  have hl : lv_has ls 3 [(0, .int (iI n)), (1, .int (iI p1))] := hl
  have z0 := zDg_rg n
  have z1 := zdt_rg gn.1 (show (0 : Int) < 1 by omega)
  have z2 := zdt_rg gn.1 (show (0 : Int) < 10 by omega)
  have z3 := zdt_rg gn.1 (show (0 : Int) < 100 by omega)
  refine lv_iload_n hx hb dX8_digit_0 rfl (lv_at hl 1 rfl) ?_
  refine lv_iload_n hx hb dX8_digit_1 rfl (lv_at hl 0 rfl) ?_
  refine zc_riS (As := [.int (iI n)]) (rest := [.int (iI p1)]) ⟨hx, hb, hml, hown, hts⟩ (c_X8_digits l D _ tys cA hty n (by omega)) (va_cwS 1 hts gX8_digit_X8_digits rfl rfl rfl (by decide +kernel) ⟨(Nat.le_of_ble_eq_true rfl), (Nat.le_of_ble_eq_true rfl)⟩) hP hK hD hS hA [] rfl rfl rfl hl.1 rfl (Nat.le_of_ble_eq_true rfl) dX8_digit_2 ⟨Nat.zero_le _, Nat.zero_le _⟩ (fun H locs hP hS => ?_)
  refine lv_iconst (v := iI 1) hx hb dX8_digit_5 rfl ?_
  refine zi_isub hx hb dX8_digit_6 ?_
  refine zi_icmp_ne (tgt := 14) hx hb dX8_digit_7 (by decide) (by omega) (by omega) (fun c7 => ?_) (fun c7 => ?_)
  · skip
    refine lv_iload_n hx hb dX8_digit_14 rfl (lv_at hl 1 rfl) ?_
    refine lv_iload_n hx hb dX8_digit_15 rfl (lv_at hl 0 rfl) ?_
    refine zc_riS (As := [.int (iI n)]) (rest := [.int (iI p1)]) ⟨hx, hb, hml, hown, hts⟩ (c_X8_digits l D _ tys cA hty n (by omega)) (va_cwS 1 hts gX8_digit_X8_digits rfl rfl rfl (by decide +kernel) ⟨(Nat.le_of_ble_eq_true rfl), (Nat.le_of_ble_eq_true rfl)⟩) hP hK hD hS hA [] rfl rfl rfl hl.1 rfl (Nat.le_of_ble_eq_true rfl) dX8_digit_16 ⟨Nat.zero_le _, Nat.zero_le _⟩ (fun H locs hP hS => ?_)
    refine lv_iconst (v := iI 2) hx hb dX8_digit_19 rfl ?_
    refine zi_isub hx hb dX8_digit_20 ?_
    refine zi_icmp_ne (tgt := 29) hx hb dX8_digit_21 (by decide) (by omega) (by omega) (fun c21 => ?_) (fun c21 => ?_)
    · skip
      refine lv_bipush (v := iI 100) hx hb dX8_digit_29 (by decide +kernel) ?_
      refine lv_istore_n (lv' := [(2, .int (iI 100)), (0, .int (iI n)), (1, .int (iI p1))]) hx hb dX8_digit_31 rfl hl (by decide) rfl (fun ls hl => ?_)
      refine lv_bipush (v := iI 48) hx hb dX8_digit_32 (by decide +kernel) ?_
      refine lv_iload_n hx hb dX8_digit_34 rfl (lv_at hl 1 rfl) ?_
      refine lv_iload_n hx hb dX8_digit_35 rfl (lv_at hl 0 rfl) ?_
      refine zi_idiv hx hb dX8_digit_36 (by omega) (by omega) (by omega) (by omega) ?_
      refine lv_bipush (v := iI 10) hx hb dX8_digit_37 (by decide +kernel) ?_
      refine zi_irem hx hb dX8_digit_39 (by omega) (by omega) (by omega) (by omega) ?_
      refine zi_iadd hx hb dX8_digit_40 ?_
      refine lv_i2c (v := iI (48 + ((n.tdiv 100).tmod 10))) hx hb dX8_digit_41 (iI_c2 (by omega)) ?_
      exact W.zret (v := iI (48 + ((n.tdiv 100).tmod 10))) (ty := .char) hx hb hr (iI_nch (by omega)) (fun t ht hW => ⟨⟨iI (48 + ((n.tdiv 100).tmod 10)), (), rfl, congrArg iI (show 48 + ((n.tdiv 100).tmod 10) = zDt n p1 from by unfold zDt; first | exact (if_pos (by omega)).symm | (rw [if_neg (by omega)]; first | exact (if_pos (by omega)).symm | exact (if_neg (by omega)).symm) | fail), trivial⟩, hS.F ht⟩) hS.2.2 dX8_digit_42
    · skip
      refine lv_bipush (v := iI 10) hx hb dX8_digit_24 (by decide +kernel) ?_
      refine lv_goto (tgt := 31) hx hb dX8_digit_26 (by decide) ?_
      refine lv_istore_n (lv' := [(2, .int (iI 10)), (0, .int (iI n)), (1, .int (iI p1))]) hx hb dX8_digit_31 rfl hl (by decide) rfl (fun ls hl => ?_)
      refine lv_bipush (v := iI 48) hx hb dX8_digit_32 (by decide +kernel) ?_
      refine lv_iload_n hx hb dX8_digit_34 rfl (lv_at hl 1 rfl) ?_
      refine lv_iload_n hx hb dX8_digit_35 rfl (lv_at hl 0 rfl) ?_
      refine zi_idiv hx hb dX8_digit_36 (by omega) (by omega) (by omega) (by omega) ?_
      refine lv_bipush (v := iI 10) hx hb dX8_digit_37 (by decide +kernel) ?_
      refine zi_irem hx hb dX8_digit_39 (by omega) (by omega) (by omega) (by omega) ?_
      refine zi_iadd hx hb dX8_digit_40 ?_
      refine lv_i2c (v := iI (48 + ((n.tdiv 10).tmod 10))) hx hb dX8_digit_41 (iI_c2 (by omega)) ?_
      exact W.zret (v := iI (48 + ((n.tdiv 10).tmod 10))) (ty := .char) hx hb hr (iI_nch (by omega)) (fun t ht hW => ⟨⟨iI (48 + ((n.tdiv 10).tmod 10)), (), rfl, congrArg iI (show 48 + ((n.tdiv 10).tmod 10) = zDt n p1 from by unfold zDt; first | exact (if_pos (by omega)).symm | (rw [if_neg (by omega)]; first | exact (if_pos (by omega)).symm | exact (if_neg (by omega)).symm) | fail), trivial⟩, hS.F ht⟩) hS.2.2 dX8_digit_42
  · skip
    refine lv_iconst (v := iI 1) hx hb dX8_digit_10 rfl ?_
    refine lv_goto (tgt := 31) hx hb dX8_digit_11 (by decide) ?_
    refine lv_istore_n (lv' := [(2, .int (iI 1)), (0, .int (iI n)), (1, .int (iI p1))]) hx hb dX8_digit_31 rfl hl (by decide) rfl (fun ls hl => ?_)
    refine lv_bipush (v := iI 48) hx hb dX8_digit_32 (by decide +kernel) ?_
    refine lv_iload_n hx hb dX8_digit_34 rfl (lv_at hl 1 rfl) ?_
    refine lv_iload_n hx hb dX8_digit_35 rfl (lv_at hl 0 rfl) ?_
    refine zi_idiv hx hb dX8_digit_36 (by omega) (by omega) (by omega) (by omega) ?_
    refine lv_bipush (v := iI 10) hx hb dX8_digit_37 (by decide +kernel) ?_
    refine zi_irem hx hb dX8_digit_39 (by omega) (by omega) (by omega) (by omega) ?_
    refine zi_iadd hx hb dX8_digit_40 ?_
    refine lv_i2c (v := iI (48 + ((n.tdiv 1).tmod 10))) hx hb dX8_digit_41 (iI_c2 (by omega)) ?_
    exact W.zret (v := iI (48 + ((n.tdiv 1).tmod 10))) (ty := .char) hx hb hr (iI_nch (by omega)) (fun t ht hW => ⟨⟨iI (48 + ((n.tdiv 1).tmod 10)), (), rfl, congrArg iI (show 48 + ((n.tdiv 1).tmod 10) = zDt n p1 from by unfold zDt; first | exact (if_pos (by omega)).symm | (rw [if_neg (by omega)]; first | exact (if_pos (by omega)).symm | exact (if_neg (by omega)).symm) | fail), trivial⟩, hS.F ht⟩) hS.2.2 dX8_digit_42
theorem iz_X8_sign_X8 : ∀ w ∈ u_ws RX8 TX8 17, w ∈ wsX8_sign := by decide +kernel
set_option maxHeartbeats 4000000 in
set_option maxRecDepth 100000 in
/-- PowerPlotModel.sign -/
theorem c_X8_sign (l : Launch) (D : va_G) (sz : Nat) (tys : List (ClassId × FieldType)) (cA : ClassId) (hty : tys[0]? = some (cA, .int)) (q : Nat → Nat) (th N : Int) (Xs Ys Wt Cp sh kp : Int → Int) (iu ax ay ri lT lL hT hL ig : Int) (k pl : Int) (gB : zBd Xs Ys Wt) (gN : 0 ≤ N ∧ N ≤ 12) (g1 : -2147483648 ≤ k ∧ k ≤ 2147483647) (g2 : -2147483648 ≤ pl ∧ pl ≤ 2147483647) : Met l yX8_sign wsX8_sign ({ frames := 2, cells := 0, slots := 0, locals := 43 }) (zP D [.ref (q 0), .int (iI k), .int (iI pl)] sz [(q 0, .inr (9, [.int (iI th), .int (iI N), .ref (q 1), .ref (q 2), .ref (q 3), .ref (q 4), .ref (q 5), .ref (q 6), .int (iI iu), .int (iI ax), .int (iI ay), .int (iI ri), .long (lI lT), .long (lI lL), .long (lI hT), .long (lI hL), .int (iI ig)])), (q 1, .inl (cA, 12, .inl (zF Xs))), (q 2, .inl (cA, 12, .inl (zF Ys))), (q 3, .inl (cA, 12, .inl (zF Wt))), (q 4, .inl (cA, 12, .inl (zF Cp))), (q 5, .inl (cA, 12, .inl (zF sh))), (q 6, .inl (cA, 12, .inl (zF kp)))] tys) (zWi (fun (u : Int × Int) => u.2) (fun (u : Int × Int) => (0 ≤ k ∧ k < N ∧ 0 ≤ pl → u.1 = 0 ∧ u.2 = zSgn Xs Ys Wt k pl) ∧ (¬ (0 ≤ k ∧ k < N ∧ 0 ≤ pl) → u.1 = 1)) D (fun (u : Int × Int) => [(q 0, .inr (9, [.int (iI u.1), .int (iI N), .ref (q 1), .ref (q 2), .ref (q 3), .ref (q 4), .ref (q 5), .ref (q 6), .int (iI iu), .int (iI ax), .int (iI ay), .int (iI ri), .long (lI lT), .long (lI lL), .long (lI hT), .long (lI hL), .int (iI ig)])), (q 1, .inl (cA, 12, .inl (zF Xs))), (q 2, .inl (cA, 12, .inl (zF Ys))), (q 3, .inl (cA, 12, .inl (zF Wt))), (q 4, .inl (cA, 12, .inl (zF Cp))), (q 5, .inl (cA, 12, .inl (zF sh))), (q 6, .inl (cA, 12, .inl (zF kp)))]) [(q 0, .inr (9, [.int (iI th), .int (iI N), .ref (q 1), .ref (q 2), .ref (q 3), .ref (q 4), .ref (q 5), .ref (q 6), .int (iI iu), .int (iI ax), .int (iI ay), .int (iI ri), .long (lI lT), .long (lI lL), .long (lI hT), .long (lI hL), .int (iI ig)])), (q 1, .inl (cA, 12, .inl (zF Xs))), (q 2, .inl (cA, 12, .inl (zF Ys))), (q 3, .inl (cA, 12, .inl (zF Wt))), (q 4, .inl (cA, 12, .inl (zF Cp))), (q 5, .inl (cA, 12, .inl (zF sh))), (q 6, .inl (cA, 12, .inl (zF kp)))] sz) 0 0 (va_A [(q 0, .inr (9, [.int (iI th), .int (iI N), .ref (q 1), .ref (q 2), .ref (q 3), .ref (q 4), .ref (q 5), .ref (q 6), .int (iI iu), .int (iI ax), .int (iI ay), .int (iI ri), .long (lI lT), .long (lI lL), .long (lI hT), .long (lI hL), .int (iI ig)])), (q 1, .inl (cA, 12, .inl (zF Xs))), (q 2, .inl (cA, 12, .inl (zF Ys))), (q 3, .inl (cA, 12, .inl (zF Wt))), (q 4, .inl (cA, 12, .inl (zF Cp))), (q 5, .inl (cA, 12, .inl (zF sh))), (q 6, .inl (cA, 12, .inl (zF kp)))] sz) := by
  refine Met.ofW (cc := cX8_sign) (maxL := 6) (ret := (some .char)) (by decide +kernel) rfl ?_
  intro p e s m args below meth c s₁ B hml hv
  obtain ⟨rfl, hsz, hP, hK, hD0⟩ := hv
  have hx := B.exec
  have hb := B.bytes
  have hr := B.returns
  have hts := atoms_spec (ws := wsX8_sign) B.pre
  have hown : s.vm.findClass RX8 = some m.cls := findClass_of_methodNamed B.named
  have hlocks := B.notSynchronized
  subst hsz
  have hD : va_D (va_A [(q 0, .inr (9, [.int (iI th), .int (iI N), .ref (q 1), .ref (q 2), .ref (q 3), .ref (q 4), .ref (q 5), .ref (q 6), .int (iI iu), .int (iI ax), .int (iI ay), .int (iI ri), .long (lI lT), .long (lI lL), .long (lI hT), .long (lI hL), .int (iI ig)])), (q 1, .inl (cA, 12, .inl (zF Xs))), (q 2, .inl (cA, 12, .inl (zF Ys))), (q 3, .inl (cA, 12, .inl (zF Wt))), (q 4, .inl (cA, 12, .inl (zF Cp))), (q 5, .inl (cA, 12, .inl (zF sh))), (q 6, .inl (cA, 12, .inl (zF kp)))] s.heap.size) [(q 0, .inr (9, [.int (iI th), .int (iI N), .ref (q 1), .ref (q 2), .ref (q 3), .ref (q 4), .ref (q 5), .ref (q 6), .int (iI iu), .int (iI ax), .int (iI ay), .int (iI ri), .long (lI lT), .long (lI lL), .long (lI hT), .long (lI hL), .int (iI ig)])), (q 1, .inl (cA, 12, .inl (zF Xs))), (q 2, .inl (cA, 12, .inl (zF Ys))), (q 3, .inl (cA, 12, .inl (zF Wt))), (q 4, .inl (cA, 12, .inl (zF Cp))), (q 5, .inl (cA, 12, .inl (zF sh))), (q 6, .inl (cA, 12, .inl (zF kp)))] := hD0.self
  have hS : va_S (va_A [(q 0, .inr (9, [.int (iI th), .int (iI N), .ref (q 1), .ref (q 2), .ref (q 3), .ref (q 4), .ref (q 5), .ref (q 6), .int (iI iu), .int (iI ax), .int (iI ay), .int (iI ri), .long (lI lT), .long (lI lL), .long (lI hT), .long (lI hL), .int (iI ig)])), (q 1, .inl (cA, 12, .inl (zF Xs))), (q 2, .inl (cA, 12, .inl (zF Ys))), (q 3, .inl (cA, 12, .inl (zF Wt))), (q 4, .inl (cA, 12, .inl (zF Cp))), (q 5, .inl (cA, 12, .inl (zF sh))), (q 6, .inl (cA, 12, .inl (zF kp)))] s.heap.size) s.heap s.heap [] := va_S.rf
  have hA : ∀ q9 : Nat, s.heap.size ≤ q9 → (va_A [(q 0, .inr (9, [.int (iI th), .int (iI N), .ref (q 1), .ref (q 2), .ref (q 3), .ref (q 4), .ref (q 5), .ref (q 6), .int (iI iu), .int (iI ax), .int (iI ay), .int (iI ri), .long (lI lT), .long (lI lL), .long (lI hT), .long (lI hL), .int (iI ig)])), (q 1, .inl (cA, 12, .inl (zF Xs))), (q 2, .inl (cA, 12, .inl (zF Ys))), (q 3, .inl (cA, 12, .inl (zF Wt))), (q 4, .inl (cA, 12, .inl (zF Cp))), (q 5, .inl (cA, 12, .inl (zF sh))), (q 6, .inl (cA, 12, .inl (zF kp)))] s.heap.size) q9 := fun q9 h => Or.inr h
  have hl := lv_entry ([.ref (q 0), .int (iI k), .int (iI pl)]) (n := 6) (Nat.le_of_ble_eq_true rfl)
  rw [lg_entry_eq]
  generalize (lg_sl ([.ref (q 0), .int (iI k), .int (iI pl)]) ++ List.replicate (6 - (lg_sl ([.ref (q 0), .int (iI k), .int (iI pl)])).length) Slot.unset).toArray = ls at hl ⊢
  have hl : lv_has ls 6 [(0, .ref (q 0)), (1, .int (iI k)), (2, .int (iI pl))] := hl
  have b1 := gB.1 k
  have b2 := gB.2.1 k
  have b3 := gB.2.2 k
  have b4 : 0 ≤ zab (Wt k) ∧ zab (Wt k) ≤ 999 := zab_rg b3
  have b5 := zDg_rg (Xs k)
  have b6 := zDg_rg (Ys k)
  have b7 := zDg_rg (zab (Wt k))
  refine lv_aload_n hx hb dX8_sign_0 rfl (lv_at hl 0 rfl) ?_
  refine lv_aload_n hx hb dX8_sign_1 rfl (lv_at hl 0 rfl) ?_
  refine lv_iload_n hx hb dX8_sign_2 rfl (lv_at hl 1 rfl) ?_
  refine zc_ri (As := [.int (iI k)]) (rest := [.ref (q 0)]) ⟨hx, hb, hml, hown, hts⟩ (c_X8_isSite l D _ tys cA hty q th N Xs Ys Wt Cp sh kp iu ax ay ri lT lL hT hL ig k gN (by omega)) (cwV 1 hts gX8_sign_X8_isSite rfl rfl rfl (by decide +kernel) ⟨(Nat.le_of_ble_eq_true rfl), (Nat.le_of_ble_eq_true rfl)⟩) hP hK hD hS hA [0, 1, 2, 3, 4, 5, 6] rfl rfl rfl rfl rfl hl.1 rfl (Nat.le_of_ble_eq_true rfl) dX8_sign_3 ⟨Nat.zero_le _, Nat.zero_le _⟩ (fun H locs hP hS => ?_)
  refine zb_if_eq (tgt := 13) hx hb dX8_sign_6 (by decide) (fun c6 => ?_) (fun c6 => ?_)
  · skip
    refine lv_iconst (v := iI 1) hx hb dX8_sign_13 rfl ?_
    refine lv_goto (tgt := 18) hx hb dX8_sign_14 (by decide) ?_
    refine va_put (ci := 9) (v := .int (iI 1)) (ty := .int) (C := RX8) (T := TX8) (N := 17) hx hb hts iz_X8_sign_X8 tyX8 tyX8_ok nmX8 hown hK hP hD hS 0 rfl rfl 0 (by decide) (hts (.fieldLink RX8 28 "PowerPlotModel" "thrown" "I") (by decide +kernel)) (fun _ h9 => h9) rfl (by decide +kernel) rfl rfl (Nat.le_of_ble_eq_true rfl) dX8_sign_18 (fun H locs hP hD hS => ?_)
    have hP : va_P D vwCl [(q 0, .inr (9, [.int (iI 1), .int (iI N), .ref (q 1), .ref (q 2), .ref (q 3), .ref (q 4), .ref (q 5), .ref (q 6), .int (iI iu), .int (iI ax), .int (iI ay), .int (iI ri), .long (lI lT), .long (lI lL), .long (lI hT), .long (lI hL), .int (iI ig)])), (q 1, .inl (cA, 12, .inl (zF Xs))), (q 2, .inl (cA, 12, .inl (zF Ys))), (q 3, .inl (cA, 12, .inl (zF Wt))), (q 4, .inl (cA, 12, .inl (zF Cp))), (q 5, .inl (cA, 12, .inl (zF sh))), (q 6, .inl (cA, 12, .inl (zF kp)))] H := hP
    have hD : va_D _ [(q 0, .inr (9, [.int (iI 1), .int (iI N), .ref (q 1), .ref (q 2), .ref (q 3), .ref (q 4), .ref (q 5), .ref (q 6), .int (iI iu), .int (iI ax), .int (iI ay), .int (iI ri), .long (lI lT), .long (lI lL), .long (lI hT), .long (lI hL), .int (iI ig)])), (q 1, .inl (cA, 12, .inl (zF Xs))), (q 2, .inl (cA, 12, .inl (zF Ys))), (q 3, .inl (cA, 12, .inl (zF Wt))), (q 4, .inl (cA, 12, .inl (zF Cp))), (q 5, .inl (cA, 12, .inl (zF sh))), (q 6, .inl (cA, 12, .inl (zF kp)))] := hD
    refine lv_aload_n hx hb dX8_sign_21 rfl (lv_at hl 0 rfl) ?_
    refine va_get (ci := 9) (v := .int (iI 1)) (C := RX8) (T := TX8) (N := 17) hx hb hts iz_X8_sign_X8 hown hK hP 0 rfl rfl 0 (by decide) (hts (.fieldLink RX8 28 "PowerPlotModel" "thrown" "I") (by decide +kernel)) (fun _ h9 => h9) rfl dX8_sign_22 ?_
    refine zi_if_le (tgt := 30) hx hb dX8_sign_25 (by decide) (by omega) (fun c25 => ?_) (fun c25 => ?_)
    · exact absurd c25 (by omega)
    · skip
      refine lv_iconst (v := iI 0) hx hb dX8_sign_28 rfl ?_
      exact W.zret (v := iI 0) (ty := .char) hx hb hr (iI_nch (by first | omega | exact zDt_rc (by omega) | fail)) (fun t ht hW => ⟨⟨iI 0, (1, 0), rfl, ⟨congrArg iI (by rfl), (by dsimp only; refine ⟨fun z => ?_, fun z => ?_⟩ <;> first | (exfalso; omega) | rfl | (refine ⟨rfl, ?_⟩; unfold zSgn; first | rw [if_pos (by omega)] | rw [if_neg (by omega), if_pos (by omega), if_pos (by omega)] | rw [if_neg (by omega), if_pos (by omega), if_neg (by omega), if_pos (by omega)] | rw [if_neg (by omega), if_pos (by omega), if_neg (by omega), if_neg (by omega), if_pos (by omega)] | rw [if_neg (by omega), if_pos (by omega), if_neg (by omega), if_neg (by omega), if_neg (by omega)] | rw [if_neg (by omega), if_neg (by omega), if_pos (by omega)] | rw [if_neg (by omega), if_neg (by omega), if_neg (by omega)] | fail) | fail)⟩, ⟨by rw [ht]; exact hP, hD⟩⟩, hS.F ht⟩) hS.2.2 dX8_sign_29
  · skip
    refine lv_iload_n hx hb dX8_sign_9 rfl (lv_at hl 2 rfl) ?_
    refine zi_if_ge (tgt := 17) hx hb dX8_sign_10 (by decide) (by omega) (fun c10 => ?_) (fun c10 => ?_)
    · skip
      refine lv_iconst (v := iI 0) hx hb dX8_sign_17 rfl ?_
      refine va_put (ci := 9) (v := .int (iI 0)) (ty := .int) (C := RX8) (T := TX8) (N := 17) hx hb hts iz_X8_sign_X8 tyX8 tyX8_ok nmX8 hown hK hP hD hS 0 rfl rfl 0 (by decide) (hts (.fieldLink RX8 28 "PowerPlotModel" "thrown" "I") (by decide +kernel)) (fun _ h9 => h9) rfl (by decide +kernel) rfl rfl (Nat.le_of_ble_eq_true rfl) dX8_sign_18 (fun H locs hP hD hS => ?_)
      have hP : va_P D vwCl [(q 0, .inr (9, [.int (iI 0), .int (iI N), .ref (q 1), .ref (q 2), .ref (q 3), .ref (q 4), .ref (q 5), .ref (q 6), .int (iI iu), .int (iI ax), .int (iI ay), .int (iI ri), .long (lI lT), .long (lI lL), .long (lI hT), .long (lI hL), .int (iI ig)])), (q 1, .inl (cA, 12, .inl (zF Xs))), (q 2, .inl (cA, 12, .inl (zF Ys))), (q 3, .inl (cA, 12, .inl (zF Wt))), (q 4, .inl (cA, 12, .inl (zF Cp))), (q 5, .inl (cA, 12, .inl (zF sh))), (q 6, .inl (cA, 12, .inl (zF kp)))] H := hP
      have hD : va_D _ [(q 0, .inr (9, [.int (iI 0), .int (iI N), .ref (q 1), .ref (q 2), .ref (q 3), .ref (q 4), .ref (q 5), .ref (q 6), .int (iI iu), .int (iI ax), .int (iI ay), .int (iI ri), .long (lI lT), .long (lI lL), .long (lI hT), .long (lI hL), .int (iI ig)])), (q 1, .inl (cA, 12, .inl (zF Xs))), (q 2, .inl (cA, 12, .inl (zF Ys))), (q 3, .inl (cA, 12, .inl (zF Wt))), (q 4, .inl (cA, 12, .inl (zF Cp))), (q 5, .inl (cA, 12, .inl (zF sh))), (q 6, .inl (cA, 12, .inl (zF kp)))] := hD
      refine lv_aload_n hx hb dX8_sign_21 rfl (lv_at hl 0 rfl) ?_
      refine va_get (ci := 9) (v := .int (iI 0)) (C := RX8) (T := TX8) (N := 17) hx hb hts iz_X8_sign_X8 hown hK hP 0 rfl rfl 0 (by decide) (hts (.fieldLink RX8 28 "PowerPlotModel" "thrown" "I") (by decide +kernel)) (fun _ h9 => h9) rfl dX8_sign_22 ?_
      refine zi_if_le (tgt := 30) hx hb dX8_sign_25 (by decide) (by omega) (fun c25 => ?_) (fun c25 => ?_)
      · skip
        refine lv_aload_n hx hb dX8_sign_30 rfl (lv_at hl 0 rfl) ?_
        refine va_get (ci := 9) (v := .ref (q 1)) (C := RX8) (T := TX8) (N := 17) hx hb hts iz_X8_sign_X8 hown hK hP 0 rfl rfl 2 (by decide) (hts (.fieldLink RX8 7 "PowerPlotModel" "x" "[I") (by decide +kernel)) (fun _ h9 => h9) rfl dX8_sign_31 ?_
        refine lv_iload_n hx hb dX8_sign_34 rfl (lv_at hl 1 rfl) ?_
        refine zi_iald hx hb hK hP 1 0 rfl hty (by decide) (by omega) dX8_sign_35 ?_
        refine zc_riS (As := [.int (iI (Xs k))]) (rest := []) ⟨hx, hb, hml, hown, hts⟩ (c_X8_digits l D _ tys cA hty (Xs k) (by omega)) (va_cwS 1 hts gX8_sign_X8_digits rfl rfl rfl (by decide +kernel) ⟨(Nat.le_of_ble_eq_true rfl), (Nat.le_of_ble_eq_true rfl)⟩) hP hK hD hS hA [] rfl rfl rfl hl.1 rfl (Nat.le_of_ble_eq_true rfl) dX8_sign_36 ⟨Nat.zero_le _, Nat.zero_le _⟩ (fun H locs hP hS => ?_)
        refine lv_istore_n (lv' := [(3, .int (iI (zDg (Xs k)))), (0, .ref (q 0)), (1, .int (iI k)), (2, .int (iI pl))]) hx hb dX8_sign_39 rfl hl (by decide) rfl (fun ls hl => ?_)
        refine lv_iload_n hx hb dX8_sign_40 rfl (lv_at hl 0 rfl) ?_
        refine lv_iconst (v := iI 1) hx hb dX8_sign_41 rfl ?_
        refine zi_iadd hx hb dX8_sign_42 ?_
        refine lv_aload_n hx hb dX8_sign_43 rfl (lv_at hl 1 rfl) ?_
        refine va_get (ci := 9) (v := .ref (q 2)) (C := RX8) (T := TX8) (N := 17) hx hb hts iz_X8_sign_X8 hown hK hP 0 rfl rfl 3 (by decide) (hts (.fieldLink RX8 13 "PowerPlotModel" "y" "[I") (by decide +kernel)) (fun _ h9 => h9) rfl dX8_sign_44 ?_
        refine lv_iload_n hx hb dX8_sign_47 rfl (lv_at hl 2 rfl) ?_
        refine zi_iald hx hb hK hP 2 0 rfl hty (by decide) (by omega) dX8_sign_48 ?_
        refine zc_riS (As := [.int (iI (Ys k))]) (rest := [.int (iI ((zDg (Xs k)) + 1))]) ⟨hx, hb, hml, hown, hts⟩ (c_X8_digits l D _ tys cA hty (Ys k) (by omega)) (va_cwS 1 hts gX8_sign_X8_digits rfl rfl rfl (by decide +kernel) ⟨(Nat.le_of_ble_eq_true rfl), (Nat.le_of_ble_eq_true rfl)⟩) hP hK hD hS hA [] rfl rfl rfl hl.1 rfl (Nat.le_of_ble_eq_true rfl) dX8_sign_49 ⟨Nat.zero_le _, Nat.zero_le _⟩ (fun H locs hP hS => ?_)
        refine zi_iadd hx hb dX8_sign_52 ?_
        refine lv_istore (lv' := [(4, .int (iI (((zDg (Xs k)) + 1) + (zDg (Ys k))))), (3, .int (iI (zDg (Xs k)))), (0, .ref (q 0)), (1, .int (iI k)), (2, .int (iI pl))]) hx hb dX8_sign_53 hl (by decide) rfl (fun ls hl => ?_)
        refine lv_aload_n hx hb dX8_sign_55 rfl (lv_at hl 2 rfl) ?_
        refine va_get (ci := 9) (v := .ref (q 3)) (C := RX8) (T := TX8) (N := 17) hx hb hts iz_X8_sign_X8 hown hK hP 0 rfl rfl 4 (by decide) (hts (.fieldLink RX8 16 "PowerPlotModel" "weight" "[I") (by decide +kernel)) (fun _ h9 => h9) rfl dX8_sign_56 ?_
        refine lv_iload_n hx hb dX8_sign_59 rfl (lv_at hl 3 rfl) ?_
        refine zi_iald hx hb hK hP 3 0 rfl hty (by decide) (by omega) dX8_sign_60 ?_
        refine zc_riS (As := [.int (iI (Wt k))]) (rest := []) ⟨hx, hb, hml, hown, hts⟩ (c_X8_size l D _ tys cA hty (Wt k) (by omega)) (va_cwS 1 hts gX8_sign_X8_size rfl rfl rfl (by decide +kernel) ⟨(Nat.le_of_ble_eq_true rfl), (Nat.le_of_ble_eq_true rfl)⟩) hP hK hD hS hA [] rfl rfl rfl hl.1 rfl (Nat.le_of_ble_eq_true rfl) dX8_sign_61 ⟨Nat.zero_le _, Nat.zero_le _⟩ (fun H locs hP hS => ?_)
        refine lv_istore (lv' := [(5, .int (iI (zab (Wt k)))), (4, .int (iI (((zDg (Xs k)) + 1) + (zDg (Ys k))))), (3, .int (iI (zDg (Xs k)))), (0, .ref (q 0)), (1, .int (iI k)), (2, .int (iI pl))]) hx hb dX8_sign_64 hl (by decide) rfl (fun ls hl => ?_)
        refine lv_iload_n hx hb dX8_sign_66 rfl (lv_at hl 5 rfl) ?_
        refine lv_iload_n hx hb dX8_sign_67 rfl (lv_at hl 2 rfl) ?_
        refine zi_icmp_ge (tgt := 82) hx hb dX8_sign_68 (by decide) (by omega) (by omega) (fun c68 => ?_) (fun c68 => ?_)
        · skip
          refine lv_iload_n hx hb dX8_sign_82 rfl (lv_at hl 5 rfl) ?_
          refine lv_iload hx hb dX8_sign_83 (lv_at hl 1 rfl) ?_
          refine zi_icmp_gt (tgt := 138) hx hb dX8_sign_85 (by decide) (by omega) (by omega) (fun c85 => ?_) (fun c85 => ?_)
          · skip
            refine lv_iload_n hx hb dX8_sign_138 rfl (lv_at hl 5 rfl) ?_
            refine lv_iload hx hb dX8_sign_139 (lv_at hl 1 rfl) ?_
            refine zi_isub hx hb dX8_sign_141 ?_
            refine lv_iconst (v := iI 1) hx hb dX8_sign_142 rfl ?_
            refine zi_isub hx hb dX8_sign_143 ?_
            refine lv_iload hx hb dX8_sign_144 (lv_at hl 0 rfl) ?_
            refine zc_riS (As := [.int (iI (zab (Wt k)))]) (rest := [.int (iI ((pl - (((zDg (Xs k)) + 1) + (zDg (Ys k)))) - 1))]) ⟨hx, hb, hml, hown, hts⟩ (c_X8_digits l D _ tys cA hty (zab (Wt k)) (by omega)) (va_cwS 1 hts gX8_sign_X8_digits rfl rfl rfl (by decide +kernel) ⟨(Nat.le_of_ble_eq_true rfl), (Nat.le_of_ble_eq_true rfl)⟩) hP hK hD hS hA [] rfl rfl rfl hl.1 rfl (Nat.le_of_ble_eq_true rfl) dX8_sign_146 ⟨Nat.zero_le _, Nat.zero_le _⟩ (fun H locs hP hS => ?_)
            refine zi_icmp_ge (tgt := 166) hx hb dX8_sign_149 (by decide) (by omega) (by omega) (fun c149 => ?_) (fun c149 => ?_)
            · skip
              refine lv_bipush (v := iI 32) hx hb dX8_sign_166 (by decide +kernel) ?_
              exact W.zret (v := iI 32) (ty := .char) hx hb hr (iI_nch (by first | omega | exact zDt_rc (by omega) | fail)) (fun t ht hW => ⟨⟨iI 32, (0, 32), rfl, ⟨congrArg iI (by rfl), (by dsimp only; refine ⟨fun z => ?_, fun z => ?_⟩ <;> first | (exfalso; omega) | rfl | (refine ⟨rfl, ?_⟩; unfold zSgn; first | rw [if_pos (by omega)] | rw [if_neg (by omega), if_pos (by omega), if_pos (by omega)] | rw [if_neg (by omega), if_pos (by omega), if_neg (by omega), if_pos (by omega)] | rw [if_neg (by omega), if_pos (by omega), if_neg (by omega), if_neg (by omega), if_pos (by omega)] | rw [if_neg (by omega), if_pos (by omega), if_neg (by omega), if_neg (by omega), if_neg (by omega)] | rw [if_neg (by omega), if_neg (by omega), if_pos (by omega)] | rw [if_neg (by omega), if_neg (by omega), if_neg (by omega)] | fail) | fail)⟩, ⟨by rw [ht]; exact hP, hD⟩⟩, hS.F ht⟩) hS.2.2 dX8_sign_168
            · skip
              refine lv_iload hx hb dX8_sign_152 (lv_at hl 0 rfl) ?_
              refine lv_iload_n hx hb dX8_sign_154 rfl (lv_at hl 5 rfl) ?_
              refine lv_iload hx hb dX8_sign_155 (lv_at hl 1 rfl) ?_
              refine zi_isub hx hb dX8_sign_157 ?_
              refine lv_iconst (v := iI 1) hx hb dX8_sign_158 rfl ?_
              refine zi_isub hx hb dX8_sign_159 ?_
              refine zc_riS (As := [.int (iI (zab (Wt k))), .int (iI ((pl - (((zDg (Xs k)) + 1) + (zDg (Ys k)))) - 1))]) (rest := []) ⟨hx, hb, hml, hown, hts⟩ (c_X8_digit l D _ tys cA hty (zab (Wt k)) ((pl - (((zDg (Xs k)) + 1) + (zDg (Ys k)))) - 1) (by omega) (by omega)) (va_cwS 2 hts gX8_sign_X8_digit rfl rfl rfl (by decide +kernel) ⟨(Nat.le_of_ble_eq_true rfl), (Nat.le_of_ble_eq_true rfl)⟩) hP hK hD hS hA [] rfl rfl rfl hl.1 rfl (Nat.le_of_ble_eq_true rfl) dX8_sign_160 ⟨Nat.zero_le _, Nat.zero_le _⟩ (fun H locs hP hS => ?_)
              refine lv_goto (tgt := 168) hx hb dX8_sign_163 (by decide) ?_
              exact W.zret (v := iI (zDt (zab (Wt k)) ((pl - (((zDg (Xs k)) + 1) + (zDg (Ys k)))) - 1))) (ty := .char) hx hb hr (iI_nch (by first | omega | exact zDt_rc (by omega) | fail)) (fun t ht hW => ⟨⟨iI (zDt (zab (Wt k)) ((pl - (((zDg (Xs k)) + 1) + (zDg (Ys k)))) - 1)), (0, zDt (zab (Wt k)) ((pl - (((zDg (Xs k)) + 1) + (zDg (Ys k)))) - 1)), rfl, ⟨congrArg iI (by rfl), (by dsimp only; refine ⟨fun z => ?_, fun z => ?_⟩ <;> first | (exfalso; omega) | rfl | (refine ⟨rfl, ?_⟩; unfold zSgn; first | rw [if_pos (by omega)] | rw [if_neg (by omega), if_pos (by omega), if_pos (by omega)] | rw [if_neg (by omega), if_pos (by omega), if_neg (by omega), if_pos (by omega)] | rw [if_neg (by omega), if_pos (by omega), if_neg (by omega), if_neg (by omega), if_pos (by omega)] | rw [if_neg (by omega), if_pos (by omega), if_neg (by omega), if_neg (by omega), if_neg (by omega)] | rw [if_neg (by omega), if_neg (by omega), if_pos (by omega)] | rw [if_neg (by omega), if_neg (by omega), if_neg (by omega)] | fail) | fail)⟩, ⟨by rw [ht]; exact hP, hD⟩⟩, hS.F ht⟩) hS.2.2 dX8_sign_168
          · skip
            refine lv_iload_n hx hb dX8_sign_88 rfl (lv_at hl 5 rfl) ?_
            refine lv_iload_n hx hb dX8_sign_89 rfl (lv_at hl 2 rfl) ?_
            refine zi_icmp_ne (tgt := 98) hx hb dX8_sign_90 (by decide) (by omega) (by omega) (fun c90 => ?_) (fun c90 => ?_)
            · skip
              refine lv_iload_n hx hb dX8_sign_98 rfl (lv_at hl 5 rfl) ?_
              refine lv_iload hx hb dX8_sign_99 (lv_at hl 1 rfl) ?_
              refine zi_icmp_ge (tgt := 121) hx hb dX8_sign_101 (by decide) (by omega) (by omega) (fun c101 => ?_) (fun c101 => ?_)
              · skip
                refine lv_aload_n hx hb dX8_sign_121 rfl (lv_at hl 3 rfl) ?_
                refine va_get (ci := 9) (v := .ref (q 3)) (C := RX8) (T := TX8) (N := 17) hx hb hts iz_X8_sign_X8 hown hK hP 0 rfl rfl 4 (by decide) (hts (.fieldLink RX8 16 "PowerPlotModel" "weight" "[I") (by decide +kernel)) (fun _ h9 => h9) rfl dX8_sign_122 ?_
                refine lv_iload_n hx hb dX8_sign_125 rfl (lv_at hl 4 rfl) ?_
                refine zi_iald hx hb hK hP 3 0 rfl hty (by decide) (by omega) dX8_sign_126 ?_
                refine zi_if_ge (tgt := 135) hx hb dX8_sign_127 (by decide) (by omega) (fun c127 => ?_) (fun c127 => ?_)
                · skip
                  refine lv_bipush (v := iI 43) hx hb dX8_sign_135 (by decide +kernel) ?_
                  exact W.zret (v := iI 43) (ty := .char) hx hb hr (iI_nch (by first | omega | exact zDt_rc (by omega) | fail)) (fun t ht hW => ⟨⟨iI 43, (0, 43), rfl, ⟨congrArg iI (by rfl), (by dsimp only; refine ⟨fun z => ?_, fun z => ?_⟩ <;> first | (exfalso; omega) | rfl | (refine ⟨rfl, ?_⟩; unfold zSgn; first | rw [if_pos (by omega)] | rw [if_neg (by omega), if_pos (by omega), if_pos (by omega)] | rw [if_neg (by omega), if_pos (by omega), if_neg (by omega), if_pos (by omega)] | rw [if_neg (by omega), if_pos (by omega), if_neg (by omega), if_neg (by omega), if_pos (by omega)] | rw [if_neg (by omega), if_pos (by omega), if_neg (by omega), if_neg (by omega), if_neg (by omega)] | rw [if_neg (by omega), if_neg (by omega), if_pos (by omega)] | rw [if_neg (by omega), if_neg (by omega), if_neg (by omega)] | fail) | fail)⟩, ⟨by rw [ht]; exact hP, hD⟩⟩, hS.F ht⟩) hS.2.2 dX8_sign_137
                · skip
                  refine lv_bipush (v := iI 45) hx hb dX8_sign_130 (by decide +kernel) ?_
                  refine lv_goto (tgt := 137) hx hb dX8_sign_132 (by decide) ?_
                  exact W.zret (v := iI 45) (ty := .char) hx hb hr (iI_nch (by first | omega | exact zDt_rc (by omega) | fail)) (fun t ht hW => ⟨⟨iI 45, (0, 45), rfl, ⟨congrArg iI (by rfl), (by dsimp only; refine ⟨fun z => ?_, fun z => ?_⟩ <;> first | (exfalso; omega) | rfl | (refine ⟨rfl, ?_⟩; unfold zSgn; first | rw [if_pos (by omega)] | rw [if_neg (by omega), if_pos (by omega), if_pos (by omega)] | rw [if_neg (by omega), if_pos (by omega), if_neg (by omega), if_pos (by omega)] | rw [if_neg (by omega), if_pos (by omega), if_neg (by omega), if_neg (by omega), if_pos (by omega)] | rw [if_neg (by omega), if_pos (by omega), if_neg (by omega), if_neg (by omega), if_neg (by omega)] | rw [if_neg (by omega), if_neg (by omega), if_pos (by omega)] | rw [if_neg (by omega), if_neg (by omega), if_neg (by omega)] | fail) | fail)⟩, ⟨by rw [ht]; exact hP, hD⟩⟩, hS.F ht⟩) hS.2.2 dX8_sign_137
              · skip
                refine lv_aload_n hx hb dX8_sign_104 rfl (lv_at hl 3 rfl) ?_
                refine va_get (ci := 9) (v := .ref (q 2)) (C := RX8) (T := TX8) (N := 17) hx hb hts iz_X8_sign_X8 hown hK hP 0 rfl rfl 3 (by decide) (hts (.fieldLink RX8 13 "PowerPlotModel" "y" "[I") (by decide +kernel)) (fun _ h9 => h9) rfl dX8_sign_105 ?_
                refine lv_iload_n hx hb dX8_sign_108 rfl (lv_at hl 4 rfl) ?_
                refine zi_iald hx hb hK hP 2 0 rfl hty (by decide) (by omega) dX8_sign_109 ?_
                refine lv_iload_n hx hb dX8_sign_110 rfl (lv_at hl 5 rfl) ?_
                refine lv_iload_n hx hb dX8_sign_111 rfl (lv_at hl 2 rfl) ?_
                refine zi_isub hx hb dX8_sign_112 ?_
                refine lv_iconst (v := iI 1) hx hb dX8_sign_113 rfl ?_
                refine zi_isub hx hb dX8_sign_114 ?_
                refine zc_riS (As := [.int (iI (Ys k)), .int (iI ((pl - (zDg (Xs k))) - 1))]) (rest := []) ⟨hx, hb, hml, hown, hts⟩ (c_X8_digit l D _ tys cA hty (Ys k) ((pl - (zDg (Xs k))) - 1) (by omega) (by omega)) (va_cwS 2 hts gX8_sign_X8_digit rfl rfl rfl (by decide +kernel) ⟨(Nat.le_of_ble_eq_true rfl), (Nat.le_of_ble_eq_true rfl)⟩) hP hK hD hS hA [] rfl rfl rfl hl.1 rfl (Nat.le_of_ble_eq_true rfl) dX8_sign_115 ⟨Nat.zero_le _, Nat.zero_le _⟩ (fun H locs hP hS => ?_)
                refine lv_goto (tgt := 137) hx hb dX8_sign_118 (by decide) ?_
                exact W.zret (v := iI (zDt (Ys k) ((pl - (zDg (Xs k))) - 1))) (ty := .char) hx hb hr (iI_nch (by first | omega | exact zDt_rc (by omega) | fail)) (fun t ht hW => ⟨⟨iI (zDt (Ys k) ((pl - (zDg (Xs k))) - 1)), (0, zDt (Ys k) ((pl - (zDg (Xs k))) - 1)), rfl, ⟨congrArg iI (by rfl), (by dsimp only; refine ⟨fun z => ?_, fun z => ?_⟩ <;> first | (exfalso; omega) | rfl | (refine ⟨rfl, ?_⟩; unfold zSgn; first | rw [if_pos (by omega)] | rw [if_neg (by omega), if_pos (by omega), if_pos (by omega)] | rw [if_neg (by omega), if_pos (by omega), if_neg (by omega), if_pos (by omega)] | rw [if_neg (by omega), if_pos (by omega), if_neg (by omega), if_neg (by omega), if_pos (by omega)] | rw [if_neg (by omega), if_pos (by omega), if_neg (by omega), if_neg (by omega), if_neg (by omega)] | rw [if_neg (by omega), if_neg (by omega), if_pos (by omega)] | rw [if_neg (by omega), if_neg (by omega), if_neg (by omega)] | fail) | fail)⟩, ⟨by rw [ht]; exact hP, hD⟩⟩, hS.F ht⟩) hS.2.2 dX8_sign_137
            · skip
              refine lv_bipush (v := iI 44) hx hb dX8_sign_93 (by decide +kernel) ?_
              refine lv_goto (tgt := 137) hx hb dX8_sign_95 (by decide) ?_
              exact W.zret (v := iI 44) (ty := .char) hx hb hr (iI_nch (by first | omega | exact zDt_rc (by omega) | fail)) (fun t ht hW => ⟨⟨iI 44, (0, 44), rfl, ⟨congrArg iI (by rfl), (by dsimp only; refine ⟨fun z => ?_, fun z => ?_⟩ <;> first | (exfalso; omega) | rfl | (refine ⟨rfl, ?_⟩; unfold zSgn; first | rw [if_pos (by omega)] | rw [if_neg (by omega), if_pos (by omega), if_pos (by omega)] | rw [if_neg (by omega), if_pos (by omega), if_neg (by omega), if_pos (by omega)] | rw [if_neg (by omega), if_pos (by omega), if_neg (by omega), if_neg (by omega), if_pos (by omega)] | rw [if_neg (by omega), if_pos (by omega), if_neg (by omega), if_neg (by omega), if_neg (by omega)] | rw [if_neg (by omega), if_neg (by omega), if_pos (by omega)] | rw [if_neg (by omega), if_neg (by omega), if_neg (by omega)] | fail) | fail)⟩, ⟨by rw [ht]; exact hP, hD⟩⟩, hS.F ht⟩) hS.2.2 dX8_sign_137
        · skip
          refine lv_aload_n hx hb dX8_sign_71 rfl (lv_at hl 3 rfl) ?_
          refine va_get (ci := 9) (v := .ref (q 1)) (C := RX8) (T := TX8) (N := 17) hx hb hts iz_X8_sign_X8 hown hK hP 0 rfl rfl 2 (by decide) (hts (.fieldLink RX8 7 "PowerPlotModel" "x" "[I") (by decide +kernel)) (fun _ h9 => h9) rfl dX8_sign_72 ?_
          refine lv_iload_n hx hb dX8_sign_75 rfl (lv_at hl 4 rfl) ?_
          refine zi_iald hx hb hK hP 1 0 rfl hty (by decide) (by omega) dX8_sign_76 ?_
          refine lv_iload_n hx hb dX8_sign_77 rfl (lv_at hl 5 rfl) ?_
          refine zc_riS (As := [.int (iI (Xs k)), .int (iI pl)]) (rest := []) ⟨hx, hb, hml, hown, hts⟩ (c_X8_digit l D _ tys cA hty (Xs k) pl (by omega) (by omega)) (va_cwS 2 hts gX8_sign_X8_digit rfl rfl rfl (by decide +kernel) ⟨(Nat.le_of_ble_eq_true rfl), (Nat.le_of_ble_eq_true rfl)⟩) hP hK hD hS hA [] rfl rfl rfl hl.1 rfl (Nat.le_of_ble_eq_true rfl) dX8_sign_78 ⟨Nat.zero_le _, Nat.zero_le _⟩ (fun H locs hP hS => ?_)
          exact W.zret (v := iI (zDt (Xs k) pl)) (ty := .char) hx hb hr (iI_nch (by first | omega | exact zDt_rc (by omega) | fail)) (fun t ht hW => ⟨⟨iI (zDt (Xs k) pl), (0, zDt (Xs k) pl), rfl, ⟨congrArg iI (by rfl), (by dsimp only; refine ⟨fun z => ?_, fun z => ?_⟩ <;> first | (exfalso; omega) | rfl | (refine ⟨rfl, ?_⟩; unfold zSgn; first | rw [if_pos (by omega)] | rw [if_neg (by omega), if_pos (by omega), if_pos (by omega)] | rw [if_neg (by omega), if_pos (by omega), if_neg (by omega), if_pos (by omega)] | rw [if_neg (by omega), if_pos (by omega), if_neg (by omega), if_neg (by omega), if_pos (by omega)] | rw [if_neg (by omega), if_pos (by omega), if_neg (by omega), if_neg (by omega), if_neg (by omega)] | rw [if_neg (by omega), if_neg (by omega), if_pos (by omega)] | rw [if_neg (by omega), if_neg (by omega), if_neg (by omega)] | fail) | fail)⟩, ⟨by rw [ht]; exact hP, hD⟩⟩, hS.F ht⟩) hS.2.2 dX8_sign_81
      · exact absurd c25 (by omega)
    · skip
      refine lv_iconst (v := iI 1) hx hb dX8_sign_13 rfl ?_
      refine lv_goto (tgt := 18) hx hb dX8_sign_14 (by decide) ?_
      refine va_put (ci := 9) (v := .int (iI 1)) (ty := .int) (C := RX8) (T := TX8) (N := 17) hx hb hts iz_X8_sign_X8 tyX8 tyX8_ok nmX8 hown hK hP hD hS 0 rfl rfl 0 (by decide) (hts (.fieldLink RX8 28 "PowerPlotModel" "thrown" "I") (by decide +kernel)) (fun _ h9 => h9) rfl (by decide +kernel) rfl rfl (Nat.le_of_ble_eq_true rfl) dX8_sign_18 (fun H locs hP hD hS => ?_)
      have hP : va_P D vwCl [(q 0, .inr (9, [.int (iI 1), .int (iI N), .ref (q 1), .ref (q 2), .ref (q 3), .ref (q 4), .ref (q 5), .ref (q 6), .int (iI iu), .int (iI ax), .int (iI ay), .int (iI ri), .long (lI lT), .long (lI lL), .long (lI hT), .long (lI hL), .int (iI ig)])), (q 1, .inl (cA, 12, .inl (zF Xs))), (q 2, .inl (cA, 12, .inl (zF Ys))), (q 3, .inl (cA, 12, .inl (zF Wt))), (q 4, .inl (cA, 12, .inl (zF Cp))), (q 5, .inl (cA, 12, .inl (zF sh))), (q 6, .inl (cA, 12, .inl (zF kp)))] H := hP
      have hD : va_D _ [(q 0, .inr (9, [.int (iI 1), .int (iI N), .ref (q 1), .ref (q 2), .ref (q 3), .ref (q 4), .ref (q 5), .ref (q 6), .int (iI iu), .int (iI ax), .int (iI ay), .int (iI ri), .long (lI lT), .long (lI lL), .long (lI hT), .long (lI hL), .int (iI ig)])), (q 1, .inl (cA, 12, .inl (zF Xs))), (q 2, .inl (cA, 12, .inl (zF Ys))), (q 3, .inl (cA, 12, .inl (zF Wt))), (q 4, .inl (cA, 12, .inl (zF Cp))), (q 5, .inl (cA, 12, .inl (zF sh))), (q 6, .inl (cA, 12, .inl (zF kp)))] := hD
      refine lv_aload_n hx hb dX8_sign_21 rfl (lv_at hl 0 rfl) ?_
      refine va_get (ci := 9) (v := .int (iI 1)) (C := RX8) (T := TX8) (N := 17) hx hb hts iz_X8_sign_X8 hown hK hP 0 rfl rfl 0 (by decide) (hts (.fieldLink RX8 28 "PowerPlotModel" "thrown" "I") (by decide +kernel)) (fun _ h9 => h9) rfl dX8_sign_22 ?_
      refine zi_if_le (tgt := 30) hx hb dX8_sign_25 (by decide) (by omega) (fun c25 => ?_) (fun c25 => ?_)
      · exact absurd c25 (by omega)
      · skip
        refine lv_iconst (v := iI 0) hx hb dX8_sign_28 rfl ?_
        exact W.zret (v := iI 0) (ty := .char) hx hb hr (iI_nch (by first | omega | exact zDt_rc (by omega) | fail)) (fun t ht hW => ⟨⟨iI 0, (1, 0), rfl, ⟨congrArg iI (by rfl), (by dsimp only; refine ⟨fun z => ?_, fun z => ?_⟩ <;> first | (exfalso; omega) | rfl | (refine ⟨rfl, ?_⟩; unfold zSgn; first | rw [if_pos (by omega)] | rw [if_neg (by omega), if_pos (by omega), if_pos (by omega)] | rw [if_neg (by omega), if_pos (by omega), if_neg (by omega), if_pos (by omega)] | rw [if_neg (by omega), if_pos (by omega), if_neg (by omega), if_neg (by omega), if_pos (by omega)] | rw [if_neg (by omega), if_pos (by omega), if_neg (by omega), if_neg (by omega), if_neg (by omega)] | rw [if_neg (by omega), if_neg (by omega), if_pos (by omega)] | rw [if_neg (by omega), if_neg (by omega), if_neg (by omega)] | fail) | fail)⟩, ⟨by rw [ht]; exact hP, hD⟩⟩, hS.F ht⟩) hS.2.2 dX8_sign_29
