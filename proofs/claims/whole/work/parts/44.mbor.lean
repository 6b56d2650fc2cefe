theorem iz_X8_cuts_X8 : ∀ w ∈ u_ws RX8 TX8 17, w ∈ wsX8_cuts := by decide +kernel
set_option maxHeartbeats 4000000 in
set_option maxRecDepth 100000 in
/-- PowerPlotModel.cuts -/
theorem c_X8_cuts (l : Launch) (D : va_G) (sz : Nat) (tys : List (ClassId × FieldType)) (cA : ClassId) (hty : tys[0]? = some (cA, .int)) (q : Nat → Nat) (th N : Int) (Xs Ys Wt Cp sh kp : Int → Int) (iu ax ay ri lT lL hT hL ig : Int) (tv mv : Int) (gF : zFc lT lL hT hL) (ge : 0 ≤ ig ∧ ig ≤ 1) (gt : -12800 ≤ tv ∧ tv ≤ 12800) (gm : -831680 ≤ mv ∧ mv ≤ 831680) : Met l yX8_cuts wsX8_cuts ({ frames := 0, cells := 0, slots := 0, locals := 0 }) (zP D [.ref (q 0), .long (lI tv), .long (lI mv)] sz [(q 0, .inr (9, [.int (iI th), .int (iI N), .ref (q 1), .ref (q 2), .ref (q 3), .ref (q 4), .ref (q 5), .ref (q 6), .int (iI iu), .int (iI ax), .int (iI ay), .int (iI ri), .long (lI lT), .long (lI lL), .long (lI hT), .long (lI hL), .int (iI ig)])), (q 1, .inl (cA, 12, .inl (zF Xs))), (q 2, .inl (cA, 12, .inl (zF Ys))), (q 3, .inl (cA, 12, .inl (zF Wt))), (q 4, .inl (cA, 12, .inl (zF Cp))), (q 5, .inl (cA, 12, .inl (zF sh))), (q 6, .inl (cA, 12, .inl (zF kp)))] tys) (zWv (fun (u : Int × Int × Int × Int × Int) => (u.1, u.2.1, u.2.2.1, u.2.2.2.1, u.2.2.2.2) = zCut tv mv ig lT lL hT hL ∧ zFc u.2.1 u.2.2.1 u.2.2.2.1 u.2.2.2.2 ∧ 0 ≤ u.1 ∧ u.1 ≤ 1) D (fun (u : Int × Int × Int × Int × Int) => [(q 0, .inr (9, [.int (iI th), .int (iI N), .ref (q 1), .ref (q 2), .ref (q 3), .ref (q 4), .ref (q 5), .ref (q 6), .int (iI iu), .int (iI ax), .int (iI ay), .int (iI ri), .long (lI u.2.1), .long (lI u.2.2.1), .long (lI u.2.2.2.1), .long (lI u.2.2.2.2), .int (iI u.1)])), (q 1, .inl (cA, 12, .inl (zF Xs))), (q 2, .inl (cA, 12, .inl (zF Ys))), (q 3, .inl (cA, 12, .inl (zF Wt))), (q 4, .inl (cA, 12, .inl (zF Cp))), (q 5, .inl (cA, 12, .inl (zF sh))), (q 6, .inl (cA, 12, .inl (zF kp)))]) [(q 0, .inr (9, [.int (iI th), .int (iI N), .ref (q 1), .ref (q 2), .ref (q 3), .ref (q 4), .ref (q 5), .ref (q 6), .int (iI iu), .int (iI ax), .int (iI ay), .int (iI ri), .long (lI lT), .long (lI lL), .long (lI hT), .long (lI hL), .int (iI ig)])), (q 1, .inl (cA, 12, .inl (zF Xs))), (q 2, .inl (cA, 12, .inl (zF Ys))), (q 3, .inl (cA, 12, .inl (zF Wt))), (q 4, .inl (cA, 12, .inl (zF Cp))), (q 5, .inl (cA, 12, .inl (zF sh))), (q 6, .inl (cA, 12, .inl (zF kp)))] sz) 0 0 (va_A [(q 0, .inr (9, [.int (iI th), .int (iI N), .ref (q 1), .ref (q 2), .ref (q 3), .ref (q 4), .ref (q 5), .ref (q 6), .int (iI iu), .int (iI ax), .int (iI ay), .int (iI ri), .long (lI lT), .long (lI lL), .long (lI hT), .long (lI hL), .int (iI ig)])), (q 1, .inl (cA, 12, .inl (zF Xs))), (q 2, .inl (cA, 12, .inl (zF Ys))), (q 3, .inl (cA, 12, .inl (zF Wt))), (q 4, .inl (cA, 12, .inl (zF Cp))), (q 5, .inl (cA, 12, .inl (zF sh))), (q 6, .inl (cA, 12, .inl (zF kp)))] sz) := by
  refine Met.ofW (cc := cX8_cuts) (maxL := 6) (ret := none) (by decide +kernel) rfl ?_
  intro p e s m args below meth c s₁ B hml hv
  obtain ⟨rfl, hsz, hP, hK, hD0⟩ := hv
  have hx := B.exec
  have hb := B.bytes
  have hr := B.returns
  have hts := atoms_spec (ws := wsX8_cuts) B.pre
  have hown : s.vm.findClass RX8 = some m.cls := findClass_of_methodNamed B.named
  have hlocks := B.notSynchronized
  subst hsz
  have hD : va_D (va_A [(q 0, .inr (9, [.int (iI th), .int (iI N), .ref (q 1), .ref (q 2), .ref (q 3), .ref (q 4), .ref (q 5), .ref (q 6), .int (iI iu), .int (iI ax), .int (iI ay), .int (iI ri), .long (lI lT), .long (lI lL), .long (lI hT), .long (lI hL), .int (iI ig)])), (q 1, .inl (cA, 12, .inl (zF Xs))), (q 2, .inl (cA, 12, .inl (zF Ys))), (q 3, .inl (cA, 12, .inl (zF Wt))), (q 4, .inl (cA, 12, .inl (zF Cp))), (q 5, .inl (cA, 12, .inl (zF sh))), (q 6, .inl (cA, 12, .inl (zF kp)))] s.heap.size) [(q 0, .inr (9, [.int (iI th), .int (iI N), .ref (q 1), .ref (q 2), .ref (q 3), .ref (q 4), .ref (q 5), .ref (q 6), .int (iI iu), .int (iI ax), .int (iI ay), .int (iI ri), .long (lI lT), .long (lI lL), .long (lI hT), .long (lI hL), .int (iI ig)])), (q 1, .inl (cA, 12, .inl (zF Xs))), (q 2, .inl (cA, 12, .inl (zF Ys))), (q 3, .inl (cA, 12, .inl (zF Wt))), (q 4, .inl (cA, 12, .inl (zF Cp))), (q 5, .inl (cA, 12, .inl (zF sh))), (q 6, .inl (cA, 12, .inl (zF kp)))] := hD0.self
  have hS : va_S (va_A [(q 0, .inr (9, [.int (iI th), .int (iI N), .ref (q 1), .ref (q 2), .ref (q 3), .ref (q 4), .ref (q 5), .ref (q 6), .int (iI iu), .int (iI ax), .int (iI ay), .int (iI ri), .long (lI lT), .long (lI lL), .long (lI hT), .long (lI hL), .int (iI ig)])), (q 1, .inl (cA, 12, .inl (zF Xs))), (q 2, .inl (cA, 12, .inl (zF Ys))), (q 3, .inl (cA, 12, .inl (zF Wt))), (q 4, .inl (cA, 12, .inl (zF Cp))), (q 5, .inl (cA, 12, .inl (zF sh))), (q 6, .inl (cA, 12, .inl (zF kp)))] s.heap.size) s.heap s.heap [] := va_S.rf
  have hA : ∀ q9 : Nat, s.heap.size ≤ q9 → (va_A [(q 0, .inr (9, [.int (iI th), .int (iI N), .ref (q 1), .ref (q 2), .ref (q 3), .ref (q 4), .ref (q 5), .ref (q 6), .int (iI iu), .int (iI ax), .int (iI ay), .int (iI ri), .long (lI lT), .long (lI lL), .long (lI hT), .long (lI hL), .int (iI ig)])), (q 1, .inl (cA, 12, .inl (zF Xs))), (q 2, .inl (cA, 12, .inl (zF Ys))), (q 3, .inl (cA, 12, .inl (zF Wt))), (q 4, .inl (cA, 12, .inl (zF Cp))), (q 5, .inl (cA, 12, .inl (zF sh))), (q 6, .inl (cA, 12, .inl (zF kp)))] s.heap.size) q9 := fun q9 h => Or.inr h
  have hl := lv_entry ([.ref (q 0), .long (lI tv), .long (lI mv)]) (n := 6) (Nat.le_of_ble_eq_true rfl)
  rw [lg_entry_eq]
  generalize (lg_sl ([.ref (q 0), .long (lI tv), .long (lI mv)]) ++ List.replicate (6 - (lg_sl ([.ref (q 0), .long (lI tv), .long (lI mv)])).length) Slot.unset).toArray = ls at hl ⊢
  have hl : lv_has ls 6 [(0, .ref (q 0)), (1, .long (lI tv)), (3, .long (lI mv))] := hl
  have y3 := gF.1
  have y4 := gF.2.1
  have y5 := gF.2.2.1
  have y6 := gF.2.2.2
  have y7 := zm_le (a := mv) (b := hL) (A := 831680) (B := 12800) gm (by omega)
  have y8 := zm_le (a := hT) (b := tv) (A := 831680) (B := 12800) y5 gt
  have y9 := zm_le (a := -mv) (b := lL) (A := 831680) (B := 12800) (by omega) (by omega)
  have y10 := zm_le (a := lT) (b := -tv) (A := 831680) (B := 12800) y3 (by omega)
  refine lv_lload_n hx hb dX8_cuts_0 rfl (lv_at hl 1 rfl) ?_
  refine lv_lconst (v := lI 0) hx hb dX8_cuts_1 (by decide +kernel) ?_
  refine zl_if_ne (tgt := 31) hx hb dX8_cuts_2 dX8_cuts_3 (by decide) (by omega) (by omega) (fun c2 => ?_) (fun c2 => ?_)
  · skip
    refine lv_lload_n hx hb dX8_cuts_31 rfl (lv_at hl 1 rfl) ?_
    refine lv_lconst (v := lI 0) hx hb dX8_cuts_32 (by decide +kernel) ?_
    refine zl_if_le (tgt := 97) hx hb dX8_cuts_33 dX8_cuts_34 (by decide) (by omega) (by omega) (fun c33 => ?_) (fun c33 => ?_)
    · skip
      refine lv_lload_n hx hb dX8_cuts_97 rfl (lv_at hl 2 rfl) ?_
      refine zl_lneg hx hb dX8_cuts_98 ?_
      refine lv_aload_n hx hb dX8_cuts_99 rfl (lv_at hl 0 rfl) ?_
      refine va_get (ci := 9) (v := .long (lI lL)) (C := RX8) (T := TX8) (N := 17) hx hb hts iz_X8_cuts_X8 hown hK hP 0 rfl rfl 13 (by decide) (hts (.fieldLink RX8 93 "PowerPlotModel" "lowLine" "J") (by decide +kernel)) (fun _ h9 => h9) rfl dX8_cuts_100 ?_
      refine zl_lmul hx hb dX8_cuts_103 ?_
      refine lv_aload_n hx hb dX8_cuts_104 rfl (lv_at hl 0 rfl) ?_
      refine va_get (ci := 9) (v := .long (lI lT)) (C := RX8) (T := TX8) (N := 17) hx hb hts iz_X8_cuts_X8 hown hK hP 0 rfl rfl 12 (by decide) (hts (.fieldLink RX8 96 "PowerPlotModel" "lowTop" "J") (by decide +kernel)) (fun _ h9 => h9) rfl dX8_cuts_105 ?_
      refine lv_lload_n hx hb dX8_cuts_108 rfl (lv_at hl 1 rfl) ?_
      refine zl_lneg hx hb dX8_cuts_109 ?_
      refine zl_lmul hx hb dX8_cuts_110 ?_
      refine zl_if_le (tgt := 119) hx hb dX8_cuts_111 dX8_cuts_112 (by decide) (by omega) (by omega) (fun c111 => ?_) (fun c111 => ?_)
      · skip
        refine lv_iconst (v := iI 0) hx hb dX8_cuts_119 rfl ?_
        refine lv_istore (lv' := [(5, .int (iI 0)), (0, .ref (q 0)), (1, .long (lI tv)), (3, .long (lI mv))]) hx hb dX8_cuts_120 hl (by decide) rfl (fun ls hl => ?_)
        refine lv_aload_n hx hb dX8_cuts_122 rfl (lv_at hl 1 rfl) ?_
        refine lv_iload hx hb dX8_cuts_123 (lv_at hl 0 rfl) ?_
        refine zi_if_eq (tgt := 133) hx hb dX8_cuts_125 (by decide) (by omega) (fun c125 => ?_) (fun c125 => ?_)
        · skip
          refine lv_aload_n hx hb dX8_cuts_133 rfl (lv_at hl 1 rfl) ?_
          refine va_get (ci := 9) (v := .long (lI lT)) (C := RX8) (T := TX8) (N := 17) hx hb hts iz_X8_cuts_X8 hown hK hP 0 rfl rfl 12 (by decide) (hts (.fieldLink RX8 96 "PowerPlotModel" "lowTop" "J") (by decide +kernel)) (fun _ h9 => h9) rfl dX8_cuts_134 ?_
          refine va_put (ci := 9) (v := .long (lI lT)) (ty := .long) (C := RX8) (T := TX8) (N := 17) hx hb hts iz_X8_cuts_X8 tyX8 tyX8_ok nmX8 hown hK hP hD hS 0 rfl rfl 12 (by decide) (hts (.fieldLink RX8 96 "PowerPlotModel" "lowTop" "J") (by decide +kernel)) (fun _ h9 => h9) rfl (by decide +kernel) rfl rfl (Nat.le_of_ble_eq_true rfl) dX8_cuts_137 (fun H locs hP hD hS => ?_)
          have hP : va_P D vwCl [(q 0, .inr (9, [.int (iI th), .int (iI N), .ref (q 1), .ref (q 2), .ref (q 3), .ref (q 4), .ref (q 5), .ref (q 6), .int (iI iu), .int (iI ax), .int (iI ay), .int (iI ri), .long (lI lT), .long (lI lL), .long (lI hT), .long (lI hL), .int (iI ig)])), (q 1, .inl (cA, 12, .inl (zF Xs))), (q 2, .inl (cA, 12, .inl (zF Ys))), (q 3, .inl (cA, 12, .inl (zF Wt))), (q 4, .inl (cA, 12, .inl (zF Cp))), (q 5, .inl (cA, 12, .inl (zF sh))), (q 6, .inl (cA, 12, .inl (zF kp)))] H := hP
          have hD : va_D _ [(q 0, .inr (9, [.int (iI th), .int (iI N), .ref (q 1), .ref (q 2), .ref (q 3), .ref (q 4), .ref (q 5), .ref (q 6), .int (iI iu), .int (iI ax), .int (iI ay), .int (iI ri), .long (lI lT), .long (lI lL), .long (lI hT), .long (lI hL), .int (iI ig)])), (q 1, .inl (cA, 12, .inl (zF Xs))), (q 2, .inl (cA, 12, .inl (zF Ys))), (q 3, .inl (cA, 12, .inl (zF Wt))), (q 4, .inl (cA, 12, .inl (zF Cp))), (q 5, .inl (cA, 12, .inl (zF sh))), (q 6, .inl (cA, 12, .inl (zF kp)))] := hD
          refine lv_aload_n hx hb dX8_cuts_140 rfl (lv_at hl 1 rfl) ?_
          refine lv_iload hx hb dX8_cuts_141 (lv_at hl 0 rfl) ?_
          refine zi_if_eq (tgt := 151) hx hb dX8_cuts_143 (by decide) (by omega) (fun c143 => ?_) (fun c143 => ?_)
          · skip
            refine lv_aload_n hx hb dX8_cuts_151 rfl (lv_at hl 1 rfl) ?_
            refine va_get (ci := 9) (v := .long (lI lL)) (C := RX8) (T := TX8) (N := 17) hx hb hts iz_X8_cuts_X8 hown hK hP 0 rfl rfl 13 (by decide) (hts (.fieldLink RX8 93 "PowerPlotModel" "lowLine" "J") (by decide +kernel)) (fun _ h9 => h9) rfl dX8_cuts_152 ?_
            refine va_put (ci := 9) (v := .long (lI lL)) (ty := .long) (C := RX8) (T := TX8) (N := 17) hx hb hts iz_X8_cuts_X8 tyX8 tyX8_ok nmX8 hown hK hP hD hS 0 rfl rfl 13 (by decide) (hts (.fieldLink RX8 93 "PowerPlotModel" "lowLine" "J") (by decide +kernel)) (fun _ h9 => h9) rfl (by decide +kernel) rfl rfl (Nat.le_of_ble_eq_true rfl) dX8_cuts_155 (fun H locs hP hD hS => ?_)
            have hP : va_P D vwCl [(q 0, .inr (9, [.int (iI th), .int (iI N), .ref (q 1), .ref (q 2), .ref (q 3), .ref (q 4), .ref (q 5), .ref (q 6), .int (iI iu), .int (iI ax), .int (iI ay), .int (iI ri), .long (lI lT), .long (lI lL), .long (lI hT), .long (lI hL), .int (iI ig)])), (q 1, .inl (cA, 12, .inl (zF Xs))), (q 2, .inl (cA, 12, .inl (zF Ys))), (q 3, .inl (cA, 12, .inl (zF Wt))), (q 4, .inl (cA, 12, .inl (zF Cp))), (q 5, .inl (cA, 12, .inl (zF sh))), (q 6, .inl (cA, 12, .inl (zF kp)))] H := hP
            have hD : va_D _ [(q 0, .inr (9, [.int (iI th), .int (iI N), .ref (q 1), .ref (q 2), .ref (q 3), .ref (q 4), .ref (q 5), .ref (q 6), .int (iI iu), .int (iI ax), .int (iI ay), .int (iI ri), .long (lI lT), .long (lI lL), .long (lI hT), .long (lI hL), .int (iI ig)])), (q 1, .inl (cA, 12, .inl (zF Xs))), (q 2, .inl (cA, 12, .inl (zF Ys))), (q 3, .inl (cA, 12, .inl (zF Wt))), (q 4, .inl (cA, 12, .inl (zF Cp))), (q 5, .inl (cA, 12, .inl (zF sh))), (q 6, .inl (cA, 12, .inl (zF kp)))] := hD
            exact W.vret hx hb hr (fun t ht hW => ⟨⟨(ig, lT, lL, hT, hL), rfl, (by refine zCut_fcp gF gt gm ge ?_; dsimp only; unfold zCut; first | rw [if_pos (by omega), if_pos (by omega)] | rw [if_pos (by omega), if_neg (by omega)] | rw [if_neg (by omega), if_pos (by omega), if_pos (by omega)] | rw [if_neg (by omega), if_pos (by omega), if_neg (by omega)] | rw [if_neg (by omega), if_neg (by omega), if_pos (by omega)] | (rw [if_neg (by omega), if_neg (by omega), show ig = 1 by omega]; split <;> rfl) | rw [if_neg (by omega), if_neg (by omega), if_neg (by omega), show ig = 0 by omega] | fail), ⟨by rw [ht]; exact hP, hD⟩⟩, hS.F ht⟩) hS.2.2 dX8_cuts_158
          · exact absurd c143 (by omega)
        · exact absurd c125 (by omega)
      · skip
        refine lv_iconst (v := iI 1) hx hb dX8_cuts_115 rfl ?_
        refine lv_goto (tgt := 120) hx hb dX8_cuts_116 (by decide) ?_
        refine lv_istore (lv' := [(5, .int (iI 1)), (0, .ref (q 0)), (1, .long (lI tv)), (3, .long (lI mv))]) hx hb dX8_cuts_120 hl (by decide) rfl (fun ls hl => ?_)
        refine lv_aload_n hx hb dX8_cuts_122 rfl (lv_at hl 1 rfl) ?_
        refine lv_iload hx hb dX8_cuts_123 (lv_at hl 0 rfl) ?_
        refine zi_if_eq (tgt := 133) hx hb dX8_cuts_125 (by decide) (by omega) (fun c125 => ?_) (fun c125 => ?_)
        · exact absurd c125 (by omega)
        · skip
          refine lv_lload_n hx hb dX8_cuts_128 rfl (lv_at hl 3 rfl) ?_
          refine zl_lneg hx hb dX8_cuts_129 ?_
          refine lv_goto (tgt := 137) hx hb dX8_cuts_130 (by decide) ?_
          refine va_put (ci := 9) (v := .long (lI (-mv))) (ty := .long) (C := RX8) (T := TX8) (N := 17) hx hb hts iz_X8_cuts_X8 tyX8 tyX8_ok nmX8 hown hK hP hD hS 0 rfl rfl 12 (by decide) (hts (.fieldLink RX8 96 "PowerPlotModel" "lowTop" "J") (by decide +kernel)) (fun _ h9 => h9) rfl (by decide +kernel) rfl rfl (Nat.le_of_ble_eq_true rfl) dX8_cuts_137 (fun H locs hP hD hS => ?_)
          have hP : va_P D vwCl [(q 0, .inr (9, [.int (iI th), .int (iI N), .ref (q 1), .ref (q 2), .ref (q 3), .ref (q 4), .ref (q 5), .ref (q 6), .int (iI iu), .int (iI ax), .int (iI ay), .int (iI ri), .long (lI (-mv)), .long (lI lL), .long (lI hT), .long (lI hL), .int (iI ig)])), (q 1, .inl (cA, 12, .inl (zF Xs))), (q 2, .inl (cA, 12, .inl (zF Ys))), (q 3, .inl (cA, 12, .inl (zF Wt))), (q 4, .inl (cA, 12, .inl (zF Cp))), (q 5, .inl (cA, 12, .inl (zF sh))), (q 6, .inl (cA, 12, .inl (zF kp)))] H := hP
          have hD : va_D _ [(q 0, .inr (9, [.int (iI th), .int (iI N), .ref (q 1), .ref (q 2), .ref (q 3), .ref (q 4), .ref (q 5), .ref (q 6), .int (iI iu), .int (iI ax), .int (iI ay), .int (iI ri), .long (lI (-mv)), .long (lI lL), .long (lI hT), .long (lI hL), .int (iI ig)])), (q 1, .inl (cA, 12, .inl (zF Xs))), (q 2, .inl (cA, 12, .inl (zF Ys))), (q 3, .inl (cA, 12, .inl (zF Wt))), (q 4, .inl (cA, 12, .inl (zF Cp))), (q 5, .inl (cA, 12, .inl (zF sh))), (q 6, .inl (cA, 12, .inl (zF kp)))] := hD
          refine lv_aload_n hx hb dX8_cuts_140 rfl (lv_at hl 1 rfl) ?_
          refine lv_iload hx hb dX8_cuts_141 (lv_at hl 0 rfl) ?_
          refine zi_if_eq (tgt := 151) hx hb dX8_cuts_143 (by decide) (by omega) (fun c143 => ?_) (fun c143 => ?_)
          · exact absurd c143 (by omega)
          · skip
            refine lv_lload_n hx hb dX8_cuts_146 rfl (lv_at hl 2 rfl) ?_
            refine zl_lneg hx hb dX8_cuts_147 ?_
            refine lv_goto (tgt := 155) hx hb dX8_cuts_148 (by decide) ?_
            refine va_put (ci := 9) (v := .long (lI (-tv))) (ty := .long) (C := RX8) (T := TX8) (N := 17) hx hb hts iz_X8_cuts_X8 tyX8 tyX8_ok nmX8 hown hK hP hD hS 0 rfl rfl 13 (by decide) (hts (.fieldLink RX8 93 "PowerPlotModel" "lowLine" "J") (by decide +kernel)) (fun _ h9 => h9) rfl (by decide +kernel) rfl rfl (Nat.le_of_ble_eq_true rfl) dX8_cuts_155 (fun H locs hP hD hS => ?_)
            have hP : va_P D vwCl [(q 0, .inr (9, [.int (iI th), .int (iI N), .ref (q 1), .ref (q 2), .ref (q 3), .ref (q 4), .ref (q 5), .ref (q 6), .int (iI iu), .int (iI ax), .int (iI ay), .int (iI ri), .long (lI (-mv)), .long (lI (-tv)), .long (lI hT), .long (lI hL), .int (iI ig)])), (q 1, .inl (cA, 12, .inl (zF Xs))), (q 2, .inl (cA, 12, .inl (zF Ys))), (q 3, .inl (cA, 12, .inl (zF Wt))), (q 4, .inl (cA, 12, .inl (zF Cp))), (q 5, .inl (cA, 12, .inl (zF sh))), (q 6, .inl (cA, 12, .inl (zF kp)))] H := hP
            have hD : va_D _ [(q 0, .inr (9, [.int (iI th), .int (iI N), .ref (q 1), .ref (q 2), .ref (q 3), .ref (q 4), .ref (q 5), .ref (q 6), .int (iI iu), .int (iI ax), .int (iI ay), .int (iI ri), .long (lI (-mv)), .long (lI (-tv)), .long (lI hT), .long (lI hL), .int (iI ig)])), (q 1, .inl (cA, 12, .inl (zF Xs))), (q 2, .inl (cA, 12, .inl (zF Ys))), (q 3, .inl (cA, 12, .inl (zF Wt))), (q 4, .inl (cA, 12, .inl (zF Cp))), (q 5, .inl (cA, 12, .inl (zF sh))), (q 6, .inl (cA, 12, .inl (zF kp)))] := hD
            exact W.vret hx hb hr (fun t ht hW => ⟨⟨(ig, -mv, -tv, hT, hL), rfl, (by refine zCut_fcp gF gt gm ge ?_; dsimp only; unfold zCut; first | rw [if_pos (by omega), if_pos (by omega)] | rw [if_pos (by omega), if_neg (by omega)] | rw [if_neg (by omega), if_pos (by omega), if_pos (by omega)] | rw [if_neg (by omega), if_pos (by omega), if_neg (by omega)] | rw [if_neg (by omega), if_neg (by omega), if_pos (by omega)] | (rw [if_neg (by omega), if_neg (by omega), show ig = 1 by omega]; split <;> rfl) | rw [if_neg (by omega), if_neg (by omega), if_neg (by omega), show ig = 0 by omega] | fail), ⟨by rw [ht]; exact hP, hD⟩⟩, hS.F ht⟩) hS.2.2 dX8_cuts_158
    · skip
      refine lv_lload_n hx hb dX8_cuts_37 rfl (lv_at hl 2 rfl) ?_
      refine lv_aload_n hx hb dX8_cuts_38 rfl (lv_at hl 0 rfl) ?_
      refine va_get (ci := 9) (v := .long (lI hL)) (C := RX8) (T := TX8) (N := 17) hx hb hts iz_X8_cuts_X8 hown hK hP 0 rfl rfl 15 (by decide) (hts (.fieldLink RX8 86 "PowerPlotModel" "highLine" "J") (by decide +kernel)) (fun _ h9 => h9) rfl dX8_cuts_39 ?_
      refine zl_lmul hx hb dX8_cuts_42 ?_
      refine lv_aload_n hx hb dX8_cuts_43 rfl (lv_at hl 0 rfl) ?_
      refine va_get (ci := 9) (v := .long (lI hT)) (C := RX8) (T := TX8) (N := 17) hx hb hts iz_X8_cuts_X8 hown hK hP 0 rfl rfl 14 (by decide) (hts (.fieldLink RX8 90 "PowerPlotModel" "highTop" "J") (by decide +kernel)) (fun _ h9 => h9) rfl dX8_cuts_44 ?_
      refine lv_lload_n hx hb dX8_cuts_47 rfl (lv_at hl 1 rfl) ?_
      refine zl_lmul hx hb dX8_cuts_48 ?_
      refine zl_if_ge (tgt := 57) hx hb dX8_cuts_49 dX8_cuts_50 (by decide) (by omega) (by omega) (fun c49 => ?_) (fun c49 => ?_)
      · skip
        refine lv_iconst (v := iI 0) hx hb dX8_cuts_57 rfl ?_
        refine lv_istore (lv' := [(5, .int (iI 0)), (0, .ref (q 0)), (1, .long (lI tv)), (3, .long (lI mv))]) hx hb dX8_cuts_58 hl (by decide) rfl (fun ls hl => ?_)
        refine lv_aload_n hx hb dX8_cuts_60 rfl (lv_at hl 1 rfl) ?_
        refine lv_iload hx hb dX8_cuts_61 (lv_at hl 0 rfl) ?_
        refine zi_if_eq (tgt := 70) hx hb dX8_cuts_63 (by decide) (by omega) (fun c63 => ?_) (fun c63 => ?_)
        · skip
          refine lv_aload_n hx hb dX8_cuts_70 rfl (lv_at hl 1 rfl) ?_
          refine va_get (ci := 9) (v := .long (lI hT)) (C := RX8) (T := TX8) (N := 17) hx hb hts iz_X8_cuts_X8 hown hK hP 0 rfl rfl 14 (by decide) (hts (.fieldLink RX8 90 "PowerPlotModel" "highTop" "J") (by decide +kernel)) (fun _ h9 => h9) rfl dX8_cuts_71 ?_
          refine va_put (ci := 9) (v := .long (lI hT)) (ty := .long) (C := RX8) (T := TX8) (N := 17) hx hb hts iz_X8_cuts_X8 tyX8 tyX8_ok nmX8 hown hK hP hD hS 0 rfl rfl 14 (by decide) (hts (.fieldLink RX8 90 "PowerPlotModel" "highTop" "J") (by decide +kernel)) (fun _ h9 => h9) rfl (by decide +kernel) rfl rfl (Nat.le_of_ble_eq_true rfl) dX8_cuts_74 (fun H locs hP hD hS => ?_)
          have hP : va_P D vwCl [(q 0, .inr (9, [.int (iI th), .int (iI N), .ref (q 1), .ref (q 2), .ref (q 3), .ref (q 4), .ref (q 5), .ref (q 6), .int (iI iu), .int (iI ax), .int (iI ay), .int (iI ri), .long (lI lT), .long (lI lL), .long (lI hT), .long (lI hL), .int (iI ig)])), (q 1, .inl (cA, 12, .inl (zF Xs))), (q 2, .inl (cA, 12, .inl (zF Ys))), (q 3, .inl (cA, 12, .inl (zF Wt))), (q 4, .inl (cA, 12, .inl (zF Cp))), (q 5, .inl (cA, 12, .inl (zF sh))), (q 6, .inl (cA, 12, .inl (zF kp)))] H := hP
          have hD : va_D _ [(q 0, .inr (9, [.int (iI th), .int (iI N), .ref (q 1), .ref (q 2), .ref (q 3), .ref (q 4), .ref (q 5), .ref (q 6), .int (iI iu), .int (iI ax), .int (iI ay), .int (iI ri), .long (lI lT), .long (lI lL), .long (lI hT), .long (lI hL), .int (iI ig)])), (q 1, .inl (cA, 12, .inl (zF Xs))), (q 2, .inl (cA, 12, .inl (zF Ys))), (q 3, .inl (cA, 12, .inl (zF Wt))), (q 4, .inl (cA, 12, .inl (zF Cp))), (q 5, .inl (cA, 12, .inl (zF sh))), (q 6, .inl (cA, 12, .inl (zF kp)))] := hD
          refine lv_aload_n hx hb dX8_cuts_77 rfl (lv_at hl 1 rfl) ?_
          refine lv_iload hx hb dX8_cuts_78 (lv_at hl 0 rfl) ?_
          refine zi_if_eq (tgt := 87) hx hb dX8_cuts_80 (by decide) (by omega) (fun c80 => ?_) (fun c80 => ?_)
          · skip
            refine lv_aload_n hx hb dX8_cuts_87 rfl (lv_at hl 1 rfl) ?_
            refine va_get (ci := 9) (v := .long (lI hL)) (C := RX8) (T := TX8) (N := 17) hx hb hts iz_X8_cuts_X8 hown hK hP 0 rfl rfl 15 (by decide) (hts (.fieldLink RX8 86 "PowerPlotModel" "highLine" "J") (by decide +kernel)) (fun _ h9 => h9) rfl dX8_cuts_88 ?_
            refine va_put (ci := 9) (v := .long (lI hL)) (ty := .long) (C := RX8) (T := TX8) (N := 17) hx hb hts iz_X8_cuts_X8 tyX8 tyX8_ok nmX8 hown hK hP hD hS 0 rfl rfl 15 (by decide) (hts (.fieldLink RX8 86 "PowerPlotModel" "highLine" "J") (by decide +kernel)) (fun _ h9 => h9) rfl (by decide +kernel) rfl rfl (Nat.le_of_ble_eq_true rfl) dX8_cuts_91 (fun H locs hP hD hS => ?_)
            have hP : va_P D vwCl [(q 0, .inr (9, [.int (iI th), .int (iI N), .ref (q 1), .ref (q 2), .ref (q 3), .ref (q 4), .ref (q 5), .ref (q 6), .int (iI iu), .int (iI ax), .int (iI ay), .int (iI ri), .long (lI lT), .long (lI lL), .long (lI hT), .long (lI hL), .int (iI ig)])), (q 1, .inl (cA, 12, .inl (zF Xs))), (q 2, .inl (cA, 12, .inl (zF Ys))), (q 3, .inl (cA, 12, .inl (zF Wt))), (q 4, .inl (cA, 12, .inl (zF Cp))), (q 5, .inl (cA, 12, .inl (zF sh))), (q 6, .inl (cA, 12, .inl (zF kp)))] H := hP
            have hD : va_D _ [(q 0, .inr (9, [.int (iI th), .int (iI N), .ref (q 1), .ref (q 2), .ref (q 3), .ref (q 4), .ref (q 5), .ref (q 6), .int (iI iu), .int (iI ax), .int (iI ay), .int (iI ri), .long (lI lT), .long (lI lL), .long (lI hT), .long (lI hL), .int (iI ig)])), (q 1, .inl (cA, 12, .inl (zF Xs))), (q 2, .inl (cA, 12, .inl (zF Ys))), (q 3, .inl (cA, 12, .inl (zF Wt))), (q 4, .inl (cA, 12, .inl (zF Cp))), (q 5, .inl (cA, 12, .inl (zF sh))), (q 6, .inl (cA, 12, .inl (zF kp)))] := hD
            refine lv_goto (tgt := 158) hx hb dX8_cuts_94 (by decide) ?_
            exact W.vret hx hb hr (fun t ht hW => ⟨⟨(ig, lT, lL, hT, hL), rfl, (by refine zCut_fcp gF gt gm ge ?_; dsimp only; unfold zCut; first | rw [if_pos (by omega), if_pos (by omega)] | rw [if_pos (by omega), if_neg (by omega)] | rw [if_neg (by omega), if_pos (by omega), if_pos (by omega)] | rw [if_neg (by omega), if_pos (by omega), if_neg (by omega)] | rw [if_neg (by omega), if_neg (by omega), if_pos (by omega)] | (rw [if_neg (by omega), if_neg (by omega), show ig = 1 by omega]; split <;> rfl) | rw [if_neg (by omega), if_neg (by omega), if_neg (by omega), show ig = 0 by omega] | fail), ⟨by rw [ht]; exact hP, hD⟩⟩, hS.F ht⟩) hS.2.2 dX8_cuts_158
          · exact absurd c80 (by omega)
        · exact absurd c63 (by omega)
      · skip
        refine lv_iconst (v := iI 1) hx hb dX8_cuts_53 rfl ?_
        refine lv_goto (tgt := 58) hx hb dX8_cuts_54 (by decide) ?_
        refine lv_istore (lv' := [(5, .int (iI 1)), (0, .ref (q 0)), (1, .long (lI tv)), (3, .long (lI mv))]) hx hb dX8_cuts_58 hl (by decide) rfl (fun ls hl => ?_)
        refine lv_aload_n hx hb dX8_cuts_60 rfl (lv_at hl 1 rfl) ?_
        refine lv_iload hx hb dX8_cuts_61 (lv_at hl 0 rfl) ?_
        refine zi_if_eq (tgt := 70) hx hb dX8_cuts_63 (by decide) (by omega) (fun c63 => ?_) (fun c63 => ?_)
        · exact absurd c63 (by omega)
        · skip
          refine lv_lload_n hx hb dX8_cuts_66 rfl (lv_at hl 3 rfl) ?_
          refine lv_goto (tgt := 74) hx hb dX8_cuts_67 (by decide) ?_
          refine va_put (ci := 9) (v := .long (lI mv)) (ty := .long) (C := RX8) (T := TX8) (N := 17) hx hb hts iz_X8_cuts_X8 tyX8 tyX8_ok nmX8 hown hK hP hD hS 0 rfl rfl 14 (by decide) (hts (.fieldLink RX8 90 "PowerPlotModel" "highTop" "J") (by decide +kernel)) (fun _ h9 => h9) rfl (by decide +kernel) rfl rfl (Nat.le_of_ble_eq_true rfl) dX8_cuts_74 (fun H locs hP hD hS => ?_)
          have hP : va_P D vwCl [(q 0, .inr (9, [.int (iI th), .int (iI N), .ref (q 1), .ref (q 2), .ref (q 3), .ref (q 4), .ref (q 5), .ref (q 6), .int (iI iu), .int (iI ax), .int (iI ay), .int (iI ri), .long (lI lT), .long (lI lL), .long (lI mv), .long (lI hL), .int (iI ig)])), (q 1, .inl (cA, 12, .inl (zF Xs))), (q 2, .inl (cA, 12, .inl (zF Ys))), (q 3, .inl (cA, 12, .inl (zF Wt))), (q 4, .inl (cA, 12, .inl (zF Cp))), (q 5, .inl (cA, 12, .inl (zF sh))), (q 6, .inl (cA, 12, .inl (zF kp)))] H := hP
          have hD : va_D _ [(q 0, .inr (9, [.int (iI th), .int (iI N), .ref (q 1), .ref (q 2), .ref (q 3), .ref (q 4), .ref (q 5), .ref (q 6), .int (iI iu), .int (iI ax), .int (iI ay), .int (iI ri), .long (lI lT), .long (lI lL), .long (lI mv), .long (lI hL), .int (iI ig)])), (q 1, .inl (cA, 12, .inl (zF Xs))), (q 2, .inl (cA, 12, .inl (zF Ys))), (q 3, .inl (cA, 12, .inl (zF Wt))), (q 4, .inl (cA, 12, .inl (zF Cp))), (q 5, .inl (cA, 12, .inl (zF sh))), (q 6, .inl (cA, 12, .inl (zF kp)))] := hD
          refine lv_aload_n hx hb dX8_cuts_77 rfl (lv_at hl 1 rfl) ?_
          refine lv_iload hx hb dX8_cuts_78 (lv_at hl 0 rfl) ?_
          refine zi_if_eq (tgt := 87) hx hb dX8_cuts_80 (by decide) (by omega) (fun c80 => ?_) (fun c80 => ?_)
          · exact absurd c80 (by omega)
          · skip
            refine lv_lload_n hx hb dX8_cuts_83 rfl (lv_at hl 2 rfl) ?_
            refine lv_goto (tgt := 91) hx hb dX8_cuts_84 (by decide) ?_
            refine va_put (ci := 9) (v := .long (lI tv)) (ty := .long) (C := RX8) (T := TX8) (N := 17) hx hb hts iz_X8_cuts_X8 tyX8 tyX8_ok nmX8 hown hK hP hD hS 0 rfl rfl 15 (by decide) (hts (.fieldLink RX8 86 "PowerPlotModel" "highLine" "J") (by decide +kernel)) (fun _ h9 => h9) rfl (by decide +kernel) rfl rfl (Nat.le_of_ble_eq_true rfl) dX8_cuts_91 (fun H locs hP hD hS => ?_)
            have hP : va_P D vwCl [(q 0, .inr (9, [.int (iI th), .int (iI N), .ref (q 1), .ref (q 2), .ref (q 3), .ref (q 4), .ref (q 5), .ref (q 6), .int (iI iu), .int (iI ax), .int (iI ay), .int (iI ri), .long (lI lT), .long (lI lL), .long (lI mv), .long (lI tv), .int (iI ig)])), (q 1, .inl (cA, 12, .inl (zF Xs))), (q 2, .inl (cA, 12, .inl (zF Ys))), (q 3, .inl (cA, 12, .inl (zF Wt))), (q 4, .inl (cA, 12, .inl (zF Cp))), (q 5, .inl (cA, 12, .inl (zF sh))), (q 6, .inl (cA, 12, .inl (zF kp)))] H := hP
            have hD : va_D _ [(q 0, .inr (9, [.int (iI th), .int (iI N), .ref (q 1), .ref (q 2), .ref (q 3), .ref (q 4), .ref (q 5), .ref (q 6), .int (iI iu), .int (iI ax), .int (iI ay), .int (iI ri), .long (lI lT), .long (lI lL), .long (lI mv), .long (lI tv), .int (iI ig)])), (q 1, .inl (cA, 12, .inl (zF Xs))), (q 2, .inl (cA, 12, .inl (zF Ys))), (q 3, .inl (cA, 12, .inl (zF Wt))), (q 4, .inl (cA, 12, .inl (zF Cp))), (q 5, .inl (cA, 12, .inl (zF sh))), (q 6, .inl (cA, 12, .inl (zF kp)))] := hD
            refine lv_goto (tgt := 158) hx hb dX8_cuts_94 (by decide) ?_
            exact W.vret hx hb hr (fun t ht hW => ⟨⟨(ig, lT, lL, mv, tv), rfl, (by refine zCut_fcp gF gt gm ge ?_; dsimp only; unfold zCut; first | rw [if_pos (by omega), if_pos (by omega)] | rw [if_pos (by omega), if_neg (by omega)] | rw [if_neg (by omega), if_pos (by omega), if_pos (by omega)] | rw [if_neg (by omega), if_pos (by omega), if_neg (by omega)] | rw [if_neg (by omega), if_neg (by omega), if_pos (by omega)] | (rw [if_neg (by omega), if_neg (by omega), show ig = 1 by omega]; split <;> rfl) | rw [if_neg (by omega), if_neg (by omega), if_neg (by omega), show ig = 0 by omega] | fail), ⟨by rw [ht]; exact hP, hD⟩⟩, hS.F ht⟩) hS.2.2 dX8_cuts_158
  · skip
    refine lv_aload_n hx hb dX8_cuts_6 rfl (lv_at hl 0 rfl) ?_
    refine lv_aload_n hx hb dX8_cuts_7 rfl (lv_at hl 0 rfl) ?_
    refine va_get (ci := 9) (v := .int (iI ig)) (C := RX8) (T := TX8) (N := 17) hx hb hts iz_X8_cuts_X8 hown hK hP 0 rfl rfl 16 (by decide) (hts (.fieldLink RX8 82 "PowerPlotModel" "isGone" "Z") (by decide +kernel)) (fun _ h9 => h9) rfl dX8_cuts_8 ?_
    refine zi_if_ne (tgt := 20) hx hb dX8_cuts_11 (by decide) (by omega) (fun c11 => ?_) (fun c11 => ?_)
    · skip
      refine lv_iconst (v := iI 1) hx hb dX8_cuts_20 rfl ?_
      refine lv_goto (tgt := 25) hx hb dX8_cuts_21 (by decide) ?_
      refine va_put (ci := 9) (v := .int (iI 1)) (ty := .boolean) (C := RX8) (T := TX8) (N := 17) hx hb hts iz_X8_cuts_X8 tyX8 tyX8_ok nmX8 hown hK hP hD hS 0 rfl rfl 16 (by decide) (hts (.fieldLink RX8 82 "PowerPlotModel" "isGone" "Z") (by decide +kernel)) (fun _ h9 => h9) rfl (by decide +kernel) (by decide) (by decide) (Nat.le_of_ble_eq_true rfl) dX8_cuts_25 (fun H locs hP hD hS => ?_)
      have hP : va_P D vwCl [(q 0, .inr (9, [.int (iI th), .int (iI N), .ref (q 1), .ref (q 2), .ref (q 3), .ref (q 4), .ref (q 5), .ref (q 6), .int (iI iu), .int (iI ax), .int (iI ay), .int (iI ri), .long (lI lT), .long (lI lL), .long (lI hT), .long (lI hL), .int (iI 1)])), (q 1, .inl (cA, 12, .inl (zF Xs))), (q 2, .inl (cA, 12, .inl (zF Ys))), (q 3, .inl (cA, 12, .inl (zF Wt))), (q 4, .inl (cA, 12, .inl (zF Cp))), (q 5, .inl (cA, 12, .inl (zF sh))), (q 6, .inl (cA, 12, .inl (zF kp)))] H := hP
      have hD : va_D _ [(q 0, .inr (9, [.int (iI th), .int (iI N), .ref (q 1), .ref (q 2), .ref (q 3), .ref (q 4), .ref (q 5), .ref (q 6), .int (iI iu), .int (iI ax), .int (iI ay), .int (iI ri), .long (lI lT), .long (lI lL), .long (lI hT), .long (lI hL), .int (iI 1)])), (q 1, .inl (cA, 12, .inl (zF Xs))), (q 2, .inl (cA, 12, .inl (zF Ys))), (q 3, .inl (cA, 12, .inl (zF Wt))), (q 4, .inl (cA, 12, .inl (zF Cp))), (q 5, .inl (cA, 12, .inl (zF sh))), (q 6, .inl (cA, 12, .inl (zF kp)))] := hD
      refine lv_goto (tgt := 158) hx hb dX8_cuts_28 (by decide) ?_
      exact W.vret hx hb hr (fun t ht hW => ⟨⟨(1, lT, lL, hT, hL), rfl, (by refine zCut_fcp gF gt gm ge ?_; dsimp only; unfold zCut; first | rw [if_pos (by omega), if_pos (by omega)] | rw [if_pos (by omega), if_neg (by omega)] | rw [if_neg (by omega), if_pos (by omega), if_pos (by omega)] | rw [if_neg (by omega), if_pos (by omega), if_neg (by omega)] | rw [if_neg (by omega), if_neg (by omega), if_pos (by omega)] | (rw [if_neg (by omega), if_neg (by omega), show ig = 1 by omega]; split <;> rfl) | rw [if_neg (by omega), if_neg (by omega), if_neg (by omega), show ig = 0 by omega] | fail), ⟨by rw [ht]; exact hP, hD⟩⟩, hS.F ht⟩) hS.2.2 dX8_cuts_158
    · skip
      refine lv_lload_n hx hb dX8_cuts_14 rfl (lv_at hl 2 rfl) ?_
      refine lv_lconst (v := lI 0) hx hb dX8_cuts_15 (by decide +kernel) ?_
      refine zl_if_ge (tgt := 24) hx hb dX8_cuts_16 dX8_cuts_17 (by decide) (by omega) (by omega) (fun c16 => ?_) (fun c16 => ?_)
      · skip
        refine lv_iconst (v := iI 0) hx hb dX8_cuts_24 rfl ?_
        refine va_put (ci := 9) (v := .int (iI 0)) (ty := .boolean) (C := RX8) (T := TX8) (N := 17) hx hb hts iz_X8_cuts_X8 tyX8 tyX8_ok nmX8 hown hK hP hD hS 0 rfl rfl 16 (by decide) (hts (.fieldLink RX8 82 "PowerPlotModel" "isGone" "Z") (by decide +kernel)) (fun _ h9 => h9) rfl (by decide +kernel) (by decide) (by decide) (Nat.le_of_ble_eq_true rfl) dX8_cuts_25 (fun H locs hP hD hS => ?_)
        have hP : va_P D vwCl [(q 0, .inr (9, [.int (iI th), .int (iI N), .ref (q 1), .ref (q 2), .ref (q 3), .ref (q 4), .ref (q 5), .ref (q 6), .int (iI iu), .int (iI ax), .int (iI ay), .int (iI ri), .long (lI lT), .long (lI lL), .long (lI hT), .long (lI hL), .int (iI 0)])), (q 1, .inl (cA, 12, .inl (zF Xs))), (q 2, .inl (cA, 12, .inl (zF Ys))), (q 3, .inl (cA, 12, .inl (zF Wt))), (q 4, .inl (cA, 12, .inl (zF Cp))), (q 5, .inl (cA, 12, .inl (zF sh))), (q 6, .inl (cA, 12, .inl (zF kp)))] H := hP
        have hD : va_D _ [(q 0, .inr (9, [.int (iI th), .int (iI N), .ref (q 1), .ref (q 2), .ref (q 3), .ref (q 4), .ref (q 5), .ref (q 6), .int (iI iu), .int (iI ax), .int (iI ay), .int (iI ri), .long (lI lT), .long (lI lL), .long (lI hT), .long (lI hL), .int (iI 0)])), (q 1, .inl (cA, 12, .inl (zF Xs))), (q 2, .inl (cA, 12, .inl (zF Ys))), (q 3, .inl (cA, 12, .inl (zF Wt))), (q 4, .inl (cA, 12, .inl (zF Cp))), (q 5, .inl (cA, 12, .inl (zF sh))), (q 6, .inl (cA, 12, .inl (zF kp)))] := hD
        refine lv_goto (tgt := 158) hx hb dX8_cuts_28 (by decide) ?_
        exact W.vret hx hb hr (fun t ht hW => ⟨⟨(0, lT, lL, hT, hL), rfl, (by refine zCut_fcp gF gt gm ge ?_; dsimp only; unfold zCut; first | rw [if_pos (by omega), if_pos (by omega)] | rw [if_pos (by omega), if_neg (by omega)] | rw [if_neg (by omega), if_pos (by omega), if_pos (by omega)] | rw [if_neg (by omega), if_pos (by omega), if_neg (by omega)] | rw [if_neg (by omega), if_neg (by omega), if_pos (by omega)] | (rw [if_neg (by omega), if_neg (by omega), show ig = 1 by omega]; split <;> rfl) | rw [if_neg (by omega), if_neg (by omega), if_neg (by omega), show ig = 0 by omega] | fail), ⟨by rw [ht]; exact hP, hD⟩⟩, hS.F ht⟩) hS.2.2 dX8_cuts_158
      · skip
        refine lv_iconst (v := iI 1) hx hb dX8_cuts_20 rfl ?_
        refine lv_goto (tgt := 25) hx hb dX8_cuts_21 (by decide) ?_
        refine va_put (ci := 9) (v := .int (iI 1)) (ty := .boolean) (C := RX8) (T := TX8) (N := 17) hx hb hts iz_X8_cuts_X8 tyX8 tyX8_ok nmX8 hown hK hP hD hS 0 rfl rfl 16 (by decide) (hts (.fieldLink RX8 82 "PowerPlotModel" "isGone" "Z") (by decide +kernel)) (fun _ h9 => h9) rfl (by decide +kernel) (by decide) (by decide) (Nat.le_of_ble_eq_true rfl) dX8_cuts_25 (fun H locs hP hD hS => ?_)
        have hP : va_P D vwCl [(q 0, .inr (9, [.int (iI th), .int (iI N), .ref (q 1), .ref (q 2), .ref (q 3), .ref (q 4), .ref (q 5), .ref (q 6), .int (iI iu), .int (iI ax), .int (iI ay), .int (iI ri), .long (lI lT), .long (lI lL), .long (lI hT), .long (lI hL), .int (iI 1)])), (q 1, .inl (cA, 12, .inl (zF Xs))), (q 2, .inl (cA, 12, .inl (zF Ys))), (q 3, .inl (cA, 12, .inl (zF Wt))), (q 4, .inl (cA, 12, .inl (zF Cp))), (q 5, .inl (cA, 12, .inl (zF sh))), (q 6, .inl (cA, 12, .inl (zF kp)))] H := hP
        have hD : va_D _ [(q 0, .inr (9, [.int (iI th), .int (iI N), .ref (q 1), .ref (q 2), .ref (q 3), .ref (q 4), .ref (q 5), .ref (q 6), .int (iI iu), .int (iI ax), .int (iI ay), .int (iI ri), .long (lI lT), .long (lI lL), .long (lI hT), .long (lI hL), .int (iI 1)])), (q 1, .inl (cA, 12, .inl (zF Xs))), (q 2, .inl (cA, 12, .inl (zF Ys))), (q 3, .inl (cA, 12, .inl (zF Wt))), (q 4, .inl (cA, 12, .inl (zF Cp))), (q 5, .inl (cA, 12, .inl (zF sh))), (q 6, .inl (cA, 12, .inl (zF kp)))] := hD
        refine lv_goto (tgt := 158) hx hb dX8_cuts_28 (by decide) ?_
        exact W.vret hx hb hr (fun t ht hW => ⟨⟨(1, lT, lL, hT, hL), rfl, (by refine zCut_fcp gF gt gm ge ?_; dsimp only; unfold zCut; first | rw [if_pos (by omega), if_pos (by omega)] | rw [if_pos (by omega), if_neg (by omega)] | rw [if_neg (by omega), if_pos (by omega), if_pos (by omega)] | rw [if_neg (by omega), if_pos (by omega), if_neg (by omega)] | rw [if_neg (by omega), if_neg (by omega), if_pos (by omega)] | (rw [if_neg (by omega), if_neg (by omega), show ig = 1 by omega]; split <;> rfl) | rw [if_neg (by omega), if_neg (by omega), if_neg (by omega), show ig = 0 by omega] | fail), ⟨by rw [ht]; exact hP, hD⟩⟩, hS.F ht⟩) hS.2.2 dX8_cuts_158
theorem iz_X8_keeps_X8 : ∀ w ∈ u_ws RX8 TX8 17, w ∈ wsX8_keeps := by decide +kernel
set_option maxHeartbeats 4000000 in
set_option maxRecDepth 100000 in
/-- PowerPlotModel.keeps -/
theorem c_X8_keeps (l : Launch) (D : va_G) (sz : Nat) (tys : List (ClassId × FieldType)) (cA : ClassId) (hty : tys[0]? = some (cA, .int)) (q : Nat → Nat) (th N : Int) (Xs Ys Wt Cp sh kp : Int → Int) (iu ax ay ri lT lL hT hL ig : Int) (ra rb mm : Int) (gi : 0 ≤ iu ∧ iu ≤ 1) (gx : -80 ≤ ax ∧ ax ≤ 80) (gy : -80 ≤ ay ∧ ay ≤ 80) (gr : -5198 ≤ ri ∧ ri ≤ 5198) (gF : zFc lT lL hT hL) (ge : 0 ≤ ig ∧ ig ≤ 1) (ga : -80 ≤ ra ∧ ra ≤ 80) (gb : -80 ≤ rb ∧ rb ≤ 80) (gm : -5198 ≤ mm ∧ mm ≤ 5198) : Met l yX8_keeps wsX8_keeps ({ frames := 1, cells := 0, slots := 0, locals := 25 }) (zP D [.ref (q 0), .int (iI ra), .int (iI rb), .int (iI mm)] sz [(q 0, .inr (9, [.int (iI th), .int (iI N), .ref (q 1), .ref (q 2), .ref (q 3), .ref (q 4), .ref (q 5), .ref (q 6), .int (iI iu), .int (iI ax), .int (iI ay), .int (iI ri), .long (lI lT), .long (lI lL), .long (lI hT), .long (lI hL), .int (iI ig)])), (q 1, .inl (cA, 12, .inl (zF Xs))), (q 2, .inl (cA, 12, .inl (zF Ys))), (q 3, .inl (cA, 12, .inl (zF Wt))), (q 4, .inl (cA, 12, .inl (zF Cp))), (q 5, .inl (cA, 12, .inl (zF sh))), (q 6, .inl (cA, 12, .inl (zF kp)))] tys) (zWv (fun (u : Int × Int × Int × Int × Int) => (u.1, u.2.1, u.2.2.1, u.2.2.2.1, u.2.2.2.2) = zCut (zKt iu ax ay ra rb) (zKm iu ax ay ri ra rb mm) ig lT lL hT hL ∧ zFc u.2.1 u.2.2.1 u.2.2.2.1 u.2.2.2.2 ∧ 0 ≤ u.1 ∧ u.1 ≤ 1) D (fun (u : Int × Int × Int × Int × Int) => [(q 0, .inr (9, [.int (iI th), .int (iI N), .ref (q 1), .ref (q 2), .ref (q 3), .ref (q 4), .ref (q 5), .ref (q 6), .int (iI iu), .int (iI ax), .int (iI ay), .int (iI ri), .long (lI u.2.1), .long (lI u.2.2.1), .long (lI u.2.2.2.1), .long (lI u.2.2.2.2), .int (iI u.1)])), (q 1, .inl (cA, 12, .inl (zF Xs))), (q 2, .inl (cA, 12, .inl (zF Ys))), (q 3, .inl (cA, 12, .inl (zF Wt))), (q 4, .inl (cA, 12, .inl (zF Cp))), (q 5, .inl (cA, 12, .inl (zF sh))), (q 6, .inl (cA, 12, .inl (zF kp)))]) [(q 0, .inr (9, [.int (iI th), .int (iI N), .ref (q 1), .ref (q 2), .ref (q 3), .ref (q 4), .ref (q 5), .ref (q 6), .int (iI iu), .int (iI ax), .int (iI ay), .int (iI ri), .long (lI lT), .long (lI lL), .long (lI hT), .long (lI hL), .int (iI ig)])), (q 1, .inl (cA, 12, .inl (zF Xs))), (q 2, .inl (cA, 12, .inl (zF Ys))), (q 3, .inl (cA, 12, .inl (zF Wt))), (q 4, .inl (cA, 12, .inl (zF Cp))), (q 5, .inl (cA, 12, .inl (zF sh))), (q 6, .inl (cA, 12, .inl (zF kp)))] sz) 0 0 (va_A [(q 0, .inr (9, [.int (iI th), .int (iI N), .ref (q 1), .ref (q 2), .ref (q 3), .ref (q 4), .ref (q 5), .ref (q 6), .int (iI iu), .int (iI ax), .int (iI ay), .int (iI ri), .long (lI lT), .long (lI lL), .long (lI hT), .long (lI hL), .int (iI ig)])), (q 1, .inl (cA, 12, .inl (zF Xs))), (q 2, .inl (cA, 12, .inl (zF Ys))), (q 3, .inl (cA, 12, .inl (zF Wt))), (q 4, .inl (cA, 12, .inl (zF Cp))), (q 5, .inl (cA, 12, .inl (zF sh))), (q 6, .inl (cA, 12, .inl (zF kp)))] sz) := by
  refine Met.ofW (cc := cX8_keeps) (maxL := 6) (ret := none) (by decide +kernel) rfl ?_
  intro p e s m args below meth c s₁ B hml hv
  obtain ⟨rfl, hsz, hP, hK, hD0⟩ := hv
  have hx := B.exec
  have hb := B.bytes
  have hr := B.returns
  have hts := atoms_spec (ws := wsX8_keeps) B.pre
  have hown : s.vm.findClass RX8 = some m.cls := findClass_of_methodNamed B.named
  have hlocks := B.notSynchronized
  subst hsz
  have hD : va_D (va_A [(q 0, .inr (9, [.int (iI th), .int (iI N), .ref (q 1), .ref (q 2), .ref (q 3), .ref (q 4), .ref (q 5), .ref (q 6), .int (iI iu), .int (iI ax), .int (iI ay), .int (iI ri), .long (lI lT), .long (lI lL), .long (lI hT), .long (lI hL), .int (iI ig)])), (q 1, .inl (cA, 12, .inl (zF Xs))), (q 2, .inl (cA, 12, .inl (zF Ys))), (q 3, .inl (cA, 12, .inl (zF Wt))), (q 4, .inl (cA, 12, .inl (zF Cp))), (q 5, .inl (cA, 12, .inl (zF sh))), (q 6, .inl (cA, 12, .inl (zF kp)))] s.heap.size) [(q 0, .inr (9, [.int (iI th), .int (iI N), .ref (q 1), .ref (q 2), .ref (q 3), .ref (q 4), .ref (q 5), .ref (q 6), .int (iI iu), .int (iI ax), .int (iI ay), .int (iI ri), .long (lI lT), .long (lI lL), .long (lI hT), .long (lI hL), .int (iI ig)])), (q 1, .inl (cA, 12, .inl (zF Xs))), (q 2, .inl (cA, 12, .inl (zF Ys))), (q 3, .inl (cA, 12, .inl (zF Wt))), (q 4, .inl (cA, 12, .inl (zF Cp))), (q 5, .inl (cA, 12, .inl (zF sh))), (q 6, .inl (cA, 12, .inl (zF kp)))] := hD0.self
  have hS : va_S (va_A [(q 0, .inr (9, [.int (iI th), .int (iI N), .ref (q 1), .ref (q 2), .ref (q 3), .ref (q 4), .ref (q 5), .ref (q 6), .int (iI iu), .int (iI ax), .int (iI ay), .int (iI ri), .long (lI lT), .long (lI lL), .long (lI hT), .long (lI hL), .int (iI ig)])), (q 1, .inl (cA, 12, .inl (zF Xs))), (q 2, .inl (cA, 12, .inl (zF Ys))), (q 3, .inl (cA, 12, .inl (zF Wt))), (q 4, .inl (cA, 12, .inl (zF Cp))), (q 5, .inl (cA, 12, .inl (zF sh))), (q 6, .inl (cA, 12, .inl (zF kp)))] s.heap.size) s.heap s.heap [] := va_S.rf
  have hA : ∀ q9 : Nat, s.heap.size ≤ q9 → (va_A [(q 0, .inr (9, [.int (iI th), .int (iI N), .ref (q 1), .ref (q 2), .ref (q 3), .ref (q 4), .ref (q 5), .ref (q 6), .int (iI iu), .int (iI ax), .int (iI ay), .int (iI ri), .long (lI lT), .long (lI lL), .long (lI hT), .long (lI hL), .int (iI ig)])), (q 1, .inl (cA, 12, .inl (zF Xs))), (q 2, .inl (cA, 12, .inl (zF Ys))), (q 3, .inl (cA, 12, .inl (zF Wt))), (q 4, .inl (cA, 12, .inl (zF Cp))), (q 5, .inl (cA, 12, .inl (zF sh))), (q 6, .inl (cA, 12, .inl (zF kp)))] s.heap.size) q9 := fun q9 h => Or.inr h
  have hl := lv_entry ([.ref (q 0), .int (iI ra), .int (iI rb), .int (iI mm)]) (n := 6) (Nat.le_of_ble_eq_true rfl)
  rw [lg_entry_eq]
  generalize (lg_sl ([.ref (q 0), .int (iI ra), .int (iI rb), .int (iI mm)]) ++ List.replicate (6 - (lg_sl ([.ref (q 0), .int (iI ra), .int (iI rb), .int (iI mm)])).length) Slot.unset).toArray = ls at hl ⊢
  have hl : lv_has ls 6 [(0, .ref (q 0)), (1, .int (iI ra)), (2, .int (iI rb)), (3, .int (iI mm))] := hl
  have k1 := zm_le (a := rb) (b := ax) (A := 80) (B := 80) (by omega) (by omega)
  have k2 := zm_le (a := mm) (b := ax) (A := 5198) (B := 80) (by omega) (by omega)
  have k3 := zm_le (a := ra) (b := ri) (A := 80) (B := 5198) (by omega) (by omega)
  have k4 := zm_le (a := ra) (b := ay) (A := 80) (B := 80) (by omega) (by omega)
  have k5 := zm_le (a := mm) (b := ay) (A := 5198) (B := 80) (by omega) (by omega)
  have k6 := zm_le (a := rb) (b := ri) (A := 80) (B := 5198) (by omega) (by omega)
  refine lv_aload_n hx hb dX8_keeps_0 rfl (lv_at hl 0 rfl) ?_
  refine va_get (ci := 9) (v := .int (iI iu)) (C := RX8) (T := TX8) (N := 17) hx hb hts iz_X8_keeps_X8 hown hK hP 0 rfl rfl 8 (by decide) (hts (.fieldLink RX8 99 "PowerPlotModel" "isUp" "Z") (by decide +kernel)) (fun _ h9 => h9) rfl dX8_keeps_1 ?_
  refine zi_if_eq (tgt := 60) hx hb dX8_keeps_4 (by decide) (by omega) (fun c4 => ?_) (fun c4 => ?_)
  · skip
    refine lv_aload_n hx hb dX8_keeps_60 rfl (lv_at hl 0 rfl) ?_
    refine va_get (ci := 9) (v := .int (iI ay)) (C := RX8) (T := TX8) (N := 17) hx hb hts iz_X8_keeps_X8 hown hK hP 0 rfl rfl 10 (by decide) (hts (.fieldLink RX8 112 "PowerPlotModel" "acrossY" "I") (by decide +kernel)) (fun _ h9 => h9) rfl dX8_keeps_61 ?_
    refine zi_if_ge (tgt := 73) hx hb dX8_keeps_64 (by decide) (by omega) (fun c64 => ?_) (fun c64 => ?_)
    · skip
      refine lv_lconst (v := lI 1) hx hb dX8_keeps_73 (by decide +kernel) ?_
      refine lv_lstore (lv' := [(4, .long (lI 1)), (0, .ref (q 0)), (1, .int (iI ra)), (2, .int (iI rb)), (3, .int (iI mm))]) hx hb dX8_keeps_74 hl (by decide) rfl (fun ls hl => ?_)
      refine lv_aload_n hx hb dX8_keeps_76 rfl (lv_at hl 1 rfl) ?_
      refine lv_iload_n hx hb dX8_keeps_77 rfl (lv_at hl 2 rfl) ?_
      refine lv_aload_n hx hb dX8_keeps_78 rfl (lv_at hl 1 rfl) ?_
      refine va_get (ci := 9) (v := .int (iI ay)) (C := RX8) (T := TX8) (N := 17) hx hb hts iz_X8_keeps_X8 hown hK hP 0 rfl rfl 10 (by decide) (hts (.fieldLink RX8 112 "PowerPlotModel" "acrossY" "I") (by decide +kernel)) (fun _ h9 => h9) rfl dX8_keeps_79 ?_
      refine zi_imul hx hb dX8_keeps_82 ?_
      refine lv_iload_n hx hb dX8_keeps_83 rfl (lv_at hl 3 rfl) ?_
      refine lv_aload_n hx hb dX8_keeps_84 rfl (lv_at hl 1 rfl) ?_
      refine va_get (ci := 9) (v := .int (iI ax)) (C := RX8) (T := TX8) (N := 17) hx hb hts iz_X8_keeps_X8 hown hK hP 0 rfl rfl 9 (by decide) (hts (.fieldLink RX8 102 "PowerPlotModel" "acrossX" "I") (by decide +kernel)) (fun _ h9 => h9) rfl dX8_keeps_85 ?_
      refine zi_imul hx hb dX8_keeps_88 ?_
      refine zi_isub hx hb dX8_keeps_89 ?_
      refine zi_i2l hx hb dX8_keeps_90 (by omega) ?_
      refine lv_lload hx hb dX8_keeps_91 (lv_at hl 0 rfl) ?_
      refine zl_lmul hx hb dX8_keeps_93 ?_
      refine lv_iload_n hx hb dX8_keeps_94 rfl (lv_at hl 4 rfl) ?_
      refine zi_i2l hx hb dX8_keeps_95 (by omega) ?_
      refine lv_aload_n hx hb dX8_keeps_96 rfl (lv_at hl 1 rfl) ?_
      refine va_get (ci := 9) (v := .int (iI ay)) (C := RX8) (T := TX8) (N := 17) hx hb hts iz_X8_keeps_X8 hown hK hP 0 rfl rfl 10 (by decide) (hts (.fieldLink RX8 112 "PowerPlotModel" "acrossY" "I") (by decide +kernel)) (fun _ h9 => h9) rfl dX8_keeps_97 ?_
      refine zi_i2l hx hb dX8_keeps_100 (by omega) ?_
      refine zl_lmul hx hb dX8_keeps_101 ?_
      refine lv_iload_n hx hb dX8_keeps_102 rfl (lv_at hl 3 rfl) ?_
      refine zi_i2l hx hb dX8_keeps_103 (by omega) ?_
      refine lv_aload_n hx hb dX8_keeps_104 rfl (lv_at hl 1 rfl) ?_
      refine va_get (ci := 9) (v := .int (iI ri)) (C := RX8) (T := TX8) (N := 17) hx hb hts iz_X8_keeps_X8 hown hK hP 0 rfl rfl 11 (by decide) (hts (.fieldLink RX8 105 "PowerPlotModel" "rise" "I") (by decide +kernel)) (fun _ h9 => h9) rfl dX8_keeps_105 ?_
      refine zi_i2l hx hb dX8_keeps_108 (by omega) ?_
      refine zl_lmul hx hb dX8_keeps_109 ?_
      refine zl_lsub hx hb dX8_keeps_110 ?_
      refine lv_lload hx hb dX8_keeps_111 (lv_at hl 0 rfl) ?_
      refine zl_lmul hx hb dX8_keeps_113 ?_
      refine zc_wv (wr := []) (As := [.long (lI (((ra * ay) - (rb * ax)) * 1)), .long (lI (((mm * ay) - (rb * ri)) * 1))]) (rest := []) ⟨hx, hb, hml, hown, hts⟩ (c_X8_cuts l D _ tys cA hty q th N Xs Ys Wt Cp sh kp iu ax ay ri lT lL hT hL ig (((ra * ay) - (rb * ax)) * 1) (((mm * ay) - (rb * ri)) * 1) (by assumption) (by assumption) (by omega) (by omega)) (cwV 2 hts gX8_keeps_X8_cuts rfl rfl rfl (by decide +kernel) ⟨(Nat.le_of_ble_eq_true rfl), (Nat.le_of_ble_eq_true rfl)⟩) hP hK hD hS hA [0, 1, 2, 3, 4, 5, 6] rfl rfl rfl rfl [] [0, 1, 2, 3, 4, 5, 6] rfl rfl (by decide) (fun _ => rfl) rfl rfl hl.1 rfl (Nat.le_of_ble_eq_true rfl) dX8_keeps_114 ⟨Nat.zero_le _, Nat.zero_le _⟩ (ws1 := fun (u9 : Int × Int × Int × Int × Int) => [(q 0, .inr (9, [.int (iI th), .int (iI N), .ref (q 1), .ref (q 2), .ref (q 3), .ref (q 4), .ref (q 5), .ref (q 6), .int (iI iu), .int (iI ax), .int (iI ay), .int (iI ri), .long (lI u9.2.1), .long (lI u9.2.2.1), .long (lI u9.2.2.2.1), .long (lI u9.2.2.2.2), .int (iI u9.1)])), (q 1, .inl (cA, 12, .inl (zF Xs))), (q 2, .inl (cA, 12, .inl (zF Ys))), (q 3, .inl (cA, 12, .inl (zF Wt))), (q 4, .inl (cA, 12, .inl (zF Cp))), (q 5, .inl (cA, 12, .inl (zF sh))), (q 6, .inl (cA, 12, .inl (zF kp)))]) (fun u114 H locs w114 hP hD hS => ?_)
      obtain ⟨ig_114, lT_114, lL_114, hT_114, hL_114⟩ := u114
      have w114 : (ig_114, lT_114, lL_114, hT_114, hL_114) = zCut (((ra * ay) - (rb * ax)) * 1) (((mm * ay) - (rb * ri)) * 1) ig lT lL hT hL ∧ zFc lT_114 lL_114 hT_114 hL_114 ∧ 0 ≤ ig_114 ∧ ig_114 ≤ 1 := w114
      have hP : va_P D vwCl [(q 0, .inr (9, [.int (iI th), .int (iI N), .ref (q 1), .ref (q 2), .ref (q 3), .ref (q 4), .ref (q 5), .ref (q 6), .int (iI iu), .int (iI ax), .int (iI ay), .int (iI ri), .long (lI lT_114), .long (lI lL_114), .long (lI hT_114), .long (lI hL_114), .int (iI ig_114)])), (q 1, .inl (cA, 12, .inl (zF Xs))), (q 2, .inl (cA, 12, .inl (zF Ys))), (q 3, .inl (cA, 12, .inl (zF Wt))), (q 4, .inl (cA, 12, .inl (zF Cp))), (q 5, .inl (cA, 12, .inl (zF sh))), (q 6, .inl (cA, 12, .inl (zF kp)))] H := hP
      have hD : va_D _ [(q 0, .inr (9, [.int (iI th), .int (iI N), .ref (q 1), .ref (q 2), .ref (q 3), .ref (q 4), .ref (q 5), .ref (q 6), .int (iI iu), .int (iI ax), .int (iI ay), .int (iI ri), .long (lI lT_114), .long (lI lL_114), .long (lI hT_114), .long (lI hL_114), .int (iI ig_114)])), (q 1, .inl (cA, 12, .inl (zF Xs))), (q 2, .inl (cA, 12, .inl (zF Ys))), (q 3, .inl (cA, 12, .inl (zF Wt))), (q 4, .inl (cA, 12, .inl (zF Cp))), (q 5, .inl (cA, 12, .inl (zF sh))), (q 6, .inl (cA, 12, .inl (zF kp)))] := hD
      exact W.vret hx hb hr (fun t ht hW => ⟨⟨(ig_114, lT_114, lL_114, hT_114, hL_114), rfl, (by refine ⟨?_, by first | exact w54.2 | exact w114.2 | fail⟩; unfold zKt zKm zTu; first | (rw [if_neg c4, if_neg c4, if_pos (by omega)]; exact w54.1) | (rw [if_neg c4, if_neg c4, if_neg (by omega)]; exact w54.1) | (rw [if_pos c4, if_pos c4, if_pos (by omega)]; exact w114.1) | (rw [if_pos c4, if_pos c4, if_neg (by omega)]; exact w114.1) | fail), ⟨by rw [ht]; exact hP, hD⟩⟩, hS.F ht⟩) hS.2.2 dX8_keeps_117
    · skip
      refine lv_ldc2 (v := lI (-1)) hx hb hown (by rw [show lI (-1) = (-1) by decide +kernel]; exact hts (.constantLong RX8 73 (-1)) (by decide +kernel)) dX8_keeps_67 ?_
      refine lv_goto (tgt := 74) hx hb dX8_keeps_70 (by decide) ?_
      refine lv_lstore (lv' := [(4, .long (lI (-1))), (0, .ref (q 0)), (1, .int (iI ra)), (2, .int (iI rb)), (3, .int (iI mm))]) hx hb dX8_keeps_74 hl (by decide) rfl (fun ls hl => ?_)
      refine lv_aload_n hx hb dX8_keeps_76 rfl (lv_at hl 1 rfl) ?_
      refine lv_iload_n hx hb dX8_keeps_77 rfl (lv_at hl 2 rfl) ?_
      refine lv_aload_n hx hb dX8_keeps_78 rfl (lv_at hl 1 rfl) ?_
      refine va_get (ci := 9) (v := .int (iI ay)) (C := RX8) (T := TX8) (N := 17) hx hb hts iz_X8_keeps_X8 hown hK hP 0 rfl rfl 10 (by decide) (hts (.fieldLink RX8 112 "PowerPlotModel" "acrossY" "I") (by decide +kernel)) (fun _ h9 => h9) rfl dX8_keeps_79 ?_
      refine zi_imul hx hb dX8_keeps_82 ?_
      refine lv_iload_n hx hb dX8_keeps_83 rfl (lv_at hl 3 rfl) ?_
      refine lv_aload_n hx hb dX8_keeps_84 rfl (lv_at hl 1 rfl) ?_
      refine va_get (ci := 9) (v := .int (iI ax)) (C := RX8) (T := TX8) (N := 17) hx hb hts iz_X8_keeps_X8 hown hK hP 0 rfl rfl 9 (by decide) (hts (.fieldLink RX8 102 "PowerPlotModel" "acrossX" "I") (by decide +kernel)) (fun _ h9 => h9) rfl dX8_keeps_85 ?_
      refine zi_imul hx hb dX8_keeps_88 ?_
      refine zi_isub hx hb dX8_keeps_89 ?_
      refine zi_i2l hx hb dX8_keeps_90 (by omega) ?_
      refine lv_lload hx hb dX8_keeps_91 (lv_at hl 0 rfl) ?_
      refine zl_lmul hx hb dX8_keeps_93 ?_
      refine lv_iload_n hx hb dX8_keeps_94 rfl (lv_at hl 4 rfl) ?_
      refine zi_i2l hx hb dX8_keeps_95 (by omega) ?_
      refine lv_aload_n hx hb dX8_keeps_96 rfl (lv_at hl 1 rfl) ?_
      refine va_get (ci := 9) (v := .int (iI ay)) (C := RX8) (T := TX8) (N := 17) hx hb hts iz_X8_keeps_X8 hown hK hP 0 rfl rfl 10 (by decide) (hts (.fieldLink RX8 112 "PowerPlotModel" "acrossY" "I") (by decide +kernel)) (fun _ h9 => h9) rfl dX8_keeps_97 ?_
      refine zi_i2l hx hb dX8_keeps_100 (by omega) ?_
      refine zl_lmul hx hb dX8_keeps_101 ?_
      refine lv_iload_n hx hb dX8_keeps_102 rfl (lv_at hl 3 rfl) ?_
      refine zi_i2l hx hb dX8_keeps_103 (by omega) ?_
      refine lv_aload_n hx hb dX8_keeps_104 rfl (lv_at hl 1 rfl) ?_
      refine va_get (ci := 9) (v := .int (iI ri)) (C := RX8) (T := TX8) (N := 17) hx hb hts iz_X8_keeps_X8 hown hK hP 0 rfl rfl 11 (by decide) (hts (.fieldLink RX8 105 "PowerPlotModel" "rise" "I") (by decide +kernel)) (fun _ h9 => h9) rfl dX8_keeps_105 ?_
      refine zi_i2l hx hb dX8_keeps_108 (by omega) ?_
      refine zl_lmul hx hb dX8_keeps_109 ?_
      refine zl_lsub hx hb dX8_keeps_110 ?_
      refine lv_lload hx hb dX8_keeps_111 (lv_at hl 0 rfl) ?_
      refine zl_lmul hx hb dX8_keeps_113 ?_
      refine zc_wv (wr := []) (As := [.long (lI (((ra * ay) - (rb * ax)) * (-1))), .long (lI (((mm * ay) - (rb * ri)) * (-1)))]) (rest := []) ⟨hx, hb, hml, hown, hts⟩ (c_X8_cuts l D _ tys cA hty q th N Xs Ys Wt Cp sh kp iu ax ay ri lT lL hT hL ig (((ra * ay) - (rb * ax)) * (-1)) (((mm * ay) - (rb * ri)) * (-1)) (by assumption) (by assumption) (by omega) (by omega)) (cwV 2 hts gX8_keeps_X8_cuts rfl rfl rfl (by decide +kernel) ⟨(Nat.le_of_ble_eq_true rfl), (Nat.le_of_ble_eq_true rfl)⟩) hP hK hD hS hA [0, 1, 2, 3, 4, 5, 6] rfl rfl rfl rfl [] [0, 1, 2, 3, 4, 5, 6] rfl rfl (by decide) (fun _ => rfl) rfl rfl hl.1 rfl (Nat.le_of_ble_eq_true rfl) dX8_keeps_114 ⟨Nat.zero_le _, Nat.zero_le _⟩ (ws1 := fun (u9 : Int × Int × Int × Int × Int) => [(q 0, .inr (9, [.int (iI th), .int (iI N), .ref (q 1), .ref (q 2), .ref (q 3), .ref (q 4), .ref (q 5), .ref (q 6), .int (iI iu), .int (iI ax), .int (iI ay), .int (iI ri), .long (lI u9.2.1), .long (lI u9.2.2.1), .long (lI u9.2.2.2.1), .long (lI u9.2.2.2.2), .int (iI u9.1)])), (q 1, .inl (cA, 12, .inl (zF Xs))), (q 2, .inl (cA, 12, .inl (zF Ys))), (q 3, .inl (cA, 12, .inl (zF Wt))), (q 4, .inl (cA, 12, .inl (zF Cp))), (q 5, .inl (cA, 12, .inl (zF sh))), (q 6, .inl (cA, 12, .inl (zF kp)))]) (fun u114 H locs w114 hP hD hS => ?_)
      obtain ⟨ig_114, lT_114, lL_114, hT_114, hL_114⟩ := u114
      have w114 : (ig_114, lT_114, lL_114, hT_114, hL_114) = zCut (((ra * ay) - (rb * ax)) * (-1)) (((mm * ay) - (rb * ri)) * (-1)) ig lT lL hT hL ∧ zFc lT_114 lL_114 hT_114 hL_114 ∧ 0 ≤ ig_114 ∧ ig_114 ≤ 1 := w114
      have hP : va_P D vwCl [(q 0, .inr (9, [.int (iI th), .int (iI N), .ref (q 1), .ref (q 2), .ref (q 3), .ref (q 4), .ref (q 5), .ref (q 6), .int (iI iu), .int (iI ax), .int (iI ay), .int (iI ri), .long (lI lT_114), .long (lI lL_114), .long (lI hT_114), .long (lI hL_114), .int (iI ig_114)])), (q 1, .inl (cA, 12, .inl (zF Xs))), (q 2, .inl (cA, 12, .inl (zF Ys))), (q 3, .inl (cA, 12, .inl (zF Wt))), (q 4, .inl (cA, 12, .inl (zF Cp))), (q 5, .inl (cA, 12, .inl (zF sh))), (q 6, .inl (cA, 12, .inl (zF kp)))] H := hP
      have hD : va_D _ [(q 0, .inr (9, [.int (iI th), .int (iI N), .ref (q 1), .ref (q 2), .ref (q 3), .ref (q 4), .ref (q 5), .ref (q 6), .int (iI iu), .int (iI ax), .int (iI ay), .int (iI ri), .long (lI lT_114), .long (lI lL_114), .long (lI hT_114), .long (lI hL_114), .int (iI ig_114)])), (q 1, .inl (cA, 12, .inl (zF Xs))), (q 2, .inl (cA, 12, .inl (zF Ys))), (q 3, .inl (cA, 12, .inl (zF Wt))), (q 4, .inl (cA, 12, .inl (zF Cp))), (q 5, .inl (cA, 12, .inl (zF sh))), (q 6, .inl (cA, 12, .inl (zF kp)))] := hD
      exact W.vret hx hb hr (fun t ht hW => ⟨⟨(ig_114, lT_114, lL_114, hT_114, hL_114), rfl, (by refine ⟨?_, by first | exact w54.2 | exact w114.2 | fail⟩; unfold zKt zKm zTu; first | (rw [if_neg c4, if_neg c4, if_pos (by omega)]; exact w54.1) | (rw [if_neg c4, if_neg c4, if_neg (by omega)]; exact w54.1) | (rw [if_pos c4, if_pos c4, if_pos (by omega)]; exact w114.1) | (rw [if_pos c4, if_pos c4, if_neg (by omega)]; exact w114.1) | fail), ⟨by rw [ht]; exact hP, hD⟩⟩, hS.F ht⟩) hS.2.2 dX8_keeps_117
  · skip
    refine lv_aload_n hx hb dX8_keeps_7 rfl (lv_at hl 0 rfl) ?_
    refine va_get (ci := 9) (v := .int (iI ax)) (C := RX8) (T := TX8) (N := 17) hx hb hts iz_X8_keeps_X8 hown hK hP 0 rfl rfl 9 (by decide) (hts (.fieldLink RX8 102 "PowerPlotModel" "acrossX" "I") (by decide +kernel)) (fun _ h9 => h9) rfl dX8_keeps_8 ?_
    refine zi_if_ge (tgt := 20) hx hb dX8_keeps_11 (by decide) (by omega) (fun c11 => ?_) (fun c11 => ?_)
    · skip
      refine lv_lconst (v := lI 1) hx hb dX8_keeps_20 (by decide +kernel) ?_
      refine lv_lstore (lv' := [(4, .long (lI 1)), (0, .ref (q 0)), (1, .int (iI ra)), (2, .int (iI rb)), (3, .int (iI mm))]) hx hb dX8_keeps_21 hl (by decide) rfl (fun ls hl => ?_)
      refine lv_aload_n hx hb dX8_keeps_23 rfl (lv_at hl 1 rfl) ?_
      refine lv_iload_n hx hb dX8_keeps_24 rfl (lv_at hl 3 rfl) ?_
      refine lv_aload_n hx hb dX8_keeps_25 rfl (lv_at hl 1 rfl) ?_
      refine va_get (ci := 9) (v := .int (iI ax)) (C := RX8) (T := TX8) (N := 17) hx hb hts iz_X8_keeps_X8 hown hK hP 0 rfl rfl 9 (by decide) (hts (.fieldLink RX8 102 "PowerPlotModel" "acrossX" "I") (by decide +kernel)) (fun _ h9 => h9) rfl dX8_keeps_26 ?_
      refine zi_imul hx hb dX8_keeps_29 ?_
      refine zi_i2l hx hb dX8_keeps_30 (by omega) ?_
      refine lv_lload hx hb dX8_keeps_31 (lv_at hl 0 rfl) ?_
      refine zl_lmul hx hb dX8_keeps_33 ?_
      refine lv_iload_n hx hb dX8_keeps_34 rfl (lv_at hl 4 rfl) ?_
      refine zi_i2l hx hb dX8_keeps_35 (by omega) ?_
      refine lv_aload_n hx hb dX8_keeps_36 rfl (lv_at hl 1 rfl) ?_
      refine va_get (ci := 9) (v := .int (iI ax)) (C := RX8) (T := TX8) (N := 17) hx hb hts iz_X8_keeps_X8 hown hK hP 0 rfl rfl 9 (by decide) (hts (.fieldLink RX8 102 "PowerPlotModel" "acrossX" "I") (by decide +kernel)) (fun _ h9 => h9) rfl dX8_keeps_37 ?_
      refine zi_i2l hx hb dX8_keeps_40 (by omega) ?_
      refine zl_lmul hx hb dX8_keeps_41 ?_
      refine lv_iload_n hx hb dX8_keeps_42 rfl (lv_at hl 2 rfl) ?_
      refine zi_i2l hx hb dX8_keeps_43 (by omega) ?_
      refine lv_aload_n hx hb dX8_keeps_44 rfl (lv_at hl 1 rfl) ?_
      refine va_get (ci := 9) (v := .int (iI ri)) (C := RX8) (T := TX8) (N := 17) hx hb hts iz_X8_keeps_X8 hown hK hP 0 rfl rfl 11 (by decide) (hts (.fieldLink RX8 105 "PowerPlotModel" "rise" "I") (by decide +kernel)) (fun _ h9 => h9) rfl dX8_keeps_45 ?_
      refine zi_i2l hx hb dX8_keeps_48 (by omega) ?_
      refine zl_lmul hx hb dX8_keeps_49 ?_
      refine zl_lsub hx hb dX8_keeps_50 ?_
      refine lv_lload hx hb dX8_keeps_51 (lv_at hl 0 rfl) ?_
      refine zl_lmul hx hb dX8_keeps_53 ?_
      refine zc_wv (wr := []) (As := [.long (lI ((rb * ax) * 1)), .long (lI (((mm * ax) - (ra * ri)) * 1))]) (rest := []) ⟨hx, hb, hml, hown, hts⟩ (c_X8_cuts l D _ tys cA hty q th N Xs Ys Wt Cp sh kp iu ax ay ri lT lL hT hL ig ((rb * ax) * 1) (((mm * ax) - (ra * ri)) * 1) (by assumption) (by assumption) (by omega) (by omega)) (cwV 2 hts gX8_keeps_X8_cuts rfl rfl rfl (by decide +kernel) ⟨(Nat.le_of_ble_eq_true rfl), (Nat.le_of_ble_eq_true rfl)⟩) hP hK hD hS hA [0, 1, 2, 3, 4, 5, 6] rfl rfl rfl rfl [] [0, 1, 2, 3, 4, 5, 6] rfl rfl (by decide) (fun _ => rfl) rfl rfl hl.1 rfl (Nat.le_of_ble_eq_true rfl) dX8_keeps_54 ⟨Nat.zero_le _, Nat.zero_le _⟩ (ws1 := fun (u9 : Int × Int × Int × Int × Int) => [(q 0, .inr (9, [.int (iI th), .int (iI N), .ref (q 1), .ref (q 2), .ref (q 3), .ref (q 4), .ref (q 5), .ref (q 6), .int (iI iu), .int (iI ax), .int (iI ay), .int (iI ri), .long (lI u9.2.1), .long (lI u9.2.2.1), .long (lI u9.2.2.2.1), .long (lI u9.2.2.2.2), .int (iI u9.1)])), (q 1, .inl (cA, 12, .inl (zF Xs))), (q 2, .inl (cA, 12, .inl (zF Ys))), (q 3, .inl (cA, 12, .inl (zF Wt))), (q 4, .inl (cA, 12, .inl (zF Cp))), (q 5, .inl (cA, 12, .inl (zF sh))), (q 6, .inl (cA, 12, .inl (zF kp)))]) (fun u54 H locs w54 hP hD hS => ?_)
      obtain ⟨ig_54, lT_54, lL_54, hT_54, hL_54⟩ := u54
      have w54 : (ig_54, lT_54, lL_54, hT_54, hL_54) = zCut ((rb * ax) * 1) (((mm * ax) - (ra * ri)) * 1) ig lT lL hT hL ∧ zFc lT_54 lL_54 hT_54 hL_54 ∧ 0 ≤ ig_54 ∧ ig_54 ≤ 1 := w54
      have hP : va_P D vwCl [(q 0, .inr (9, [.int (iI th), .int (iI N), .ref (q 1), .ref (q 2), .ref (q 3), .ref (q 4), .ref (q 5), .ref (q 6), .int (iI iu), .int (iI ax), .int (iI ay), .int (iI ri), .long (lI lT_54), .long (lI lL_54), .long (lI hT_54), .long (lI hL_54), .int (iI ig_54)])), (q 1, .inl (cA, 12, .inl (zF Xs))), (q 2, .inl (cA, 12, .inl (zF Ys))), (q 3, .inl (cA, 12, .inl (zF Wt))), (q 4, .inl (cA, 12, .inl (zF Cp))), (q 5, .inl (cA, 12, .inl (zF sh))), (q 6, .inl (cA, 12, .inl (zF kp)))] H := hP
      have hD : va_D _ [(q 0, .inr (9, [.int (iI th), .int (iI N), .ref (q 1), .ref (q 2), .ref (q 3), .ref (q 4), .ref (q 5), .ref (q 6), .int (iI iu), .int (iI ax), .int (iI ay), .int (iI ri), .long (lI lT_54), .long (lI lL_54), .long (lI hT_54), .long (lI hL_54), .int (iI ig_54)])), (q 1, .inl (cA, 12, .inl (zF Xs))), (q 2, .inl (cA, 12, .inl (zF Ys))), (q 3, .inl (cA, 12, .inl (zF Wt))), (q 4, .inl (cA, 12, .inl (zF Cp))), (q 5, .inl (cA, 12, .inl (zF sh))), (q 6, .inl (cA, 12, .inl (zF kp)))] := hD
      refine lv_goto (tgt := 117) hx hb dX8_keeps_57 (by decide) ?_
      exact W.vret hx hb hr (fun t ht hW => ⟨⟨(ig_54, lT_54, lL_54, hT_54, hL_54), rfl, (by refine ⟨?_, by first | exact w54.2 | exact w114.2 | fail⟩; unfold zKt zKm zTu; first | (rw [if_neg c4, if_neg c4, if_pos (by omega)]; exact w54.1) | (rw [if_neg c4, if_neg c4, if_neg (by omega)]; exact w54.1) | (rw [if_pos c4, if_pos c4, if_pos (by omega)]; exact w114.1) | (rw [if_pos c4, if_pos c4, if_neg (by omega)]; exact w114.1) | fail), ⟨by rw [ht]; exact hP, hD⟩⟩, hS.F ht⟩) hS.2.2 dX8_keeps_117
    · skip
      refine lv_ldc2 (v := lI (-1)) hx hb hown (by rw [show lI (-1) = (-1) by decide +kernel]; exact hts (.constantLong RX8 73 (-1)) (by decide +kernel)) dX8_keeps_14 ?_
      refine lv_goto (tgt := 21) hx hb dX8_keeps_17 (by decide) ?_
      refine lv_lstore (lv' := [(4, .long (lI (-1))), (0, .ref (q 0)), (1, .int (iI ra)), (2, .int (iI rb)), (3, .int (iI mm))]) hx hb dX8_keeps_21 hl (by decide) rfl (fun ls hl => ?_)
      refine lv_aload_n hx hb dX8_keeps_23 rfl (lv_at hl 1 rfl) ?_
      refine lv_iload_n hx hb dX8_keeps_24 rfl (lv_at hl 3 rfl) ?_
      refine lv_aload_n hx hb dX8_keeps_25 rfl (lv_at hl 1 rfl) ?_
      refine va_get (ci := 9) (v := .int (iI ax)) (C := RX8) (T := TX8) (N := 17) hx hb hts iz_X8_keeps_X8 hown hK hP 0 rfl rfl 9 (by decide) (hts (.fieldLink RX8 102 "PowerPlotModel" "acrossX" "I") (by decide +kernel)) (fun _ h9 => h9) rfl dX8_keeps_26 ?_
      refine zi_imul hx hb dX8_keeps_29 ?_
      refine zi_i2l hx hb dX8_keeps_30 (by omega) ?_
      refine lv_lload hx hb dX8_keeps_31 (lv_at hl 0 rfl) ?_
      refine zl_lmul hx hb dX8_keeps_33 ?_
      refine lv_iload_n hx hb dX8_keeps_34 rfl (lv_at hl 4 rfl) ?_
      refine zi_i2l hx hb dX8_keeps_35 (by omega) ?_
      refine lv_aload_n hx hb dX8_keeps_36 rfl (lv_at hl 1 rfl) ?_
      refine va_get (ci := 9) (v := .int (iI ax)) (C := RX8) (T := TX8) (N := 17) hx hb hts iz_X8_keeps_X8 hown hK hP 0 rfl rfl 9 (by decide) (hts (.fieldLink RX8 102 "PowerPlotModel" "acrossX" "I") (by decide +kernel)) (fun _ h9 => h9) rfl dX8_keeps_37 ?_
      refine zi_i2l hx hb dX8_keeps_40 (by omega) ?_
      refine zl_lmul hx hb dX8_keeps_41 ?_
      refine lv_iload_n hx hb dX8_keeps_42 rfl (lv_at hl 2 rfl) ?_
      refine zi_i2l hx hb dX8_keeps_43 (by omega) ?_
      refine lv_aload_n hx hb dX8_keeps_44 rfl (lv_at hl 1 rfl) ?_
      refine va_get (ci := 9) (v := .int (iI ri)) (C := RX8) (T := TX8) (N := 17) hx hb hts iz_X8_keeps_X8 hown hK hP 0 rfl rfl 11 (by decide) (hts (.fieldLink RX8 105 "PowerPlotModel" "rise" "I") (by decide +kernel)) (fun _ h9 => h9) rfl dX8_keeps_45 ?_
      refine zi_i2l hx hb dX8_keeps_48 (by omega) ?_
      refine zl_lmul hx hb dX8_keeps_49 ?_
      refine zl_lsub hx hb dX8_keeps_50 ?_
      refine lv_lload hx hb dX8_keeps_51 (lv_at hl 0 rfl) ?_
      refine zl_lmul hx hb dX8_keeps_53 ?_
      refine zc_wv (wr := []) (As := [.long (lI ((rb * ax) * (-1))), .long (lI (((mm * ax) - (ra * ri)) * (-1)))]) (rest := []) ⟨hx, hb, hml, hown, hts⟩ (c_X8_cuts l D _ tys cA hty q th N Xs Ys Wt Cp sh kp iu ax ay ri lT lL hT hL ig ((rb * ax) * (-1)) (((mm * ax) - (ra * ri)) * (-1)) (by assumption) (by assumption) (by omega) (by omega)) (cwV 2 hts gX8_keeps_X8_cuts rfl rfl rfl (by decide +kernel) ⟨(Nat.le_of_ble_eq_true rfl), (Nat.le_of_ble_eq_true rfl)⟩) hP hK hD hS hA [0, 1, 2, 3, 4, 5, 6] rfl rfl rfl rfl [] [0, 1, 2, 3, 4, 5, 6] rfl rfl (by decide) (fun _ => rfl) rfl rfl hl.1 rfl (Nat.le_of_ble_eq_true rfl) dX8_keeps_54 ⟨Nat.zero_le _, Nat.zero_le _⟩ (ws1 := fun (u9 : Int × Int × Int × Int × Int) => [(q 0, .inr (9, [.int (iI th), .int (iI N), .ref (q 1), .ref (q 2), .ref (q 3), .ref (q 4), .ref (q 5), .ref (q 6), .int (iI iu), .int (iI ax), .int (iI ay), .int (iI ri), .long (lI u9.2.1), .long (lI u9.2.2.1), .long (lI u9.2.2.2.1), .long (lI u9.2.2.2.2), .int (iI u9.1)])), (q 1, .inl (cA, 12, .inl (zF Xs))), (q 2, .inl (cA, 12, .inl (zF Ys))), (q 3, .inl (cA, 12, .inl (zF Wt))), (q 4, .inl (cA, 12, .inl (zF Cp))), (q 5, .inl (cA, 12, .inl (zF sh))), (q 6, .inl (cA, 12, .inl (zF kp)))]) (fun u54 H locs w54 hP hD hS => ?_)
      obtain ⟨ig_54, lT_54, lL_54, hT_54, hL_54⟩ := u54
      have w54 : (ig_54, lT_54, lL_54, hT_54, hL_54) = zCut ((rb * ax) * (-1)) (((mm * ax) - (ra * ri)) * (-1)) ig lT lL hT hL ∧ zFc lT_54 lL_54 hT_54 hL_54 ∧ 0 ≤ ig_54 ∧ ig_54 ≤ 1 := w54
      have hP : va_P D vwCl [(q 0, .inr (9, [.int (iI th), .int (iI N), .ref (q 1), .ref (q 2), .ref (q 3), .ref (q 4), .ref (q 5), .ref (q 6), .int (iI iu), .int (iI ax), .int (iI ay), .int (iI ri), .long (lI lT_54), .long (lI lL_54), .long (lI hT_54), .long (lI hL_54), .int (iI ig_54)])), (q 1, .inl (cA, 12, .inl (zF Xs))), (q 2, .inl (cA, 12, .inl (zF Ys))), (q 3, .inl (cA, 12, .inl (zF Wt))), (q 4, .inl (cA, 12, .inl (zF Cp))), (q 5, .inl (cA, 12, .inl (zF sh))), (q 6, .inl (cA, 12, .inl (zF kp)))] H := hP
      have hD : va_D _ [(q 0, .inr (9, [.int (iI th), .int (iI N), .ref (q 1), .ref (q 2), .ref (q 3), .ref (q 4), .ref (q 5), .ref (q 6), .int (iI iu), .int (iI ax), .int (iI ay), .int (iI ri), .long (lI lT_54), .long (lI lL_54), .long (lI hT_54), .long (lI hL_54), .int (iI ig_54)])), (q 1, .inl (cA, 12, .inl (zF Xs))), (q 2, .inl (cA, 12, .inl (zF Ys))), (q 3, .inl (cA, 12, .inl (zF Wt))), (q 4, .inl (cA, 12, .inl (zF Cp))), (q 5, .inl (cA, 12, .inl (zF sh))), (q 6, .inl (cA, 12, .inl (zF kp)))] := hD
      refine lv_goto (tgt := 117) hx hb dX8_keeps_57 (by decide) ?_
      exact W.vret hx hb hr (fun t ht hW => ⟨⟨(ig_54, lT_54, lL_54, hT_54, hL_54), rfl, (by refine ⟨?_, by first | exact w54.2 | exact w114.2 | fail⟩; unfold zKt zKm zTu; first | (rw [if_neg c4, if_neg c4, if_pos (by omega)]; exact w54.1) | (rw [if_neg c4, if_neg c4, if_neg (by omega)]; exact w54.1) | (rw [if_pos c4, if_pos c4, if_pos (by omega)]; exact w114.1) | (rw [if_pos c4, if_pos c4, if_neg (by omega)]; exact w114.1) | fail), ⟨by rw [ht]; exact hP, hD⟩⟩, hS.F ht⟩) hS.2.2 dX8_keeps_117
theorem iz_X8_isLong_X8 : ∀ w ∈ u_ws RX8 TX8 17, w ∈ wsX8_isLong := by decide +kernel
set_option maxHeartbeats 4000000 in
set_option maxRecDepth 100000 in
/-- PowerPlotModel.isLong -/
theorem c_X8_isLong (l : Launch) (D : va_G) (sz : Nat) (tys : List (ClassId × FieldType)) (cA : ClassId) (hty : tys[0]? = some (cA, .int)) (q : Nat → Nat) (th N : Int) (Xs Ys Wt Cp sh kp : Int → Int) (iu ax ay ri lT lL hT hL ig : Int) (gF : zFc lT lL hT hL) (ge : 0 ≤ ig ∧ ig ≤ 1) : Met l yX8_isLong wsX8_isLong ({ frames := 0, cells := 0, slots := 0, locals := 0 }) (zP D [.ref (q 0)] sz [(q 0, .inr (9, [.int (iI th), .int (iI N), .ref (q 1), .ref (q 2), .ref (q 3), .ref (q 4), .ref (q 5), .ref (q 6), .int (iI iu), .int (iI ax), .int (iI ay), .int (iI ri), .long (lI lT), .long (lI lL), .long (lI hT), .long (lI hL), .int (iI ig)])), (q 1, .inl (cA, 12, .inl (zF Xs))), (q 2, .inl (cA, 12, .inl (zF Ys))), (q 3, .inl (cA, 12, .inl (zF Wt))), (q 4, .inl (cA, 12, .inl (zF Cp))), (q 5, .inl (cA, 12, .inl (zF sh))), (q 6, .inl (cA, 12, .inl (zF kp)))] tys) (zRi (bI (ig = 0 ∧ lT * hL < hT * lL)) sz) 0 0 (zN sz) := by
  refine Met.ofW (cc := cX8_isLong) (maxL := 1) (ret := (some .boolean)) (by decide +kernel) rfl ?_
  intro p e s m args below meth c s₁ B hml hv
  obtain ⟨rfl, hsz, hP, hK, hD0⟩ := hv
  have hx := B.exec
  have hb := B.bytes
  have hr := B.returns
  have hts := atoms_spec (ws := wsX8_isLong) B.pre
  have hown : s.vm.findClass RX8 = some m.cls := findClass_of_methodNamed B.named
  have hlocks := B.notSynchronized
  subst hsz
  have hD := hD0
  have hS : va_S (zN s.heap.size) s.heap s.heap [] := va_S.rf
  have hA : ∀ q9 : Nat, s.heap.size ≤ q9 → (zN s.heap.size) q9 := fun q9 h => h
  have hl := lv_entry ([.ref (q 0)]) (n := 1) (Nat.le_of_ble_eq_true rfl)
  rw [lg_entry_eq]
  generalize (lg_sl ([.ref (q 0)]) ++ List.replicate (1 - (lg_sl ([.ref (q 0)])).length) Slot.unset).toArray = ls at hl ⊢
  have hl : lv_has ls 1 [(0, .ref (q 0))] := hl
  have y3 := gF.1
  have y4 := gF.2.1
  have y5 := gF.2.2.1
  have y6 := gF.2.2.2
  have y7 := zm_le (a := lT) (b := hL) (A := 831680) (B := 12800) y3 (by omega)
  have y8 := zm_le (a := hT) (b := lL) (A := 831680) (B := 12800) y5 (by omega)
  refine lv_aload_n hx hb dX8_isLong_0 rfl (lv_at hl 0 rfl) ?_
  refine va_get (ci := 9) (v := .int (iI ig)) (C := RX8) (T := TX8) (N := 17) hx hb hts iz_X8_isLong_X8 hown hK hP 0 rfl rfl 16 (by decide) (hts (.fieldLink RX8 82 "PowerPlotModel" "isGone" "Z") (by decide +kernel)) (fun _ h9 => h9) rfl dX8_isLong_1 ?_
  refine zi_if_ne (tgt := 33) hx hb dX8_isLong_4 (by decide) (by omega) (fun c4 => ?_) (fun c4 => ?_)
  · skip
    refine lv_iconst (v := iI 0) hx hb dX8_isLong_33 rfl ?_
    exact W.zret (v := iI 0) (ty := .boolean) hx hb hr (by decide) (fun t ht hW => ⟨⟨iI 0, (), rfl, congrArg iI (show 0 = bI (ig = 0 ∧ lT * hL < hT * lL) from by first | exact (bI_t ⟨by omega, by omega⟩).symm | exact (bI_f (by omega)).symm | fail | fail), trivial⟩, hS.F ht⟩) hS.2.2 dX8_isLong_34
  · skip
    refine lv_aload_n hx hb dX8_isLong_7 rfl (lv_at hl 0 rfl) ?_
    refine va_get (ci := 9) (v := .long (lI lT)) (C := RX8) (T := TX8) (N := 17) hx hb hts iz_X8_isLong_X8 hown hK hP 0 rfl rfl 12 (by decide) (hts (.fieldLink RX8 96 "PowerPlotModel" "lowTop" "J") (by decide +kernel)) (fun _ h9 => h9) rfl dX8_isLong_8 ?_
    refine lv_aload_n hx hb dX8_isLong_11 rfl (lv_at hl 0 rfl) ?_
    refine va_get (ci := 9) (v := .long (lI hL)) (C := RX8) (T := TX8) (N := 17) hx hb hts iz_X8_isLong_X8 hown hK hP 0 rfl rfl 15 (by decide) (hts (.fieldLink RX8 86 "PowerPlotModel" "highLine" "J") (by decide +kernel)) (fun _ h9 => h9) rfl dX8_isLong_12 ?_
    refine zl_lmul hx hb dX8_isLong_15 ?_
    refine lv_aload_n hx hb dX8_isLong_16 rfl (lv_at hl 0 rfl) ?_
    refine va_get (ci := 9) (v := .long (lI hT)) (C := RX8) (T := TX8) (N := 17) hx hb hts iz_X8_isLong_X8 hown hK hP 0 rfl rfl 14 (by decide) (hts (.fieldLink RX8 90 "PowerPlotModel" "highTop" "J") (by decide +kernel)) (fun _ h9 => h9) rfl dX8_isLong_17 ?_
    refine lv_aload_n hx hb dX8_isLong_20 rfl (lv_at hl 0 rfl) ?_
    refine va_get (ci := 9) (v := .long (lI lL)) (C := RX8) (T := TX8) (N := 17) hx hb hts iz_X8_isLong_X8 hown hK hP 0 rfl rfl 13 (by decide) (hts (.fieldLink RX8 93 "PowerPlotModel" "lowLine" "J") (by decide +kernel)) (fun _ h9 => h9) rfl dX8_isLong_21 ?_
    refine zl_lmul hx hb dX8_isLong_24 ?_
    refine zl_if_ge (tgt := 33) hx hb dX8_isLong_25 dX8_isLong_26 (by decide) (by omega) (by omega) (fun c25 => ?_) (fun c25 => ?_)
    · skip
      refine lv_iconst (v := iI 0) hx hb dX8_isLong_33 rfl ?_
      exact W.zret (v := iI 0) (ty := .boolean) hx hb hr (by decide) (fun t ht hW => ⟨⟨iI 0, (), rfl, congrArg iI (show 0 = bI (ig = 0 ∧ lT * hL < hT * lL) from by first | exact (bI_t ⟨by omega, by omega⟩).symm | exact (bI_f (by omega)).symm | fail | fail), trivial⟩, hS.F ht⟩) hS.2.2 dX8_isLong_34
    · skip
      refine lv_iconst (v := iI 1) hx hb dX8_isLong_29 rfl ?_
      refine lv_goto (tgt := 34) hx hb dX8_isLong_30 (by decide) ?_
      exact W.zret (v := iI 1) (ty := .boolean) hx hb hr (by decide) (fun t ht hW => ⟨⟨iI 1, (), rfl, congrArg iI (show 1 = bI (ig = 0 ∧ lT * hL < hT * lL) from by first | exact (bI_t ⟨by omega, by omega⟩).symm | exact (bI_f (by omega)).symm | fail | fail), trivial⟩, hS.F ht⟩) hS.2.2 dX8_isLong_34
theorem iz_X8_cause_X8 : ∀ w ∈ u_ws RX8 TX8 17, w ∈ wsX8_cause := by decide +kernel
set_option maxHeartbeats 4000000 in
set_option maxRecDepth 100000 in
/-- PowerPlotModel.cause -/
theorem c_X8_cause (l : Launch) (D : va_G) (sz : Nat) (tys : List (ClassId × FieldType)) (cA : ClassId) (hty : tys[0]? = some (cA, .int)) (q : Nat → Nat) (th N : Int) (Xs Ys Wt Cp sh kp : Int → Int) (iu ax ay ri lT lL hT hL ig : Int) (k o : Int) (gB : zBd Xs Ys Wt) (gN : 0 ≤ N ∧ N ≤ 12) (gk : 0 ≤ k ∧ k < N) (go : 0 ≤ o ∧ o < N) : Met l yX8_cause wsX8_cause ({ frames := 2, cells := 0, slots := 0, locals := 50 }) (zP D [.ref (q 0), .int (iI k), .int (iI o)] sz [(q 0, .inr (9, [.int (iI th), .int (iI N), .ref (q 1), .ref (q 2), .ref (q 3), .ref (q 4), .ref (q 5), .ref (q 6), .int (iI iu), .int (iI ax), .int (iI ay), .int (iI ri), .long (lI lT), .long (lI lL), .long (lI hT), .long (lI hL), .int (iI ig)])), (q 1, .inl (cA, 12, .inl (zF Xs))), (q 2, .inl (cA, 12, .inl (zF Ys))), (q 3, .inl (cA, 12, .inl (zF Wt))), (q 4, .inl (cA, 12, .inl (zF Cp))), (q 5, .inl (cA, 12, .inl (zF sh))), (q 6, .inl (cA, 12, .inl (zF kp)))] tys) (zWi (fun (u : Int × Int × Int × Int × Int × Int × Int × Int × Int) => zTrV Xs Ys Wt N k o) (fun (u : Int × Int × Int × Int × Int × Int × Int × Int × Int) => zTrV Xs Ys Wt N k o = -1 → zRq Xs Ys Wt N k o u.1 u.2.1 u.2.2.1 u.2.2.2.1 u.2.2.2.2.1 u.2.2.2.2.2.1 u.2.2.2.2.2.2.1 u.2.2.2.2.2.2.2.1) D (fun (u : Int × Int × Int × Int × Int × Int × Int × Int × Int) => [(q 0, .inr (9, [.int (iI th), .int (iI N), .ref (q 1), .ref (q 2), .ref (q 3), .ref (q 4), .ref (q 5), .ref (q 6), .int (iI u.1), .int (iI u.2.1), .int (iI u.2.2.1), .int (iI u.2.2.2.1), .long (lI u.2.2.2.2.1), .long (lI u.2.2.2.2.2.1), .long (lI u.2.2.2.2.2.2.1), .long (lI u.2.2.2.2.2.2.2.1), .int (iI u.2.2.2.2.2.2.2.2)])), (q 1, .inl (cA, 12, .inl (zF Xs))), (q 2, .inl (cA, 12, .inl (zF Ys))), (q 3, .inl (cA, 12, .inl (zF Wt))), (q 4, .inl (cA, 12, .inl (zF Cp))), (q 5, .inl (cA, 12, .inl (zF sh))), (q 6, .inl (cA, 12, .inl (zF kp)))]) [(q 0, .inr (9, [.int (iI th), .int (iI N), .ref (q 1), .ref (q 2), .ref (q 3), .ref (q 4), .ref (q 5), .ref (q 6), .int (iI iu), .int (iI ax), .int (iI ay), .int (iI ri), .long (lI lT), .long (lI lL), .long (lI hT), .long (lI hL), .int (iI ig)])), (q 1, .inl (cA, 12, .inl (zF Xs))), (q 2, .inl (cA, 12, .inl (zF Ys))), (q 3, .inl (cA, 12, .inl (zF Wt))), (q 4, .inl (cA, 12, .inl (zF Cp))), (q 5, .inl (cA, 12, .inl (zF sh))), (q 6, .inl (cA, 12, .inl (zF kp)))] sz) 0 0 (va_A [(q 0, .inr (9, [.int (iI th), .int (iI N), .ref (q 1), .ref (q 2), .ref (q 3), .ref (q 4), .ref (q 5), .ref (q 6), .int (iI iu), .int (iI ax), .int (iI ay), .int (iI ri), .long (lI lT), .long (lI lL), .long (lI hT), .long (lI hL), .int (iI ig)])), (q 1, .inl (cA, 12, .inl (zF Xs))), (q 2, .inl (cA, 12, .inl (zF Ys))), (q 3, .inl (cA, 12, .inl (zF Wt))), (q 4, .inl (cA, 12, .inl (zF Cp))), (q 5, .inl (cA, 12, .inl (zF sh))), (q 6, .inl (cA, 12, .inl (zF kp)))] sz) := by
  refine Met.ofW (cc := cX8_cause) (maxL := 4) (ret := (some .int)) (by decide +kernel) rfl ?_
  intro p e s m args below meth c s₁ B hml hv
  obtain ⟨rfl, hsz, hP, hK, hD0⟩ := hv
  have hx := B.exec
  have hb := B.bytes
  have hr := B.returns
  have hts := atoms_spec (ws := wsX8_cause) B.pre
  have hown : s.vm.findClass RX8 = some m.cls := findClass_of_methodNamed B.named
  have hlocks := B.notSynchronized
  subst hsz
  have hD : va_D (va_A [(q 0, .inr (9, [.int (iI th), .int (iI N), .ref (q 1), .ref (q 2), .ref (q 3), .ref (q 4), .ref (q 5), .ref (q 6), .int (iI iu), .int (iI ax), .int (iI ay), .int (iI ri), .long (lI lT), .long (lI lL), .long (lI hT), .long (lI hL), .int (iI ig)])), (q 1, .inl (cA, 12, .inl (zF Xs))), (q 2, .inl (cA, 12, .inl (zF Ys))), (q 3, .inl (cA, 12, .inl (zF Wt))), (q 4, .inl (cA, 12, .inl (zF Cp))), (q 5, .inl (cA, 12, .inl (zF sh))), (q 6, .inl (cA, 12, .inl (zF kp)))] s.heap.size) [(q 0, .inr (9, [.int (iI th), .int (iI N), .ref (q 1), .ref (q 2), .ref (q 3), .ref (q 4), .ref (q 5), .ref (q 6), .int (iI iu), .int (iI ax), .int (iI ay), .int (iI ri), .long (lI lT), .long (lI lL), .long (lI hT), .long (lI hL), .int (iI ig)])), (q 1, .inl (cA, 12, .inl (zF Xs))), (q 2, .inl (cA, 12, .inl (zF Ys))), (q 3, .inl (cA, 12, .inl (zF Wt))), (q 4, .inl (cA, 12, .inl (zF Cp))), (q 5, .inl (cA, 12, .inl (zF sh))), (q 6, .inl (cA, 12, .inl (zF kp)))] := hD0.self
  have hS : va_S (va_A [(q 0, .inr (9, [.int (iI th), .int (iI N), .ref (q 1), .ref (q 2), .ref (q 3), .ref (q 4), .ref (q 5), .ref (q 6), .int (iI iu), .int (iI ax), .int (iI ay), .int (iI ri), .long (lI lT), .long (lI lL), .long (lI hT), .long (lI hL), .int (iI ig)])), (q 1, .inl (cA, 12, .inl (zF Xs))), (q 2, .inl (cA, 12, .inl (zF Ys))), (q 3, .inl (cA, 12, .inl (zF Wt))), (q 4, .inl (cA, 12, .inl (zF Cp))), (q 5, .inl (cA, 12, .inl (zF sh))), (q 6, .inl (cA, 12, .inl (zF kp)))] s.heap.size) s.heap s.heap [] := va_S.rf
  have hA : ∀ q9 : Nat, s.heap.size ≤ q9 → (va_A [(q 0, .inr (9, [.int (iI th), .int (iI N), .ref (q 1), .ref (q 2), .ref (q 3), .ref (q 4), .ref (q 5), .ref (q 6), .int (iI iu), .int (iI ax), .int (iI ay), .int (iI ri), .long (lI lT), .long (lI lL), .long (lI hT), .long (lI hL), .int (iI ig)])), (q 1, .inl (cA, 12, .inl (zF Xs))), (q 2, .inl (cA, 12, .inl (zF Ys))), (q 3, .inl (cA, 12, .inl (zF Wt))), (q 4, .inl (cA, 12, .inl (zF Cp))), (q 5, .inl (cA, 12, .inl (zF sh))), (q 6, .inl (cA, 12, .inl (zF kp)))] s.heap.size) q9 := fun q9 h => Or.inr h
  have hl := lv_entry ([.ref (q 0), .int (iI k), .int (iI o)]) (n := 4) (Nat.le_of_ble_eq_true rfl)
  rw [lg_entry_eq]
  generalize (lg_sl ([.ref (q 0), .int (iI k), .int (iI o)]) ++ List.replicate (4 - (lg_sl ([.ref (q 0), .int (iI k), .int (iI o)])).length) Slot.unset).toArray = ls at hl ⊢
  have hl : lv_has ls 4 [(0, .ref (q 0)), (1, .int (iI k)), (2, .int (iI o))] := hl
  have x1 := gB.1 k
  have x2 := gB.1 o
  have x3 := gB.2.1 k
  have x4 := gB.2.1 o
  have x5 := zHt_rg gB k
  have x6 := zHt_rg gB o
  have J33 : (¬ (Xs k = Xs o ∧ Ys k = Ys o)) → ∀ (H : Heap) (locs : List Loc) (ls : Array Slot), va_P D vwCl [(q 0, .inr (9, [.int (iI th), .int (iI N), .ref (q 1), .ref (q 2), .ref (q 3), .ref (q 4), .ref (q 5), .ref (q 6), .int (iI iu), .int (iI ax), .int (iI ay), .int (iI ri), .long (lI lT), .long (lI lL), .long (lI hT), .long (lI hL), .int (iI ig)])), (q 1, .inl (cA, 12, .inl (zF Xs))), (q 2, .inl (cA, 12, .inl (zF Ys))), (q 3, .inl (cA, 12, .inl (zF Wt))), (q 4, .inl (cA, 12, .inl (zF Cp))), (q 5, .inl (cA, 12, .inl (zF sh))), (q 6, .inl (cA, 12, .inl (zF kp)))] H → va_D (va_A [(q 0, .inr (9, [.int (iI th), .int (iI N), .ref (q 1), .ref (q 2), .ref (q 3), .ref (q 4), .ref (q 5), .ref (q 6), .int (iI iu), .int (iI ax), .int (iI ay), .int (iI ri), .long (lI lT), .long (lI lL), .long (lI hT), .long (lI hL), .int (iI ig)])), (q 1, .inl (cA, 12, .inl (zF Xs))), (q 2, .inl (cA, 12, .inl (zF Ys))), (q 3, .inl (cA, 12, .inl (zF Wt))), (q 4, .inl (cA, 12, .inl (zF Cp))), (q 5, .inl (cA, 12, .inl (zF sh))), (q 6, .inl (cA, 12, .inl (zF kp)))] s.heap.size) [(q 0, .inr (9, [.int (iI th), .int (iI N), .ref (q 1), .ref (q 2), .ref (q 3), .ref (q 4), .ref (q 5), .ref (q 6), .int (iI iu), .int (iI ax), .int (iI ay), .int (iI ri), .long (lI lT), .long (lI lL), .long (lI hT), .long (lI hL), .int (iI ig)])), (q 1, .inl (cA, 12, .inl (zF Xs))), (q 2, .inl (cA, 12, .inl (zF Ys))), (q 3, .inl (cA, 12, .inl (zF Wt))), (q 4, .inl (cA, 12, .inl (zF Cp))), (q 5, .inl (cA, 12, .inl (zF sh))), (q 6, .inl (cA, 12, .inl (zF kp)))] → va_S (va_A [(q 0, .inr (9, [.int (iI th), .int (iI N), .ref (q 1), .ref (q 2), .ref (q 3), .ref (q 4), .ref (q 5), .ref (q 6), .int (iI iu), .int (iI ax), .int (iI ay), .int (iI ri), .long (lI lT), .long (lI lL), .long (lI hT), .long (lI hL), .int (iI ig)])), (q 1, .inl (cA, 12, .inl (zF Xs))), (q 2, .inl (cA, 12, .inl (zF Ys))), (q 3, .inl (cA, 12, .inl (zF Wt))), (q 4, .inl (cA, 12, .inl (zF Cp))), (q 5, .inl (cA, 12, .inl (zF sh))), (q 6, .inl (cA, 12, .inl (zF kp)))] s.heap.size) s.heap H locs → lv_has ls 4 [(0, .ref (q 0)), (1, .int (iI k)), (2, .int (iI o))] → W p l e (headSpec wsX8_cause ({ frames := 2, cells := 0, slots := 0, locals := 50 })).room s m ([.ref (q 0), .int (iI k), .int (iI o)] : List Value).toArray below meth c H locs 0 0 (MQ below (zWi (fun (u : Int × Int × Int × Int × Int × Int × Int × Int × Int) => zTrV Xs Ys Wt N k o) (fun (u : Int × Int × Int × Int × Int × Int × Int × Int × Int) => zTrV Xs Ys Wt N k o = -1 → zRq Xs Ys Wt N k o u.1 u.2.1 u.2.2.1 u.2.2.2.1 u.2.2.2.2.1 u.2.2.2.2.2.1 u.2.2.2.2.2.2.1 u.2.2.2.2.2.2.2.1) D (fun (u : Int × Int × Int × Int × Int × Int × Int × Int × Int) => [(q 0, .inr (9, [.int (iI th), .int (iI N), .ref (q 1), .ref (q 2), .ref (q 3), .ref (q 4), .ref (q 5), .ref (q 6), .int (iI u.1), .int (iI u.2.1), .int (iI u.2.2.1), .int (iI u.2.2.2.1), .long (lI u.2.2.2.2.1), .long (lI u.2.2.2.2.2.1), .long (lI u.2.2.2.2.2.2.1), .long (lI u.2.2.2.2.2.2.2.1), .int (iI u.2.2.2.2.2.2.2.2)])), (q 1, .inl (cA, 12, .inl (zF Xs))), (q 2, .inl (cA, 12, .inl (zF Ys))), (q 3, .inl (cA, 12, .inl (zF Wt))), (q 4, .inl (cA, 12, .inl (zF Cp))), (q 5, .inl (cA, 12, .inl (zF sh))), (q 6, .inl (cA, 12, .inl (zF kp)))]) [(q 0, .inr (9, [.int (iI th), .int (iI N), .ref (q 1), .ref (q 2), .ref (q 3), .ref (q 4), .ref (q 5), .ref (q 6), .int (iI iu), .int (iI ax), .int (iI ay), .int (iI ri), .long (lI lT), .long (lI lL), .long (lI hT), .long (lI hL), .int (iI ig)])), (q 1, .inl (cA, 12, .inl (zF Xs))), (q 2, .inl (cA, 12, .inl (zF Ys))), (q 3, .inl (cA, 12, .inl (zF Wt))), (q 4, .inl (cA, 12, .inl (zF Cp))), (q 5, .inl (cA, 12, .inl (zF sh))), (q 6, .inl (cA, 12, .inl (zF kp)))] s.heap.size) ([.ref (q 0), .int (iI k), .int (iI o)] : List Value).toArray s 0 0 (va_A [(q 0, .inr (9, [.int (iI th), .int (iI N), .ref (q 1), .ref (q 2), .ref (q 3), .ref (q 4), .ref (q 5), .ref (q 6), .int (iI iu), .int (iI ax), .int (iI ay), .int (iI ri), .long (lI lT), .long (lI lL), .long (lI hT), .long (lI hL), .int (iI ig)])), (q 1, .inl (cA, 12, .inl (zF Xs))), (q 2, .inl (cA, 12, .inl (zF Ys))), (q 3, .inl (cA, 12, .inl (zF Wt))), (q 4, .inl (cA, 12, .inl (zF Cp))), (q 5, .inl (cA, 12, .inl (zF sh))), (q 6, .inl (cA, 12, .inl (zF kp)))] s.heap.size)) (F0 m 33 ls []) := by
    intro gne H locs ls hP hD hS hl
    refine lv_aload_n hx hb dX8_cause_33 rfl (lv_at hl 0 rfl) ?_
    refine lv_iconst (v := iI 2) hx hb dX8_cause_34 rfl ?_
    refine lv_aload_n hx hb dX8_cause_35 rfl (lv_at hl 0 rfl) ?_
    refine va_get (ci := 9) (v := .ref (q 1)) (C := RX8) (T := TX8) (N := 17) hx hb hts iz_X8_cause_X8 hown hK hP 0 rfl rfl 2 (by decide) (hts (.fieldLink RX8 7 "PowerPlotModel" "x" "[I") (by decide +kernel)) (fun _ h9 => h9) rfl dX8_cause_36 ?_
    refine lv_iload_n hx hb dX8_cause_39 rfl (lv_at hl 2 rfl) ?_
    refine zi_iald hx hb hK hP 1 0 rfl hty (by decide) (by omega) dX8_cause_40 ?_
    refine lv_aload_n hx hb dX8_cause_41 rfl (lv_at hl 0 rfl) ?_
    refine va_get (ci := 9) (v := .ref (q 1)) (C := RX8) (T := TX8) (N := 17) hx hb hts iz_X8_cause_X8 hown hK hP 0 rfl rfl 2 (by decide) (hts (.fieldLink RX8 7 "PowerPlotModel" "x" "[I") (by decide +kernel)) (fun _ h9 => h9) rfl dX8_cause_42 ?_
    refine lv_iload_n hx hb dX8_cause_45 rfl (lv_at hl 1 rfl) ?_
    refine zi_iald hx hb hK hP 1 0 rfl hty (by decide) (by omega) dX8_cause_46 ?_
    refine zi_isub hx hb dX8_cause_47 ?_
    refine zi_imul hx hb dX8_cause_48 ?_
    refine va_put (ci := 9) (v := .int (iI (2 * ((Xs o) - (Xs k))))) (ty := .int) (C := RX8) (T := TX8) (N := 17) hx hb hts iz_X8_cause_X8 tyX8 tyX8_ok nmX8 hown hK hP hD hS 0 rfl rfl 9 (by decide) (hts (.fieldLink RX8 102 "PowerPlotModel" "acrossX" "I") (by decide +kernel)) (fun _ h9 => h9) rfl (by decide +kernel) rfl rfl (Nat.le_of_ble_eq_true rfl) dX8_cause_49 (fun H locs hP hD hS => ?_)
    have hP : va_P D vwCl [(q 0, .inr (9, [.int (iI th), .int (iI N), .ref (q 1), .ref (q 2), .ref (q 3), .ref (q 4), .ref (q 5), .ref (q 6), .int (iI iu), .int (iI (2 * ((Xs o) - (Xs k)))), .int (iI ay), .int (iI ri), .long (lI lT), .long (lI lL), .long (lI hT), .long (lI hL), .int (iI ig)])), (q 1, .inl (cA, 12, .inl (zF Xs))), (q 2, .inl (cA, 12, .inl (zF Ys))), (q 3, .inl (cA, 12, .inl (zF Wt))), (q 4, .inl (cA, 12, .inl (zF Cp))), (q 5, .inl (cA, 12, .inl (zF sh))), (q 6, .inl (cA, 12, .inl (zF kp)))] H := hP
    have hD : va_D _ [(q 0, .inr (9, [.int (iI th), .int (iI N), .ref (q 1), .ref (q 2), .ref (q 3), .ref (q 4), .ref (q 5), .ref (q 6), .int (iI iu), .int (iI (2 * ((Xs o) - (Xs k)))), .int (iI ay), .int (iI ri), .long (lI lT), .long (lI lL), .long (lI hT), .long (lI hL), .int (iI ig)])), (q 1, .inl (cA, 12, .inl (zF Xs))), (q 2, .inl (cA, 12, .inl (zF Ys))), (q 3, .inl (cA, 12, .inl (zF Wt))), (q 4, .inl (cA, 12, .inl (zF Cp))), (q 5, .inl (cA, 12, .inl (zF sh))), (q 6, .inl (cA, 12, .inl (zF kp)))] := hD
    refine lv_aload_n hx hb dX8_cause_52 rfl (lv_at hl 0 rfl) ?_
    refine lv_iconst (v := iI 2) hx hb dX8_cause_53 rfl ?_
    refine lv_aload_n hx hb dX8_cause_54 rfl (lv_at hl 0 rfl) ?_
    refine va_get (ci := 9) (v := .ref (q 2)) (C := RX8) (T := TX8) (N := 17) hx hb hts iz_X8_cause_X8 hown hK hP 0 rfl rfl 3 (by decide) (hts (.fieldLink RX8 13 "PowerPlotModel" "y" "[I") (by decide +kernel)) (fun _ h9 => h9) rfl dX8_cause_55 ?_
    refine lv_iload_n hx hb dX8_cause_58 rfl (lv_at hl 2 rfl) ?_
    refine zi_iald hx hb hK hP 2 0 rfl hty (by decide) (by omega) dX8_cause_59 ?_
    refine lv_aload_n hx hb dX8_cause_60 rfl (lv_at hl 0 rfl) ?_
    refine va_get (ci := 9) (v := .ref (q 2)) (C := RX8) (T := TX8) (N := 17) hx hb hts iz_X8_cause_X8 hown hK hP 0 rfl rfl 3 (by decide) (hts (.fieldLink RX8 13 "PowerPlotModel" "y" "[I") (by decide +kernel)) (fun _ h9 => h9) rfl dX8_cause_61 ?_
    refine lv_iload_n hx hb dX8_cause_64 rfl (lv_at hl 1 rfl) ?_
    refine zi_iald hx hb hK hP 2 0 rfl hty (by decide) (by omega) dX8_cause_65 ?_
    refine zi_isub hx hb dX8_cause_66 ?_
    refine zi_imul hx hb dX8_cause_67 ?_
    refine va_put (ci := 9) (v := .int (iI (2 * ((Ys o) - (Ys k))))) (ty := .int) (C := RX8) (T := TX8) (N := 17) hx hb hts iz_X8_cause_X8 tyX8 tyX8_ok nmX8 hown hK hP hD hS 0 rfl rfl 10 (by decide) (hts (.fieldLink RX8 112 "PowerPlotModel" "acrossY" "I") (by decide +kernel)) (fun _ h9 => h9) rfl (by decide +kernel) rfl rfl (Nat.le_of_ble_eq_true rfl) dX8_cause_68 (fun H locs hP hD hS => ?_)
    have hP : va_P D vwCl [(q 0, .inr (9, [.int (iI th), .int (iI N), .ref (q 1), .ref (q 2), .ref (q 3), .ref (q 4), .ref (q 5), .ref (q 6), .int (iI iu), .int (iI (2 * ((Xs o) - (Xs k)))), .int (iI (2 * ((Ys o) - (Ys k)))), .int (iI ri), .long (lI lT), .long (lI lL), .long (lI hT), .long (lI hL), .int (iI ig)])), (q 1, .inl (cA, 12, .inl (zF Xs))), (q 2, .inl (cA, 12, .inl (zF Ys))), (q 3, .inl (cA, 12, .inl (zF Wt))), (q 4, .inl (cA, 12, .inl (zF Cp))), (q 5, .inl (cA, 12, .inl (zF sh))), (q 6, .inl (cA, 12, .inl (zF kp)))] H := hP
    have hD : va_D _ [(q 0, .inr (9, [.int (iI th), .int (iI N), .ref (q 1), .ref (q 2), .ref (q 3), .ref (q 4), .ref (q 5), .ref (q 6), .int (iI iu), .int (iI (2 * ((Xs o) - (Xs k)))), .int (iI (2 * ((Ys o) - (Ys k)))), .int (iI ri), .long (lI lT), .long (lI lL), .long (lI hT), .long (lI hL), .int (iI ig)])), (q 1, .inl (cA, 12, .inl (zF Xs))), (q 2, .inl (cA, 12, .inl (zF Ys))), (q 3, .inl (cA, 12, .inl (zF Wt))), (q 4, .inl (cA, 12, .inl (zF Cp))), (q 5, .inl (cA, 12, .inl (zF sh))), (q 6, .inl (cA, 12, .inl (zF kp)))] := hD
    refine lv_aload_n hx hb dX8_cause_71 rfl (lv_at hl 0 rfl) ?_
    refine lv_aload_n hx hb dX8_cause_72 rfl (lv_at hl 0 rfl) ?_
    refine lv_iload_n hx hb dX8_cause_73 rfl (lv_at hl 2 rfl) ?_
    refine zc_ri (As := [.int (iI o)]) (rest := [.ref (q 0)]) ⟨hx, hb, hml, hown, hts⟩ (c_X8_height l D _ tys cA hty q th N Xs Ys Wt Cp sh kp iu (2 * ((Xs o) - (Xs k))) (2 * ((Ys o) - (Ys k))) ri lT lL hT hL ig o (by omega)) (cwV 1 hts gX8_cause_X8_height rfl rfl rfl (by decide +kernel) ⟨(Nat.le_of_ble_eq_true rfl), (Nat.le_of_ble_eq_true rfl)⟩) hP hK hD hS hA [0, 1, 2, 3, 4, 5, 6] rfl rfl rfl rfl rfl hl.1 rfl (Nat.le_of_ble_eq_true rfl) dX8_cause_74 ⟨Nat.zero_le _, Nat.zero_le _⟩ (fun H locs hP hS => ?_)
    refine lv_aload_n hx hb dX8_cause_77 rfl (lv_at hl 0 rfl) ?_
    refine lv_iload_n hx hb dX8_cause_78 rfl (lv_at hl 1 rfl) ?_
    refine zc_ri (As := [.int (iI k)]) (rest := [.int (iI (zHt Xs Ys Wt o)), .ref (q 0)]) ⟨hx, hb, hml, hown, hts⟩ (c_X8_height l D _ tys cA hty q th N Xs Ys Wt Cp sh kp iu (2 * ((Xs o) - (Xs k))) (2 * ((Ys o) - (Ys k))) ri lT lL hT hL ig k (by omega)) (cwV 1 hts gX8_cause_X8_height rfl rfl rfl (by decide +kernel) ⟨(Nat.le_of_ble_eq_true rfl), (Nat.le_of_ble_eq_true rfl)⟩) hP hK hD hS hA [0, 1, 2, 3, 4, 5, 6] rfl rfl rfl rfl rfl hl.1 rfl (Nat.le_of_ble_eq_true rfl) dX8_cause_79 ⟨Nat.zero_le _, Nat.zero_le _⟩ (fun H locs hP hS => ?_)
    refine zi_isub hx hb dX8_cause_82 ?_
    refine va_put (ci := 9) (v := .int (iI ((zHt Xs Ys Wt o) - (zHt Xs Ys Wt k)))) (ty := .int) (C := RX8) (T := TX8) (N := 17) hx hb hts iz_X8_cause_X8 tyX8 tyX8_ok nmX8 hown hK hP hD hS 0 rfl rfl 11 (by decide) (hts (.fieldLink RX8 105 "PowerPlotModel" "rise" "I") (by decide +kernel)) (fun _ h9 => h9) rfl (by decide +kernel) rfl rfl (Nat.le_of_ble_eq_true rfl) dX8_cause_83 (fun H locs hP hD hS => ?_)
    have hP : va_P D vwCl [(q 0, .inr (9, [.int (iI th), .int (iI N), .ref (q 1), .ref (q 2), .ref (q 3), .ref (q 4), .ref (q 5), .ref (q 6), .int (iI iu), .int (iI (2 * ((Xs o) - (Xs k)))), .int (iI (2 * ((Ys o) - (Ys k)))), .int (iI ((zHt Xs Ys Wt o) - (zHt Xs Ys Wt k))), .long (lI lT), .long (lI lL), .long (lI hT), .long (lI hL), .int (iI ig)])), (q 1, .inl (cA, 12, .inl (zF Xs))), (q 2, .inl (cA, 12, .inl (zF Ys))), (q 3, .inl (cA, 12, .inl (zF Wt))), (q 4, .inl (cA, 12, .inl (zF Cp))), (q 5, .inl (cA, 12, .inl (zF sh))), (q 6, .inl (cA, 12, .inl (zF kp)))] H := hP
    have hD : va_D _ [(q 0, .inr (9, [.int (iI th), .int (iI N), .ref (q 1), .ref (q 2), .ref (q 3), .ref (q 4), .ref (q 5), .ref (q 6), .int (iI iu), .int (iI (2 * ((Xs o) - (Xs k)))), .int (iI (2 * ((Ys o) - (Ys k)))), .int (iI ((zHt Xs Ys Wt o) - (zHt Xs Ys Wt k))), .long (lI lT), .long (lI lL), .long (lI hT), .long (lI hL), .int (iI ig)])), (q 1, .inl (cA, 12, .inl (zF Xs))), (q 2, .inl (cA, 12, .inl (zF Ys))), (q 3, .inl (cA, 12, .inl (zF Wt))), (q 4, .inl (cA, 12, .inl (zF Cp))), (q 5, .inl (cA, 12, .inl (zF sh))), (q 6, .inl (cA, 12, .inl (zF kp)))] := hD
    have J99 : ∀ (t0 : Int), (t0 = zLu Ys k o) → ∀ (H : Heap) (locs : List Loc) (ls : Array Slot), va_P D vwCl [(q 0, .inr (9, [.int (iI th), .int (iI N), .ref (q 1), .ref (q 2), .ref (q 3), .ref (q 4), .ref (q 5), .ref (q 6), .int (iI iu), .int (iI (2 * ((Xs o) - (Xs k)))), .int (iI (2 * ((Ys o) - (Ys k)))), .int (iI ((zHt Xs Ys Wt o) - (zHt Xs Ys Wt k))), .long (lI lT), .long (lI lL), .long (lI hT), .long (lI hL), .int (iI ig)])), (q 1, .inl (cA, 12, .inl (zF Xs))), (q 2, .inl (cA, 12, .inl (zF Ys))), (q 3, .inl (cA, 12, .inl (zF Wt))), (q 4, .inl (cA, 12, .inl (zF Cp))), (q 5, .inl (cA, 12, .inl (zF sh))), (q 6, .inl (cA, 12, .inl (zF kp)))] H → va_D (va_A [(q 0, .inr (9, [.int (iI th), .int (iI N), .ref (q 1), .ref (q 2), .ref (q 3), .ref (q 4), .ref (q 5), .ref (q 6), .int (iI iu), .int (iI ax), .int (iI ay), .int (iI ri), .long (lI lT), .long (lI lL), .long (lI hT), .long (lI hL), .int (iI ig)])), (q 1, .inl (cA, 12, .inl (zF Xs))), (q 2, .inl (cA, 12, .inl (zF Ys))), (q 3, .inl (cA, 12, .inl (zF Wt))), (q 4, .inl (cA, 12, .inl (zF Cp))), (q 5, .inl (cA, 12, .inl (zF sh))), (q 6, .inl (cA, 12, .inl (zF kp)))] s.heap.size) [(q 0, .inr (9, [.int (iI th), .int (iI N), .ref (q 1), .ref (q 2), .ref (q 3), .ref (q 4), .ref (q 5), .ref (q 6), .int (iI iu), .int (iI (2 * ((Xs o) - (Xs k)))), .int (iI (2 * ((Ys o) - (Ys k)))), .int (iI ((zHt Xs Ys Wt o) - (zHt Xs Ys Wt k))), .long (lI lT), .long (lI lL), .long (lI hT), .long (lI hL), .int (iI ig)])), (q 1, .inl (cA, 12, .inl (zF Xs))), (q 2, .inl (cA, 12, .inl (zF Ys))), (q 3, .inl (cA, 12, .inl (zF Wt))), (q 4, .inl (cA, 12, .inl (zF Cp))), (q 5, .inl (cA, 12, .inl (zF sh))), (q 6, .inl (cA, 12, .inl (zF kp)))] → va_S (va_A [(q 0, .inr (9, [.int (iI th), .int (iI N), .ref (q 1), .ref (q 2), .ref (q 3), .ref (q 4), .ref (q 5), .ref (q 6), .int (iI iu), .int (iI ax), .int (iI ay), .int (iI ri), .long (lI lT), .long (lI lL), .long (lI hT), .long (lI hL), .int (iI ig)])), (q 1, .inl (cA, 12, .inl (zF Xs))), (q 2, .inl (cA, 12, .inl (zF Ys))), (q 3, .inl (cA, 12, .inl (zF Wt))), (q 4, .inl (cA, 12, .inl (zF Cp))), (q 5, .inl (cA, 12, .inl (zF sh))), (q 6, .inl (cA, 12, .inl (zF kp)))] s.heap.size) s.heap H locs → lv_has ls 4 [(0, .ref (q 0)), (1, .int (iI k)), (2, .int (iI o))] → W p l e (headSpec wsX8_cause ({ frames := 2, cells := 0, slots := 0, locals := 50 })).room s m ([.ref (q 0), .int (iI k), .int (iI o)] : List Value).toArray below meth c H locs 0 0 (MQ below (zWi (fun (u : Int × Int × Int × Int × Int × Int × Int × Int × Int) => zTrV Xs Ys Wt N k o) (fun (u : Int × Int × Int × Int × Int × Int × Int × Int × Int) => zTrV Xs Ys Wt N k o = -1 → zRq Xs Ys Wt N k o u.1 u.2.1 u.2.2.1 u.2.2.2.1 u.2.2.2.2.1 u.2.2.2.2.2.1 u.2.2.2.2.2.2.1 u.2.2.2.2.2.2.2.1) D (fun (u : Int × Int × Int × Int × Int × Int × Int × Int × Int) => [(q 0, .inr (9, [.int (iI th), .int (iI N), .ref (q 1), .ref (q 2), .ref (q 3), .ref (q 4), .ref (q 5), .ref (q 6), .int (iI u.1), .int (iI u.2.1), .int (iI u.2.2.1), .int (iI u.2.2.2.1), .long (lI u.2.2.2.2.1), .long (lI u.2.2.2.2.2.1), .long (lI u.2.2.2.2.2.2.1), .long (lI u.2.2.2.2.2.2.2.1), .int (iI u.2.2.2.2.2.2.2.2)])), (q 1, .inl (cA, 12, .inl (zF Xs))), (q 2, .inl (cA, 12, .inl (zF Ys))), (q 3, .inl (cA, 12, .inl (zF Wt))), (q 4, .inl (cA, 12, .inl (zF Cp))), (q 5, .inl (cA, 12, .inl (zF sh))), (q 6, .inl (cA, 12, .inl (zF kp)))]) [(q 0, .inr (9, [.int (iI th), .int (iI N), .ref (q 1), .ref (q 2), .ref (q 3), .ref (q 4), .ref (q 5), .ref (q 6), .int (iI iu), .int (iI ax), .int (iI ay), .int (iI ri), .long (lI lT), .long (lI lL), .long (lI hT), .long (lI hL), .int (iI ig)])), (q 1, .inl (cA, 12, .inl (zF Xs))), (q 2, .inl (cA, 12, .inl (zF Ys))), (q 3, .inl (cA, 12, .inl (zF Wt))), (q 4, .inl (cA, 12, .inl (zF Cp))), (q 5, .inl (cA, 12, .inl (zF sh))), (q 6, .inl (cA, 12, .inl (zF kp)))] s.heap.size) ([.ref (q 0), .int (iI k), .int (iI o)] : List Value).toArray s 0 0 (va_A [(q 0, .inr (9, [.int (iI th), .int (iI N), .ref (q 1), .ref (q 2), .ref (q 3), .ref (q 4), .ref (q 5), .ref (q 6), .int (iI iu), .int (iI ax), .int (iI ay), .int (iI ri), .long (lI lT), .long (lI lL), .long (lI hT), .long (lI hL), .int (iI ig)])), (q 1, .inl (cA, 12, .inl (zF Xs))), (q 2, .inl (cA, 12, .inl (zF Ys))), (q 3, .inl (cA, 12, .inl (zF Wt))), (q 4, .inl (cA, 12, .inl (zF Cp))), (q 5, .inl (cA, 12, .inl (zF sh))), (q 6, .inl (cA, 12, .inl (zF kp)))] s.heap.size)) (F0 m 99 ls [.int (iI t0), .ref (q 0)]) := by
      intro t0 gv H locs ls hP hD hS hl
      have gt0 : 0 ≤ t0 ∧ t0 ≤ 1 := by rw [gv]; unfold zLu zUp; split <;> omega
      refine va_put (ci := 9) (v := .int (iI t0)) (ty := .boolean) (C := RX8) (T := TX8) (N := 17) hx hb hts iz_X8_cause_X8 tyX8 tyX8_ok nmX8 hown hK hP hD hS 0 rfl rfl 8 (by decide) (hts (.fieldLink RX8 99 "PowerPlotModel" "isUp" "Z") (by decide +kernel)) (fun _ h9 => h9) rfl (by decide +kernel) (by rw [gv]; unfold zLu; rw [zUp_b]; exact bI_nar _) (by rw [gv]; unfold zLu; rw [zUp_b]; exact bI_fit _) (Nat.le_of_ble_eq_true rfl) dX8_cause_99 (fun H locs hP hD hS => ?_)
      have hP : va_P D vwCl [(q 0, .inr (9, [.int (iI th), .int (iI N), .ref (q 1), .ref (q 2), .ref (q 3), .ref (q 4), .ref (q 5), .ref (q 6), .int (iI t0), .int (iI (2 * ((Xs o) - (Xs k)))), .int (iI (2 * ((Ys o) - (Ys k)))), .int (iI ((zHt Xs Ys Wt o) - (zHt Xs Ys Wt k))), .long (lI lT), .long (lI lL), .long (lI hT), .long (lI hL), .int (iI ig)])), (q 1, .inl (cA, 12, .inl (zF Xs))), (q 2, .inl (cA, 12, .inl (zF Ys))), (q 3, .inl (cA, 12, .inl (zF Wt))), (q 4, .inl (cA, 12, .inl (zF Cp))), (q 5, .inl (cA, 12, .inl (zF sh))), (q 6, .inl (cA, 12, .inl (zF kp)))] H := hP
      have hD : va_D _ [(q 0, .inr (9, [.int (iI th), .int (iI N), .ref (q 1), .ref (q 2), .ref (q 3), .ref (q 4), .ref (q 5), .ref (q 6), .int (iI t0), .int (iI (2 * ((Xs o) - (Xs k)))), .int (iI (2 * ((Ys o) - (Ys k)))), .int (iI ((zHt Xs Ys Wt o) - (zHt Xs Ys Wt k))), .long (lI lT), .long (lI lL), .long (lI hT), .long (lI hL), .int (iI ig)])), (q 1, .inl (cA, 12, .inl (zF Xs))), (q 2, .inl (cA, 12, .inl (zF Ys))), (q 3, .inl (cA, 12, .inl (zF Wt))), (q 4, .inl (cA, 12, .inl (zF Cp))), (q 5, .inl (cA, 12, .inl (zF sh))), (q 6, .inl (cA, 12, .inl (zF kp)))] := hD
      refine lv_aload_n hx hb dX8_cause_102 rfl (lv_at hl 0 rfl) ?_
      refine lv_iconst (v := iI 0) hx hb dX8_cause_103 rfl ?_
      refine va_put (ci := 9) (v := .int (iI 0)) (ty := .boolean) (C := RX8) (T := TX8) (N := 17) hx hb hts iz_X8_cause_X8 tyX8 tyX8_ok nmX8 hown hK hP hD hS 0 rfl rfl 16 (by decide) (hts (.fieldLink RX8 82 "PowerPlotModel" "isGone" "Z") (by decide +kernel)) (fun _ h9 => h9) rfl (by decide +kernel) (by decide) (by decide) (Nat.le_of_ble_eq_true rfl) dX8_cause_104 (fun H locs hP hD hS => ?_)
      have hP : va_P D vwCl [(q 0, .inr (9, [.int (iI th), .int (iI N), .ref (q 1), .ref (q 2), .ref (q 3), .ref (q 4), .ref (q 5), .ref (q 6), .int (iI t0), .int (iI (2 * ((Xs o) - (Xs k)))), .int (iI (2 * ((Ys o) - (Ys k)))), .int (iI ((zHt Xs Ys Wt o) - (zHt Xs Ys Wt k))), .long (lI lT), .long (lI lL), .long (lI hT), .long (lI hL), .int (iI 0)])), (q 1, .inl (cA, 12, .inl (zF Xs))), (q 2, .inl (cA, 12, .inl (zF Ys))), (q 3, .inl (cA, 12, .inl (zF Wt))), (q 4, .inl (cA, 12, .inl (zF Cp))), (q 5, .inl (cA, 12, .inl (zF sh))), (q 6, .inl (cA, 12, .inl (zF kp)))] H := hP
      have hD : va_D _ [(q 0, .inr (9, [.int (iI th), .int (iI N), .ref (q 1), .ref (q 2), .ref (q 3), .ref (q 4), .ref (q 5), .ref (q 6), .int (iI t0), .int (iI (2 * ((Xs o) - (Xs k)))), .int (iI (2 * ((Ys o) - (Ys k)))), .int (iI ((zHt Xs Ys Wt o) - (zHt Xs Ys Wt k))), .long (lI lT), .long (lI lL), .long (lI hT), .long (lI hL), .int (iI 0)])), (q 1, .inl (cA, 12, .inl (zF Xs))), (q 2, .inl (cA, 12, .inl (zF Ys))), (q 3, .inl (cA, 12, .inl (zF Wt))), (q 4, .inl (cA, 12, .inl (zF Cp))), (q 5, .inl (cA, 12, .inl (zF sh))), (q 6, .inl (cA, 12, .inl (zF kp)))] := hD
      refine lv_aload_n hx hb dX8_cause_107 rfl (lv_at hl 0 rfl) ?_
      refine lv_lconst (v := lI 0) hx hb dX8_cause_108 (by decide +kernel) ?_
      refine va_put (ci := 9) (v := .long (lI 0)) (ty := .long) (C := RX8) (T := TX8) (N := 17) hx hb hts iz_X8_cause_X8 tyX8 tyX8_ok nmX8 hown hK hP hD hS 0 rfl rfl 12 (by decide) (hts (.fieldLink RX8 96 "PowerPlotModel" "lowTop" "J") (by decide +kernel)) (fun _ h9 => h9) rfl (by decide +kernel) rfl rfl (Nat.le_of_ble_eq_true rfl) dX8_cause_109 (fun H locs hP hD hS => ?_)
      have hP : va_P D vwCl [(q 0, .inr (9, [.int (iI th), .int (iI N), .ref (q 1), .ref (q 2), .ref (q 3), .ref (q 4), .ref (q 5), .ref (q 6), .int (iI t0), .int (iI (2 * ((Xs o) - (Xs k)))), .int (iI (2 * ((Ys o) - (Ys k)))), .int (iI ((zHt Xs Ys Wt o) - (zHt Xs Ys Wt k))), .long (lI 0), .long (lI lL), .long (lI hT), .long (lI hL), .int (iI 0)])), (q 1, .inl (cA, 12, .inl (zF Xs))), (q 2, .inl (cA, 12, .inl (zF Ys))), (q 3, .inl (cA, 12, .inl (zF Wt))), (q 4, .inl (cA, 12, .inl (zF Cp))), (q 5, .inl (cA, 12, .inl (zF sh))), (q 6, .inl (cA, 12, .inl (zF kp)))] H := hP
      have hD : va_D _ [(q 0, .inr (9, [.int (iI th), .int (iI N), .ref (q 1), .ref (q 2), .ref (q 3), .ref (q 4), .ref (q 5), .ref (q 6), .int (iI t0), .int (iI (2 * ((Xs o) - (Xs k)))), .int (iI (2 * ((Ys o) - (Ys k)))), .int (iI ((zHt Xs Ys Wt o) - (zHt Xs Ys Wt k))), .long (lI 0), .long (lI lL), .long (lI hT), .long (lI hL), .int (iI 0)])), (q 1, .inl (cA, 12, .inl (zF Xs))), (q 2, .inl (cA, 12, .inl (zF Ys))), (q 3, .inl (cA, 12, .inl (zF Wt))), (q 4, .inl (cA, 12, .inl (zF Cp))), (q 5, .inl (cA, 12, .inl (zF sh))), (q 6, .inl (cA, 12, .inl (zF kp)))] := hD
      refine lv_aload_n hx hb dX8_cause_112 rfl (lv_at hl 0 rfl) ?_
      refine lv_lconst (v := lI 1) hx hb dX8_cause_113 (by decide +kernel) ?_
      refine va_put (ci := 9) (v := .long (lI 1)) (ty := .long) (C := RX8) (T := TX8) (N := 17) hx hb hts iz_X8_cause_X8 tyX8 tyX8_ok nmX8 hown hK hP hD hS 0 rfl rfl 13 (by decide) (hts (.fieldLink RX8 93 "PowerPlotModel" "lowLine" "J") (by decide +kernel)) (fun _ h9 => h9) rfl (by decide +kernel) rfl rfl (Nat.le_of_ble_eq_true rfl) dX8_cause_114 (fun H locs hP hD hS => ?_)
      have hP : va_P D vwCl [(q 0, .inr (9, [.int (iI th), .int (iI N), .ref (q 1), .ref (q 2), .ref (q 3), .ref (q 4), .ref (q 5), .ref (q 6), .int (iI t0), .int (iI (2 * ((Xs o) - (Xs k)))), .int (iI (2 * ((Ys o) - (Ys k)))), .int (iI ((zHt Xs Ys Wt o) - (zHt Xs Ys Wt k))), .long (lI 0), .long (lI 1), .long (lI hT), .long (lI hL), .int (iI 0)])), (q 1, .inl (cA, 12, .inl (zF Xs))), (q 2, .inl (cA, 12, .inl (zF Ys))), (q 3, .inl (cA, 12, .inl (zF Wt))), (q 4, .inl (cA, 12, .inl (zF Cp))), (q 5, .inl (cA, 12, .inl (zF sh))), (q 6, .inl (cA, 12, .inl (zF kp)))] H := hP
      have hD : va_D _ [(q 0, .inr (9, [.int (iI th), .int (iI N), .ref (q 1), .ref (q 2), .ref (q 3), .ref (q 4), .ref (q 5), .ref (q 6), .int (iI t0), .int (iI (2 * ((Xs o) - (Xs k)))), .int (iI (2 * ((Ys o) - (Ys k)))), .int (iI ((zHt Xs Ys Wt o) - (zHt Xs Ys Wt k))), .long (lI 0), .long (lI 1), .long (lI hT), .long (lI hL), .int (iI 0)])), (q 1, .inl (cA, 12, .inl (zF Xs))), (q 2, .inl (cA, 12, .inl (zF Ys))), (q 3, .inl (cA, 12, .inl (zF Wt))), (q 4, .inl (cA, 12, .inl (zF Cp))), (q 5, .inl (cA, 12, .inl (zF sh))), (q 6, .inl (cA, 12, .inl (zF kp)))] := hD
      refine lv_aload_n hx hb dX8_cause_117 rfl (lv_at hl 0 rfl) ?_
      refine lv_ldc2 (v := lI 40) hx hb hown (by rw [show lI 40 = 40 by decide +kernel]; exact hts (.constantLong RX8 115 40) (by decide +kernel)) dX8_cause_118 ?_
      refine va_put (ci := 9) (v := .long (lI 40)) (ty := .long) (C := RX8) (T := TX8) (N := 17) hx hb hts iz_X8_cause_X8 tyX8 tyX8_ok nmX8 hown hK hP hD hS 0 rfl rfl 14 (by decide) (hts (.fieldLink RX8 90 "PowerPlotModel" "highTop" "J") (by decide +kernel)) (fun _ h9 => h9) rfl (by decide +kernel) rfl rfl (Nat.le_of_ble_eq_true rfl) dX8_cause_121 (fun H locs hP hD hS => ?_)
      have hP : va_P D vwCl [(q 0, .inr (9, [.int (iI th), .int (iI N), .ref (q 1), .ref (q 2), .ref (q 3), .ref (q 4), .ref (q 5), .ref (q 6), .int (iI t0), .int (iI (2 * ((Xs o) - (Xs k)))), .int (iI (2 * ((Ys o) - (Ys k)))), .int (iI ((zHt Xs Ys Wt o) - (zHt Xs Ys Wt k))), .long (lI 0), .long (lI 1), .long (lI 40), .long (lI hL), .int (iI 0)])), (q 1, .inl (cA, 12, .inl (zF Xs))), (q 2, .inl (cA, 12, .inl (zF Ys))), (q 3, .inl (cA, 12, .inl (zF Wt))), (q 4, .inl (cA, 12, .inl (zF Cp))), (q 5, .inl (cA, 12, .inl (zF sh))), (q 6, .inl (cA, 12, .inl (zF kp)))] H := hP
      have hD : va_D _ [(q 0, .inr (9, [.int (iI th), .int (iI N), .ref (q 1), .ref (q 2), .ref (q 3), .ref (q 4), .ref (q 5), .ref (q 6), .int (iI t0), .int (iI (2 * ((Xs o) - (Xs k)))), .int (iI (2 * ((Ys o) - (Ys k)))), .int (iI ((zHt Xs Ys Wt o) - (zHt Xs Ys Wt k))), .long (lI 0), .long (lI 1), .long (lI 40), .long (lI hL), .int (iI 0)])), (q 1, .inl (cA, 12, .inl (zF Xs))), (q 2, .inl (cA, 12, .inl (zF Ys))), (q 3, .inl (cA, 12, .inl (zF Wt))), (q 4, .inl (cA, 12, .inl (zF Cp))), (q 5, .inl (cA, 12, .inl (zF sh))), (q 6, .inl (cA, 12, .inl (zF kp)))] := hD
      refine lv_aload_n hx hb dX8_cause_124 rfl (lv_at hl 0 rfl) ?_
      refine lv_lconst (v := lI 1) hx hb dX8_cause_125 (by decide +kernel) ?_
      refine va_put (ci := 9) (v := .long (lI 1)) (ty := .long) (C := RX8) (T := TX8) (N := 17) hx hb hts iz_X8_cause_X8 tyX8 tyX8_ok nmX8 hown hK hP hD hS 0 rfl rfl 15 (by decide) (hts (.fieldLink RX8 86 "PowerPlotModel" "highLine" "J") (by decide +kernel)) (fun _ h9 => h9) rfl (by decide +kernel) rfl rfl (Nat.le_of_ble_eq_true rfl) dX8_cause_126 (fun H locs hP hD hS => ?_)
      have hP : va_P D vwCl [(q 0, .inr (9, [.int (iI th), .int (iI N), .ref (q 1), .ref (q 2), .ref (q 3), .ref (q 4), .ref (q 5), .ref (q 6), .int (iI t0), .int (iI (2 * ((Xs o) - (Xs k)))), .int (iI (2 * ((Ys o) - (Ys k)))), .int (iI ((zHt Xs Ys Wt o) - (zHt Xs Ys Wt k))), .long (lI 0), .long (lI 1), .long (lI 40), .long (lI 1), .int (iI 0)])), (q 1, .inl (cA, 12, .inl (zF Xs))), (q 2, .inl (cA, 12, .inl (zF Ys))), (q 3, .inl (cA, 12, .inl (zF Wt))), (q 4, .inl (cA, 12, .inl (zF Cp))), (q 5, .inl (cA, 12, .inl (zF sh))), (q 6, .inl (cA, 12, .inl (zF kp)))] H := hP
      have hD : va_D _ [(q 0, .inr (9, [.int (iI th), .int (iI N), .ref (q 1), .ref (q 2), .ref (q 3), .ref (q 4), .ref (q 5), .ref (q 6), .int (iI t0), .int (iI (2 * ((Xs o) - (Xs k)))), .int (iI (2 * ((Ys o) - (Ys k)))), .int (iI ((zHt Xs Ys Wt o) - (zHt Xs Ys Wt k))), .long (lI 0), .long (lI 1), .long (lI 40), .long (lI 1), .int (iI 0)])), (q 1, .inl (cA, 12, .inl (zF Xs))), (q 2, .inl (cA, 12, .inl (zF Ys))), (q 3, .inl (cA, 12, .inl (zF Wt))), (q 4, .inl (cA, 12, .inl (zF Cp))), (q 5, .inl (cA, 12, .inl (zF sh))), (q 6, .inl (cA, 12, .inl (zF kp)))] := hD
      refine lv_aload_n hx hb dX8_cause_129 rfl (lv_at hl 0 rfl) ?_
      refine lv_iconst (v := iI 1) hx hb dX8_cause_130 rfl ?_
      refine lv_iconst (v := iI 0) hx hb dX8_cause_131 rfl ?_
      refine lv_bipush (v := iI 40) hx hb dX8_cause_132 (by decide +kernel) ?_
      refine zc_wv (wr := []) (As := [.int (iI 1), .int (iI 0), .int (iI 40)]) (rest := []) ⟨hx, hb, hml, hown, hts⟩ (c_X8_keeps l D _ tys cA hty q th N Xs Ys Wt Cp sh kp t0 (2 * ((Xs o) - (Xs k))) (2 * ((Ys o) - (Ys k))) ((zHt Xs Ys Wt o) - (zHt Xs Ys Wt k)) 0 1 40 1 0 1 0 40 (by omega) (by omega) (by omega) (by omega) (show zFc 0 1 40 1 by unfold zFc; omega) (show (0 : Int) ≤ 0 ∧ (0 : Int) ≤ 1 by omega) (by omega) (by omega) (by omega)) (cwV 3 hts gX8_cause_X8_keeps rfl rfl rfl (by decide +kernel) ⟨(Nat.le_of_ble_eq_true rfl), (Nat.le_of_ble_eq_true rfl)⟩) hP hK hD hS hA [0, 1, 2, 3, 4, 5, 6] rfl rfl rfl rfl [] [0, 1, 2, 3, 4, 5, 6] rfl rfl (by decide) (fun _ => rfl) rfl rfl hl.1 rfl (Nat.le_of_ble_eq_true rfl) dX8_cause_134 ⟨Nat.zero_le _, Nat.zero_le _⟩ (ws1 := fun (u9 : Int × Int × Int × Int × Int) => [(q 0, .inr (9, [.int (iI th), .int (iI N), .ref (q 1), .ref (q 2), .ref (q 3), .ref (q 4), .ref (q 5), .ref (q 6), .int (iI t0), .int (iI (2 * ((Xs o) - (Xs k)))), .int (iI (2 * ((Ys o) - (Ys k)))), .int (iI ((zHt Xs Ys Wt o) - (zHt Xs Ys Wt k))), .long (lI u9.2.1), .long (lI u9.2.2.1), .long (lI u9.2.2.2.1), .long (lI u9.2.2.2.2), .int (iI u9.1)])), (q 1, .inl (cA, 12, .inl (zF Xs))), (q 2, .inl (cA, 12, .inl (zF Ys))), (q 3, .inl (cA, 12, .inl (zF Wt))), (q 4, .inl (cA, 12, .inl (zF Cp))), (q 5, .inl (cA, 12, .inl (zF sh))), (q 6, .inl (cA, 12, .inl (zF kp)))]) (fun u134 H locs w134 hP hD hS => ?_)
      obtain ⟨ig_134, lT_134, lL_134, hT_134, hL_134⟩ := u134
      have w134 : (ig_134, lT_134, lL_134, hT_134, hL_134) = zCut (zKt t0 (2 * ((Xs o) - (Xs k))) (2 * ((Ys o) - (Ys k))) 1 0) (zKm t0 (2 * ((Xs o) - (Xs k))) (2 * ((Ys o) - (Ys k))) ((zHt Xs Ys Wt o) - (zHt Xs Ys Wt k)) 1 0 40) 0 0 1 40 1 ∧ zFc lT_134 lL_134 hT_134 hL_134 ∧ 0 ≤ ig_134 ∧ ig_134 ≤ 1 := w134
      have hP : va_P D vwCl [(q 0, .inr (9, [.int (iI th), .int (iI N), .ref (q 1), .ref (q 2), .ref (q 3), .ref (q 4), .ref (q 5), .ref (q 6), .int (iI t0), .int (iI (2 * ((Xs o) - (Xs k)))), .int (iI (2 * ((Ys o) - (Ys k)))), .int (iI ((zHt Xs Ys Wt o) - (zHt Xs Ys Wt k))), .long (lI lT_134), .long (lI lL_134), .long (lI hT_134), .long (lI hL_134), .int (iI ig_134)])), (q 1, .inl (cA, 12, .inl (zF Xs))), (q 2, .inl (cA, 12, .inl (zF Ys))), (q 3, .inl (cA, 12, .inl (zF Wt))), (q 4, .inl (cA, 12, .inl (zF Cp))), (q 5, .inl (cA, 12, .inl (zF sh))), (q 6, .inl (cA, 12, .inl (zF kp)))] H := hP
      have hD : va_D _ [(q 0, .inr (9, [.int (iI th), .int (iI N), .ref (q 1), .ref (q 2), .ref (q 3), .ref (q 4), .ref (q 5), .ref (q 6), .int (iI t0), .int (iI (2 * ((Xs o) - (Xs k)))), .int (iI (2 * ((Ys o) - (Ys k)))), .int (iI ((zHt Xs Ys Wt o) - (zHt Xs Ys Wt k))), .long (lI lT_134), .long (lI lL_134), .long (lI hT_134), .long (lI hL_134), .int (iI ig_134)])), (q 1, .inl (cA, 12, .inl (zF Xs))), (q 2, .inl (cA, 12, .inl (zF Ys))), (q 3, .inl (cA, 12, .inl (zF Wt))), (q 4, .inl (cA, 12, .inl (zF Cp))), (q 5, .inl (cA, 12, .inl (zF sh))), (q 6, .inl (cA, 12, .inl (zF kp)))] := hD
      refine lv_aload_n hx hb dX8_cause_137 rfl (lv_at hl 0 rfl) ?_
      refine lv_iconst (v := iI (-1)) hx hb dX8_cause_138 rfl ?_
      refine lv_iconst (v := iI 0) hx hb dX8_cause_139 rfl ?_
      refine lv_iconst (v := iI 0) hx hb dX8_cause_140 rfl ?_
      refine zc_wv (wr := []) (As := [.int (iI (-1)), .int (iI 0), .int (iI 0)]) (rest := []) ⟨hx, hb, hml, hown, hts⟩ (c_X8_keeps l D _ tys cA hty q th N Xs Ys Wt Cp sh kp t0 (2 * ((Xs o) - (Xs k))) (2 * ((Ys o) - (Ys k))) ((zHt Xs Ys Wt o) - (zHt Xs Ys Wt k)) lT_134 lL_134 hT_134 hL_134 ig_134 (-1) 0 0 (by omega) (by omega) (by omega) (by omega) w134.2.1 w134.2.2 (by omega) (by omega) (by omega)) (cwV 3 hts gX8_cause_X8_keeps rfl rfl rfl (by decide +kernel) ⟨(Nat.le_of_ble_eq_true rfl), (Nat.le_of_ble_eq_true rfl)⟩) hP hK hD hS hA [0, 1, 2, 3, 4, 5, 6] rfl rfl rfl rfl [] [0, 1, 2, 3, 4, 5, 6] rfl rfl (by decide) (fun _ => rfl) rfl rfl hl.1 rfl (Nat.le_of_ble_eq_true rfl) dX8_cause_141 ⟨Nat.zero_le _, Nat.zero_le _⟩ (ws1 := fun (u9 : Int × Int × Int × Int × Int) => [(q 0, .inr (9, [.int (iI th), .int (iI N), .ref (q 1), .ref (q 2), .ref (q 3), .ref (q 4), .ref (q 5), .ref (q 6), .int (iI t0), .int (iI (2 * ((Xs o) - (Xs k)))), .int (iI (2 * ((Ys o) - (Ys k)))), .int (iI ((zHt Xs Ys Wt o) - (zHt Xs Ys Wt k))), .long (lI u9.2.1), .long (lI u9.2.2.1), .long (lI u9.2.2.2.1), .long (lI u9.2.2.2.2), .int (iI u9.1)])), (q 1, .inl (cA, 12, .inl (zF Xs))), (q 2, .inl (cA, 12, .inl (zF Ys))), (q 3, .inl (cA, 12, .inl (zF Wt))), (q 4, .inl (cA, 12, .inl (zF Cp))), (q 5, .inl (cA, 12, .inl (zF sh))), (q 6, .inl (cA, 12, .inl (zF kp)))]) (fun u141 H locs w141 hP hD hS => ?_)
      obtain ⟨ig_141, lT_141, lL_141, hT_141, hL_141⟩ := u141
      have w141 : (ig_141, lT_141, lL_141, hT_141, hL_141) = zCut (zKt t0 (2 * ((Xs o) - (Xs k))) (2 * ((Ys o) - (Ys k))) (-1) 0) (zKm t0 (2 * ((Xs o) - (Xs k))) (2 * ((Ys o) - (Ys k))) ((zHt Xs Ys Wt o) - (zHt Xs Ys Wt k)) (-1) 0 0) ig_134 lT_134 lL_134 hT_134 hL_134 ∧ zFc lT_141 lL_141 hT_141 hL_141 ∧ 0 ≤ ig_141 ∧ ig_141 ≤ 1 := w141
      have hP : va_P D vwCl [(q 0, .inr (9, [.int (iI th), .int (iI N), .ref (q 1), .ref (q 2), .ref (q 3), .ref (q 4), .ref (q 5), .ref (q 6), .int (iI t0), .int (iI (2 * ((Xs o) - (Xs k)))), .int (iI (2 * ((Ys o) - (Ys k)))), .int (iI ((zHt Xs Ys Wt o) - (zHt Xs Ys Wt k))), .long (lI lT_141), .long (lI lL_141), .long (lI hT_141), .long (lI hL_141), .int (iI ig_141)])), (q 1, .inl (cA, 12, .inl (zF Xs))), (q 2, .inl (cA, 12, .inl (zF Ys))), (q 3, .inl (cA, 12, .inl (zF Wt))), (q 4, .inl (cA, 12, .inl (zF Cp))), (q 5, .inl (cA, 12, .inl (zF sh))), (q 6, .inl (cA, 12, .inl (zF kp)))] H := hP
      have hD : va_D _ [(q 0, .inr (9, [.int (iI th), .int (iI N), .ref (q 1), .ref (q 2), .ref (q 3), .ref (q 4), .ref (q 5), .ref (q 6), .int (iI t0), .int (iI (2 * ((Xs o) - (Xs k)))), .int (iI (2 * ((Ys o) - (Ys k)))), .int (iI ((zHt Xs Ys Wt o) - (zHt Xs Ys Wt k))), .long (lI lT_141), .long (lI lL_141), .long (lI hT_141), .long (lI hL_141), .int (iI ig_141)])), (q 1, .inl (cA, 12, .inl (zF Xs))), (q 2, .inl (cA, 12, .inl (zF Ys))), (q 3, .inl (cA, 12, .inl (zF Wt))), (q 4, .inl (cA, 12, .inl (zF Cp))), (q 5, .inl (cA, 12, .inl (zF sh))), (q 6, .inl (cA, 12, .inl (zF kp)))] := hD
      refine lv_aload_n hx hb dX8_cause_144 rfl (lv_at hl 0 rfl) ?_
      refine lv_iconst (v := iI 0) hx hb dX8_cause_145 rfl ?_
      refine lv_iconst (v := iI 1) hx hb dX8_cause_146 rfl ?_
      refine lv_bipush (v := iI 40) hx hb dX8_cause_147 (by decide +kernel) ?_
      refine zc_wv (wr := []) (As := [.int (iI 0), .int (iI 1), .int (iI 40)]) (rest := []) ⟨hx, hb, hml, hown, hts⟩ (c_X8_keeps l D _ tys cA hty q th N Xs Ys Wt Cp sh kp t0 (2 * ((Xs o) - (Xs k))) (2 * ((Ys o) - (Ys k))) ((zHt Xs Ys Wt o) - (zHt Xs Ys Wt k)) lT_141 lL_141 hT_141 hL_141 ig_141 0 1 40 (by omega) (by omega) (by omega) (by omega) w141.2.1 w141.2.2 (by omega) (by omega) (by omega)) (cwV 3 hts gX8_cause_X8_keeps rfl rfl rfl (by decide +kernel) ⟨(Nat.le_of_ble_eq_true rfl), (Nat.le_of_ble_eq_true rfl)⟩) hP hK hD hS hA [0, 1, 2, 3, 4, 5, 6] rfl rfl rfl rfl [] [0, 1, 2, 3, 4, 5, 6] rfl rfl (by decide) (fun _ => rfl) rfl rfl hl.1 rfl (Nat.le_of_ble_eq_true rfl) dX8_cause_149 ⟨Nat.zero_le _, Nat.zero_le _⟩ (ws1 := fun (u9 : Int × Int × Int × Int × Int) => [(q 0, .inr (9, [.int (iI th), .int (iI N), .ref (q 1), .ref (q 2), .ref (q 3), .ref (q 4), .ref (q 5), .ref (q 6), .int (iI t0), .int (iI (2 * ((Xs o) - (Xs k)))), .int (iI (2 * ((Ys o) - (Ys k)))), .int (iI ((zHt Xs Ys Wt o) - (zHt Xs Ys Wt k))), .long (lI u9.2.1), .long (lI u9.2.2.1), .long (lI u9.2.2.2.1), .long (lI u9.2.2.2.2), .int (iI u9.1)])), (q 1, .inl (cA, 12, .inl (zF Xs))), (q 2, .inl (cA, 12, .inl (zF Ys))), (q 3, .inl (cA, 12, .inl (zF Wt))), (q 4, .inl (cA, 12, .inl (zF Cp))), (q 5, .inl (cA, 12, .inl (zF sh))), (q 6, .inl (cA, 12, .inl (zF kp)))]) (fun u149 H locs w149 hP hD hS => ?_)
      obtain ⟨ig_149, lT_149, lL_149, hT_149, hL_149⟩ := u149
      have w149 : (ig_149, lT_149, lL_149, hT_149, hL_149) = zCut (zKt t0 (2 * ((Xs o) - (Xs k))) (2 * ((Ys o) - (Ys k))) 0 1) (zKm t0 (2 * ((Xs o) - (Xs k))) (2 * ((Ys o) - (Ys k))) ((zHt Xs Ys Wt o) - (zHt Xs Ys Wt k)) 0 1 40) ig_141 lT_141 lL_141 hT_141 hL_141 ∧ zFc lT_149 lL_149 hT_149 hL_149 ∧ 0 ≤ ig_149 ∧ ig_149 ≤ 1 := w149
      have hP : va_P D vwCl [(q 0, .inr (9, [.int (iI th), .int (iI N), .ref (q 1), .ref (q 2), .ref (q 3), .ref (q 4), .ref (q 5), .ref (q 6), .int (iI t0), .int (iI (2 * ((Xs o) - (Xs k)))), .int (iI (2 * ((Ys o) - (Ys k)))), .int (iI ((zHt Xs Ys Wt o) - (zHt Xs Ys Wt k))), .long (lI lT_149), .long (lI lL_149), .long (lI hT_149), .long (lI hL_149), .int (iI ig_149)])), (q 1, .inl (cA, 12, .inl (zF Xs))), (q 2, .inl (cA, 12, .inl (zF Ys))), (q 3, .inl (cA, 12, .inl (zF Wt))), (q 4, .inl (cA, 12, .inl (zF Cp))), (q 5, .inl (cA, 12, .inl (zF sh))), (q 6, .inl (cA, 12, .inl (zF kp)))] H := hP
      have hD : va_D _ [(q 0, .inr (9, [.int (iI th), .int (iI N), .ref (q 1), .ref (q 2), .ref (q 3), .ref (q 4), .ref (q 5), .ref (q 6), .int (iI t0), .int (iI (2 * ((Xs o) - (Xs k)))), .int (iI (2 * ((Ys o) - (Ys k)))), .int (iI ((zHt Xs Ys Wt o) - (zHt Xs Ys Wt k))), .long (lI lT_149), .long (lI lL_149), .long (lI hT_149), .long (lI hL_149), .int (iI ig_149)])), (q 1, .inl (cA, 12, .inl (zF Xs))), (q 2, .inl (cA, 12, .inl (zF Ys))), (q 3, .inl (cA, 12, .inl (zF Wt))), (q 4, .inl (cA, 12, .inl (zF Cp))), (q 5, .inl (cA, 12, .inl (zF sh))), (q 6, .inl (cA, 12, .inl (zF kp)))] := hD
      refine lv_aload_n hx hb dX8_cause_152 rfl (lv_at hl 0 rfl) ?_
      refine lv_iconst (v := iI 0) hx hb dX8_cause_153 rfl ?_
      refine lv_iconst (v := iI (-1)) hx hb dX8_cause_154 rfl ?_
      refine lv_iconst (v := iI 0) hx hb dX8_cause_155 rfl ?_
      refine zc_wv (wr := []) (As := [.int (iI 0), .int (iI (-1)), .int (iI 0)]) (rest := []) ⟨hx, hb, hml, hown, hts⟩ (c_X8_keeps l D _ tys cA hty q th N Xs Ys Wt Cp sh kp t0 (2 * ((Xs o) - (Xs k))) (2 * ((Ys o) - (Ys k))) ((zHt Xs Ys Wt o) - (zHt Xs Ys Wt k)) lT_149 lL_149 hT_149 hL_149 ig_149 0 (-1) 0 (by omega) (by omega) (by omega) (by omega) w149.2.1 w149.2.2 (by omega) (by omega) (by omega)) (cwV 3 hts gX8_cause_X8_keeps rfl rfl rfl (by decide +kernel) ⟨(Nat.le_of_ble_eq_true rfl), (Nat.le_of_ble_eq_true rfl)⟩) hP hK hD hS hA [0, 1, 2, 3, 4, 5, 6] rfl rfl rfl rfl [] [0, 1, 2, 3, 4, 5, 6] rfl rfl (by decide) (fun _ => rfl) rfl rfl hl.1 rfl (Nat.le_of_ble_eq_true rfl) dX8_cause_156 ⟨Nat.zero_le _, Nat.zero_le _⟩ (ws1 := fun (u9 : Int × Int × Int × Int × Int) => [(q 0, .inr (9, [.int (iI th), .int (iI N), .ref (q 1), .ref (q 2), .ref (q 3), .ref (q 4), .ref (q 5), .ref (q 6), .int (iI t0), .int (iI (2 * ((Xs o) - (Xs k)))), .int (iI (2 * ((Ys o) - (Ys k)))), .int (iI ((zHt Xs Ys Wt o) - (zHt Xs Ys Wt k))), .long (lI u9.2.1), .long (lI u9.2.2.1), .long (lI u9.2.2.2.1), .long (lI u9.2.2.2.2), .int (iI u9.1)])), (q 1, .inl (cA, 12, .inl (zF Xs))), (q 2, .inl (cA, 12, .inl (zF Ys))), (q 3, .inl (cA, 12, .inl (zF Wt))), (q 4, .inl (cA, 12, .inl (zF Cp))), (q 5, .inl (cA, 12, .inl (zF sh))), (q 6, .inl (cA, 12, .inl (zF kp)))]) (fun u156 H locs w156 hP hD hS => ?_)
      obtain ⟨ig_156, lT_156, lL_156, hT_156, hL_156⟩ := u156
      have w156 : (ig_156, lT_156, lL_156, hT_156, hL_156) = zCut (zKt t0 (2 * ((Xs o) - (Xs k))) (2 * ((Ys o) - (Ys k))) 0 (-1)) (zKm t0 (2 * ((Xs o) - (Xs k))) (2 * ((Ys o) - (Ys k))) ((zHt Xs Ys Wt o) - (zHt Xs Ys Wt k)) 0 (-1) 0) ig_149 lT_149 lL_149 hT_149 hL_149 ∧ zFc lT_156 lL_156 hT_156 hL_156 ∧ 0 ≤ ig_156 ∧ ig_156 ≤ 1 := w156
      have hP : va_P D vwCl [(q 0, .inr (9, [.int (iI th), .int (iI N), .ref (q 1), .ref (q 2), .ref (q 3), .ref (q 4), .ref (q 5), .ref (q 6), .int (iI t0), .int (iI (2 * ((Xs o) - (Xs k)))), .int (iI (2 * ((Ys o) - (Ys k)))), .int (iI ((zHt Xs Ys Wt o) - (zHt Xs Ys Wt k))), .long (lI lT_156), .long (lI lL_156), .long (lI hT_156), .long (lI hL_156), .int (iI ig_156)])), (q 1, .inl (cA, 12, .inl (zF Xs))), (q 2, .inl (cA, 12, .inl (zF Ys))), (q 3, .inl (cA, 12, .inl (zF Wt))), (q 4, .inl (cA, 12, .inl (zF Cp))), (q 5, .inl (cA, 12, .inl (zF sh))), (q 6, .inl (cA, 12, .inl (zF kp)))] H := hP
      have hD : va_D _ [(q 0, .inr (9, [.int (iI th), .int (iI N), .ref (q 1), .ref (q 2), .ref (q 3), .ref (q 4), .ref (q 5), .ref (q 6), .int (iI t0), .int (iI (2 * ((Xs o) - (Xs k)))), .int (iI (2 * ((Ys o) - (Ys k)))), .int (iI ((zHt Xs Ys Wt o) - (zHt Xs Ys Wt k))), .long (lI lT_156), .long (lI lL_156), .long (lI hT_156), .long (lI hL_156), .int (iI ig_156)])), (q 1, .inl (cA, 12, .inl (zF Xs))), (q 2, .inl (cA, 12, .inl (zF Ys))), (q 3, .inl (cA, 12, .inl (zF Wt))), (q 4, .inl (cA, 12, .inl (zF Cp))), (q 5, .inl (cA, 12, .inl (zF sh))), (q 6, .inl (cA, 12, .inl (zF kp)))] := hD
      have gbx := (zKb_e (X := Xs) (Y := Ys) (W := Wt) gne gv w134.1 w141.1 w149.1 w156.1)
      refine lv_aload_n hx hb dX8_cause_159 rfl (lv_at hl 0 rfl) ?_
      refine zc_ri (As := []) (rest := []) ⟨hx, hb, hml, hown, hts⟩ (c_X8_isLong l D _ tys cA hty q th N Xs Ys Wt Cp sh kp t0 (2 * ((Xs o) - (Xs k))) (2 * ((Ys o) - (Ys k))) ((zHt Xs Ys Wt o) - (zHt Xs Ys Wt k)) lT_156 lL_156 hT_156 hL_156 ig_156  w156.2.1 w156.2.2) (cwV 0 hts gX8_cause_X8_isLong rfl rfl rfl (by decide +kernel) ⟨(Nat.le_of_ble_eq_true rfl), (Nat.le_of_ble_eq_true rfl)⟩) hP hK hD hS hA [0, 1, 2, 3, 4, 5, 6] rfl rfl rfl rfl rfl hl.1 rfl (Nat.le_of_ble_eq_true rfl) dX8_cause_160 ⟨Nat.zero_le _, Nat.zero_le _⟩ (fun H locs hP hS => ?_)
      refine zb_if_ne (tgt := 169) hx hb dX8_cause_163 (by decide) (fun c163 => ?_) (fun c163 => ?_)
      · skip
        refine lv_iconst (v := iI 0) hx hb dX8_cause_169 rfl ?_
        refine lv_istore_n (lv' := [(3, .int (iI 0)), (0, .ref (q 0)), (1, .int (iI k)), (2, .int (iI o))]) hx hb dX8_cause_170 rfl hl (by decide) rfl (fun ls hl => ?_)
        have L171 : ∀ (n : Nat) (i : Int) (igy : Int) (lTy : Int) (lLy : Int) (hTy : Int) (hLy : Int), (N - i < (n : Int)) → (0 ≤ i ∧ i ≤ N) → (zKi Xs Ys Wt N k o i igy lTy lLy hTy hLy) → ∀ (H : Heap) (locs : List Loc) (ls : Array Slot), va_P D vwCl [(q 0, .inr (9, [.int (iI th), .int (iI N), .ref (q 1), .ref (q 2), .ref (q 3), .ref (q 4), .ref (q 5), .ref (q 6), .int (iI t0), .int (iI (2 * ((Xs o) - (Xs k)))), .int (iI (2 * ((Ys o) - (Ys k)))), .int (iI ((zHt Xs Ys Wt o) - (zHt Xs Ys Wt k))), .long (lI lTy), .long (lI lLy), .long (lI hTy), .long (lI hLy), .int (iI igy)])), (q 1, .inl (cA, 12, .inl (zF Xs))), (q 2, .inl (cA, 12, .inl (zF Ys))), (q 3, .inl (cA, 12, .inl (zF Wt))), (q 4, .inl (cA, 12, .inl (zF Cp))), (q 5, .inl (cA, 12, .inl (zF sh))), (q 6, .inl (cA, 12, .inl (zF kp)))] H → va_D (va_A [(q 0, .inr (9, [.int (iI th), .int (iI N), .ref (q 1), .ref (q 2), .ref (q 3), .ref (q 4), .ref (q 5), .ref (q 6), .int (iI iu), .int (iI ax), .int (iI ay), .int (iI ri), .long (lI lT), .long (lI lL), .long (lI hT), .long (lI hL), .int (iI ig)])), (q 1, .inl (cA, 12, .inl (zF Xs))), (q 2, .inl (cA, 12, .inl (zF Ys))), (q 3, .inl (cA, 12, .inl (zF Wt))), (q 4, .inl (cA, 12, .inl (zF Cp))), (q 5, .inl (cA, 12, .inl (zF sh))), (q 6, .inl (cA, 12, .inl (zF kp)))] s.heap.size) [(q 0, .inr (9, [.int (iI th), .int (iI N), .ref (q 1), .ref (q 2), .ref (q 3), .ref (q 4), .ref (q 5), .ref (q 6), .int (iI t0), .int (iI (2 * ((Xs o) - (Xs k)))), .int (iI (2 * ((Ys o) - (Ys k)))), .int (iI ((zHt Xs Ys Wt o) - (zHt Xs Ys Wt k))), .long (lI lTy), .long (lI lLy), .long (lI hTy), .long (lI hLy), .int (iI igy)])), (q 1, .inl (cA, 12, .inl (zF Xs))), (q 2, .inl (cA, 12, .inl (zF Ys))), (q 3, .inl (cA, 12, .inl (zF Wt))), (q 4, .inl (cA, 12, .inl (zF Cp))), (q 5, .inl (cA, 12, .inl (zF sh))), (q 6, .inl (cA, 12, .inl (zF kp)))] → va_S (va_A [(q 0, .inr (9, [.int (iI th), .int (iI N), .ref (q 1), .ref (q 2), .ref (q 3), .ref (q 4), .ref (q 5), .ref (q 6), .int (iI iu), .int (iI ax), .int (iI ay), .int (iI ri), .long (lI lT), .long (lI lL), .long (lI hT), .long (lI hL), .int (iI ig)])), (q 1, .inl (cA, 12, .inl (zF Xs))), (q 2, .inl (cA, 12, .inl (zF Ys))), (q 3, .inl (cA, 12, .inl (zF Wt))), (q 4, .inl (cA, 12, .inl (zF Cp))), (q 5, .inl (cA, 12, .inl (zF sh))), (q 6, .inl (cA, 12, .inl (zF kp)))] s.heap.size) s.heap H locs → lv_has ls 4 [(0, .ref (q 0)), (1, .int (iI k)), (2, .int (iI o)), (3, .int (iI i))] → W p l e (headSpec wsX8_cause ({ frames := 2, cells := 0, slots := 0, locals := 50 })).room s m ([.ref (q 0), .int (iI k), .int (iI o)] : List Value).toArray below meth c H locs 0 0 (MQ below (zWi (fun (u : Int × Int × Int × Int × Int × Int × Int × Int × Int) => zTrV Xs Ys Wt N k o) (fun (u : Int × Int × Int × Int × Int × Int × Int × Int × Int) => zTrV Xs Ys Wt N k o = -1 → zRq Xs Ys Wt N k o u.1 u.2.1 u.2.2.1 u.2.2.2.1 u.2.2.2.2.1 u.2.2.2.2.2.1 u.2.2.2.2.2.2.1 u.2.2.2.2.2.2.2.1) D (fun (u : Int × Int × Int × Int × Int × Int × Int × Int × Int) => [(q 0, .inr (9, [.int (iI th), .int (iI N), .ref (q 1), .ref (q 2), .ref (q 3), .ref (q 4), .ref (q 5), .ref (q 6), .int (iI u.1), .int (iI u.2.1), .int (iI u.2.2.1), .int (iI u.2.2.2.1), .long (lI u.2.2.2.2.1), .long (lI u.2.2.2.2.2.1), .long (lI u.2.2.2.2.2.2.1), .long (lI u.2.2.2.2.2.2.2.1), .int (iI u.2.2.2.2.2.2.2.2)])), (q 1, .inl (cA, 12, .inl (zF Xs))), (q 2, .inl (cA, 12, .inl (zF Ys))), (q 3, .inl (cA, 12, .inl (zF Wt))), (q 4, .inl (cA, 12, .inl (zF Cp))), (q 5, .inl (cA, 12, .inl (zF sh))), (q 6, .inl (cA, 12, .inl (zF kp)))]) [(q 0, .inr (9, [.int (iI th), .int (iI N), .ref (q 1), .ref (q 2), .ref (q 3), .ref (q 4), .ref (q 5), .ref (q 6), .int (iI iu), .int (iI ax), .int (iI ay), .int (iI ri), .long (lI lT), .long (lI lL), .long (lI hT), .long (lI hL), .int (iI ig)])), (q 1, .inl (cA, 12, .inl (zF Xs))), (q 2, .inl (cA, 12, .inl (zF Ys))), (q 3, .inl (cA, 12, .inl (zF Wt))), (q 4, .inl (cA, 12, .inl (zF Cp))), (q 5, .inl (cA, 12, .inl (zF sh))), (q 6, .inl (cA, 12, .inl (zF kp)))] s.heap.size) ([.ref (q 0), .int (iI k), .int (iI o)] : List Value).toArray s 0 0 (va_A [(q 0, .inr (9, [.int (iI th), .int (iI N), .ref (q 1), .ref (q 2), .ref (q 3), .ref (q 4), .ref (q 5), .ref (q 6), .int (iI iu), .int (iI ax), .int (iI ay), .int (iI ri), .long (lI lT), .long (lI lL), .long (lI hT), .long (lI hL), .int (iI ig)])), (q 1, .inl (cA, 12, .inl (zF Xs))), (q 2, .inl (cA, 12, .inl (zF Ys))), (q 3, .inl (cA, 12, .inl (zF Wt))), (q 4, .inl (cA, 12, .inl (zF Cp))), (q 5, .inl (cA, 12, .inl (zF sh))), (q 6, .inl (cA, 12, .inl (zF kp)))] s.heap.size)) (F0 m 171 ls []) := by
          intro n
          induction n with
          | zero =>
            intro i igy lTy lLy hTy hLy hn9 h1 h2 H locs ls hP hD hS hl
            exact absurd hn9 (by omega)
          | succ n ih171 =>
            intro i igy lTy lLy hTy hLy hn9 h1 h2 H locs ls hP hD hS hl
            have q1 := zKi_fc h2
            have qF := q1.1
            have qe := q1.2
            have x7 := gB.1 i
            have x8 := gB.2.1 i
            have x9 := zHt_rg gB i
            refine lv_iload_n hx hb dX8_cause_171 rfl (lv_at hl 3 rfl) ?_
            refine lv_aload_n hx hb dX8_cause_172 rfl (lv_at hl 0 rfl) ?_
            refine va_get (ci := 9) (v := .int (iI N)) (C := RX8) (T := TX8) (N := 17) hx hb hts iz_X8_cause_X8 hown hK hP 0 rfl rfl 1 (by decide) (hts (.fieldLink RX8 32 "PowerPlotModel" "sites" "I") (by decide +kernel)) (fun _ h9 => h9) rfl dX8_cause_173 ?_
            refine zi_icmp_ge (tgt := 249) hx hb dX8_cause_176 (by decide) (by omega) (by omega) (fun c176 => ?_) (fun c176 => ?_)
            · skip
              refine lv_iconst (v := iI (-1)) hx hb dX8_cause_249 rfl ?_
              exact W.iret (v := iI (-1)) hx hb hr (fun t ht hW => ⟨⟨iI (-1), (t0, 2 * ((Xs o) - (Xs k)), 2 * ((Ys o) - (Ys k)), (zHt Xs Ys Wt o) - (zHt Xs Ys Wt k), lTy, lLy, hTy, hLy, igy), rfl, ⟨congrArg iI (by exact (zKi_e h2 (by omega) gne gv).1.symm), (fun _ => (zKi_e h2 (by omega) gne gv).2)⟩, ⟨by rw [ht]; exact hP, hD⟩⟩, hS.F ht⟩) hS.2.2 dX8_cause_250
            · skip
              have J243 : ∀ (igz : Int) (lTz : Int) (lLz : Int) (hTz : Int) (hLz : Int), (zKi Xs Ys Wt N k o (i + 1) igz lTz lLz hTz hLz) → ∀ (H : Heap) (locs : List Loc) (ls : Array Slot), va_P D vwCl [(q 0, .inr (9, [.int (iI th), .int (iI N), .ref (q 1), .ref (q 2), .ref (q 3), .ref (q 4), .ref (q 5), .ref (q 6), .int (iI t0), .int (iI (2 * ((Xs o) - (Xs k)))), .int (iI (2 * ((Ys o) - (Ys k)))), .int (iI ((zHt Xs Ys Wt o) - (zHt Xs Ys Wt k))), .long (lI lTz), .long (lI lLz), .long (lI hTz), .long (lI hLz), .int (iI igz)])), (q 1, .inl (cA, 12, .inl (zF Xs))), (q 2, .inl (cA, 12, .inl (zF Ys))), (q 3, .inl (cA, 12, .inl (zF Wt))), (q 4, .inl (cA, 12, .inl (zF Cp))), (q 5, .inl (cA, 12, .inl (zF sh))), (q 6, .inl (cA, 12, .inl (zF kp)))] H → va_D (va_A [(q 0, .inr (9, [.int (iI th), .int (iI N), .ref (q 1), .ref (q 2), .ref (q 3), .ref (q 4), .ref (q 5), .ref (q 6), .int (iI iu), .int (iI ax), .int (iI ay), .int (iI ri), .long (lI lT), .long (lI lL), .long (lI hT), .long (lI hL), .int (iI ig)])), (q 1, .inl (cA, 12, .inl (zF Xs))), (q 2, .inl (cA, 12, .inl (zF Ys))), (q 3, .inl (cA, 12, .inl (zF Wt))), (q 4, .inl (cA, 12, .inl (zF Cp))), (q 5, .inl (cA, 12, .inl (zF sh))), (q 6, .inl (cA, 12, .inl (zF kp)))] s.heap.size) [(q 0, .inr (9, [.int (iI th), .int (iI N), .ref (q 1), .ref (q 2), .ref (q 3), .ref (q 4), .ref (q 5), .ref (q 6), .int (iI t0), .int (iI (2 * ((Xs o) - (Xs k)))), .int (iI (2 * ((Ys o) - (Ys k)))), .int (iI ((zHt Xs Ys Wt o) - (zHt Xs Ys Wt k))), .long (lI lTz), .long (lI lLz), .long (lI hTz), .long (lI hLz), .int (iI igz)])), (q 1, .inl (cA, 12, .inl (zF Xs))), (q 2, .inl (cA, 12, .inl (zF Ys))), (q 3, .inl (cA, 12, .inl (zF Wt))), (q 4, .inl (cA, 12, .inl (zF Cp))), (q 5, .inl (cA, 12, .inl (zF sh))), (q 6, .inl (cA, 12, .inl (zF kp)))] → va_S (va_A [(q 0, .inr (9, [.int (iI th), .int (iI N), .ref (q 1), .ref (q 2), .ref (q 3), .ref (q 4), .ref (q 5), .ref (q 6), .int (iI iu), .int (iI ax), .int (iI ay), .int (iI ri), .long (lI lT), .long (lI lL), .long (lI hT), .long (lI hL), .int (iI ig)])), (q 1, .inl (cA, 12, .inl (zF Xs))), (q 2, .inl (cA, 12, .inl (zF Ys))), (q 3, .inl (cA, 12, .inl (zF Wt))), (q 4, .inl (cA, 12, .inl (zF Cp))), (q 5, .inl (cA, 12, .inl (zF sh))), (q 6, .inl (cA, 12, .inl (zF kp)))] s.heap.size) s.heap H locs → lv_has ls 4 [(0, .ref (q 0)), (1, .int (iI k)), (2, .int (iI o)), (3, .int (iI i))] → W p l e (headSpec wsX8_cause ({ frames := 2, cells := 0, slots := 0, locals := 50 })).room s m ([.ref (q 0), .int (iI k), .int (iI o)] : List Value).toArray below meth c H locs 0 0 (MQ below (zWi (fun (u : Int × Int × Int × Int × Int × Int × Int × Int × Int) => zTrV Xs Ys Wt N k o) (fun (u : Int × Int × Int × Int × Int × Int × Int × Int × Int) => zTrV Xs Ys Wt N k o = -1 → zRq Xs Ys Wt N k o u.1 u.2.1 u.2.2.1 u.2.2.2.1 u.2.2.2.2.1 u.2.2.2.2.2.1 u.2.2.2.2.2.2.1 u.2.2.2.2.2.2.2.1) D (fun (u : Int × Int × Int × Int × Int × Int × Int × Int × Int) => [(q 0, .inr (9, [.int (iI th), .int (iI N), .ref (q 1), .ref (q 2), .ref (q 3), .ref (q 4), .ref (q 5), .ref (q 6), .int (iI u.1), .int (iI u.2.1), .int (iI u.2.2.1), .int (iI u.2.2.2.1), .long (lI u.2.2.2.2.1), .long (lI u.2.2.2.2.2.1), .long (lI u.2.2.2.2.2.2.1), .long (lI u.2.2.2.2.2.2.2.1), .int (iI u.2.2.2.2.2.2.2.2)])), (q 1, .inl (cA, 12, .inl (zF Xs))), (q 2, .inl (cA, 12, .inl (zF Ys))), (q 3, .inl (cA, 12, .inl (zF Wt))), (q 4, .inl (cA, 12, .inl (zF Cp))), (q 5, .inl (cA, 12, .inl (zF sh))), (q 6, .inl (cA, 12, .inl (zF kp)))]) [(q 0, .inr (9, [.int (iI th), .int (iI N), .ref (q 1), .ref (q 2), .ref (q 3), .ref (q 4), .ref (q 5), .ref (q 6), .int (iI iu), .int (iI ax), .int (iI ay), .int (iI ri), .long (lI lT), .long (lI lL), .long (lI hT), .long (lI hL), .int (iI ig)])), (q 1, .inl (cA, 12, .inl (zF Xs))), (q 2, .inl (cA, 12, .inl (zF Ys))), (q 3, .inl (cA, 12, .inl (zF Wt))), (q 4, .inl (cA, 12, .inl (zF Cp))), (q 5, .inl (cA, 12, .inl (zF sh))), (q 6, .inl (cA, 12, .inl (zF kp)))] s.heap.size) ([.ref (q 0), .int (iI k), .int (iI o)] : List Value).toArray s 0 0 (va_A [(q 0, .inr (9, [.int (iI th), .int (iI N), .ref (q 1), .ref (q 2), .ref (q 3), .ref (q 4), .ref (q 5), .ref (q 6), .int (iI iu), .int (iI ax), .int (iI ay), .int (iI ri), .long (lI lT), .long (lI lL), .long (lI hT), .long (lI hL), .int (iI ig)])), (q 1, .inl (cA, 12, .inl (zF Xs))), (q 2, .inl (cA, 12, .inl (zF Ys))), (q 3, .inl (cA, 12, .inl (zF Wt))), (q 4, .inl (cA, 12, .inl (zF Cp))), (q 5, .inl (cA, 12, .inl (zF sh))), (q 6, .inl (cA, 12, .inl (zF kp)))] s.heap.size)) (F0 m 243 ls []) := by
                intro igz lTz lLz hTz hLz h3 H locs ls hP hD hS hl
                refine lv_iinc (v := iI (i + 1)) (lv' := [(3, .int (iI (i + 1))), (0, .ref (q 0)), (1, .int (iI k)), (2, .int (iI o))]) hx hb dX8_cause_243 hl (k := 3) rfl (iI_add i 1) (by decide) rfl (fun ls hl => ?_)
                refine lv_goto (tgt := 171) hx hb dX8_cause_246 (by decide) ?_
                exact ih171 (i + 1) igz lTz lLz hTz hLz (by omega) (by omega) h3 _ _ _ hP hD hS (lv_sub hl [1, 2, 3, 0] rfl)
              refine lv_iload_n hx hb dX8_cause_179 rfl (lv_at hl 3 rfl) ?_
              refine lv_iload_n hx hb dX8_cause_180 rfl (lv_at hl 1 rfl) ?_
              refine zi_icmp_eq (tgt := 243) hx hb dX8_cause_181 (by decide) (by omega) (by omega) (fun c181 => ?_) (fun c181 => ?_)
              · skip
                exact J243 igy lTy lLy hTy hLy (by first | exact zKi_k h2 (by omega) (Or.inl c181) | exact zKi_k h2 (by omega) (Or.inr c186) | exact hC.1 c238 | fail | fail) _ _ _ hP hD hS (lv_sub hl [0, 1, 2, 3] rfl)
              · skip
                refine lv_iload_n hx hb dX8_cause_184 rfl (lv_at hl 3 rfl) ?_
                refine lv_iload_n hx hb dX8_cause_185 rfl (lv_at hl 2 rfl) ?_
                refine zi_icmp_eq (tgt := 243) hx hb dX8_cause_186 (by decide) (by omega) (by omega) (fun c186 => ?_) (fun c186 => ?_)
                · skip
                  exact J243 igy lTy lLy hTy hLy (by first | exact zKi_k h2 (by omega) (Or.inl c181) | exact zKi_k h2 (by omega) (Or.inr c186) | exact hC.1 c238 | fail | fail) _ _ _ hP hD hS (lv_sub hl [0, 1, 2, 3] rfl)
                · skip
                  refine lv_aload_n hx hb dX8_cause_189 rfl (lv_at hl 0 rfl) ?_
                  refine lv_iconst (v := iI 2) hx hb dX8_cause_190 rfl ?_
                  refine lv_aload_n hx hb dX8_cause_191 rfl (lv_at hl 0 rfl) ?_
                  refine va_get (ci := 9) (v := .ref (q 1)) (C := RX8) (T := TX8) (N := 17) hx hb hts iz_X8_cause_X8 hown hK hP 0 rfl rfl 2 (by decide) (hts (.fieldLink RX8 7 "PowerPlotModel" "x" "[I") (by decide +kernel)) (fun _ h9 => h9) rfl dX8_cause_192 ?_
                  refine lv_iload_n hx hb dX8_cause_195 rfl (lv_at hl 3 rfl) ?_
                  refine zi_iald hx hb hK hP 1 0 rfl hty (by decide) (by omega) dX8_cause_196 ?_
                  refine lv_aload_n hx hb dX8_cause_197 rfl (lv_at hl 0 rfl) ?_
                  refine va_get (ci := 9) (v := .ref (q 1)) (C := RX8) (T := TX8) (N := 17) hx hb hts iz_X8_cause_X8 hown hK hP 0 rfl rfl 2 (by decide) (hts (.fieldLink RX8 7 "PowerPlotModel" "x" "[I") (by decide +kernel)) (fun _ h9 => h9) rfl dX8_cause_198 ?_
                  refine lv_iload_n hx hb dX8_cause_201 rfl (lv_at hl 1 rfl) ?_
                  refine zi_iald hx hb hK hP 1 0 rfl hty (by decide) (by omega) dX8_cause_202 ?_
                  refine zi_isub hx hb dX8_cause_203 ?_
                  refine zi_imul hx hb dX8_cause_204 ?_
                  refine lv_iconst (v := iI 2) hx hb dX8_cause_205 rfl ?_
                  refine lv_aload_n hx hb dX8_cause_206 rfl (lv_at hl 0 rfl) ?_
                  refine va_get (ci := 9) (v := .ref (q 2)) (C := RX8) (T := TX8) (N := 17) hx hb hts iz_X8_cause_X8 hown hK hP 0 rfl rfl 3 (by decide) (hts (.fieldLink RX8 13 "PowerPlotModel" "y" "[I") (by decide +kernel)) (fun _ h9 => h9) rfl dX8_cause_207 ?_
                  refine lv_iload_n hx hb dX8_cause_210 rfl (lv_at hl 3 rfl) ?_
                  refine zi_iald hx hb hK hP 2 0 rfl hty (by decide) (by omega) dX8_cause_211 ?_
                  refine lv_aload_n hx hb dX8_cause_212 rfl (lv_at hl 0 rfl) ?_
                  refine va_get (ci := 9) (v := .ref (q 2)) (C := RX8) (T := TX8) (N := 17) hx hb hts iz_X8_cause_X8 hown hK hP 0 rfl rfl 3 (by decide) (hts (.fieldLink RX8 13 "PowerPlotModel" "y" "[I") (by decide +kernel)) (fun _ h9 => h9) rfl dX8_cause_213 ?_
                  refine lv_iload_n hx hb dX8_cause_216 rfl (lv_at hl 1 rfl) ?_
                  refine zi_iald hx hb hK hP 2 0 rfl hty (by decide) (by omega) dX8_cause_217 ?_
                  refine zi_isub hx hb dX8_cause_218 ?_
                  refine zi_imul hx hb dX8_cause_219 ?_
                  refine lv_aload_n hx hb dX8_cause_220 rfl (lv_at hl 0 rfl) ?_
                  refine lv_iload_n hx hb dX8_cause_221 rfl (lv_at hl 3 rfl) ?_
                  refine zc_ri (As := [.int (iI i)]) (rest := [.int (iI (2 * ((Ys i) - (Ys k)))), .int (iI (2 * ((Xs i) - (Xs k)))), .ref (q 0)]) ⟨hx, hb, hml, hown, hts⟩ (c_X8_height l D _ tys cA hty q th N Xs Ys Wt Cp sh kp t0 (2 * ((Xs o) - (Xs k))) (2 * ((Ys o) - (Ys k))) ((zHt Xs Ys Wt o) - (zHt Xs Ys Wt k)) lTy lLy hTy hLy igy i (by omega)) (cwV 1 hts gX8_cause_X8_height rfl rfl rfl (by decide +kernel) ⟨(Nat.le_of_ble_eq_true rfl), (Nat.le_of_ble_eq_true rfl)⟩) hP hK hD hS hA [0, 1, 2, 3, 4, 5, 6] rfl rfl rfl rfl rfl hl.1 rfl (Nat.le_of_ble_eq_true rfl) dX8_cause_222 ⟨Nat.zero_le _, Nat.zero_le _⟩ (fun H locs hP hS => ?_)
                  refine lv_aload_n hx hb dX8_cause_225 rfl (lv_at hl 0 rfl) ?_
                  refine lv_iload_n hx hb dX8_cause_226 rfl (lv_at hl 1 rfl) ?_
                  refine zc_ri (As := [.int (iI k)]) (rest := [.int (iI (zHt Xs Ys Wt i)), .int (iI (2 * ((Ys i) - (Ys k)))), .int (iI (2 * ((Xs i) - (Xs k)))), .ref (q 0)]) ⟨hx, hb, hml, hown, hts⟩ (c_X8_height l D _ tys cA hty q th N Xs Ys Wt Cp sh kp t0 (2 * ((Xs o) - (Xs k))) (2 * ((Ys o) - (Ys k))) ((zHt Xs Ys Wt o) - (zHt Xs Ys Wt k)) lTy lLy hTy hLy igy k (by omega)) (cwV 1 hts gX8_cause_X8_height rfl rfl rfl (by decide +kernel) ⟨(Nat.le_of_ble_eq_true rfl), (Nat.le_of_ble_eq_true rfl)⟩) hP hK hD hS hA [0, 1, 2, 3, 4, 5, 6] rfl rfl rfl rfl rfl hl.1 rfl (Nat.le_of_ble_eq_true rfl) dX8_cause_227 ⟨Nat.zero_le _, Nat.zero_le _⟩ (fun H locs hP hS => ?_)
                  refine zi_isub hx hb dX8_cause_230 ?_
                  refine zc_wv (wr := []) (As := [.int (iI (2 * ((Xs i) - (Xs k)))), .int (iI (2 * ((Ys i) - (Ys k)))), .int (iI ((zHt Xs Ys Wt i) - (zHt Xs Ys Wt k)))]) (rest := []) ⟨hx, hb, hml, hown, hts⟩ (c_X8_keeps l D _ tys cA hty q th N Xs Ys Wt Cp sh kp t0 (2 * ((Xs o) - (Xs k))) (2 * ((Ys o) - (Ys k))) ((zHt Xs Ys Wt o) - (zHt Xs Ys Wt k)) lTy lLy hTy hLy igy (2 * ((Xs i) - (Xs k))) (2 * ((Ys i) - (Ys k))) ((zHt Xs Ys Wt i) - (zHt Xs Ys Wt k)) (by omega) (by omega) (by omega) (by omega) qF qe (by omega) (by omega) (by omega)) (cwV 3 hts gX8_cause_X8_keeps rfl rfl rfl (by decide +kernel) ⟨(Nat.le_of_ble_eq_true rfl), (Nat.le_of_ble_eq_true rfl)⟩) hP hK hD hS hA [0, 1, 2, 3, 4, 5, 6] rfl rfl rfl rfl [] [0, 1, 2, 3, 4, 5, 6] rfl rfl (by decide) (fun _ => rfl) rfl rfl hl.1 rfl (Nat.le_of_ble_eq_true rfl) dX8_cause_231 ⟨Nat.zero_le _, Nat.zero_le _⟩ (ws1 := fun (u9 : Int × Int × Int × Int × Int) => [(q 0, .inr (9, [.int (iI th), .int (iI N), .ref (q 1), .ref (q 2), .ref (q 3), .ref (q 4), .ref (q 5), .ref (q 6), .int (iI t0), .int (iI (2 * ((Xs o) - (Xs k)))), .int (iI (2 * ((Ys o) - (Ys k)))), .int (iI ((zHt Xs Ys Wt o) - (zHt Xs Ys Wt k))), .long (lI u9.2.1), .long (lI u9.2.2.1), .long (lI u9.2.2.2.1), .long (lI u9.2.2.2.2), .int (iI u9.1)])), (q 1, .inl (cA, 12, .inl (zF Xs))), (q 2, .inl (cA, 12, .inl (zF Ys))), (q 3, .inl (cA, 12, .inl (zF Wt))), (q 4, .inl (cA, 12, .inl (zF Cp))), (q 5, .inl (cA, 12, .inl (zF sh))), (q 6, .inl (cA, 12, .inl (zF kp)))]) (fun u231 H locs w231 hP hD hS => ?_)
                  obtain ⟨ig_231, lT_231, lL_231, hT_231, hL_231⟩ := u231
                  have w231 : (ig_231, lT_231, lL_231, hT_231, hL_231) = zCut (zKt t0 (2 * ((Xs o) - (Xs k))) (2 * ((Ys o) - (Ys k))) (2 * ((Xs i) - (Xs k))) (2 * ((Ys i) - (Ys k)))) (zKm t0 (2 * ((Xs o) - (Xs k))) (2 * ((Ys o) - (Ys k))) ((zHt Xs Ys Wt o) - (zHt Xs Ys Wt k)) (2 * ((Xs i) - (Xs k))) (2 * ((Ys i) - (Ys k))) ((zHt Xs Ys Wt i) - (zHt Xs Ys Wt k))) igy lTy lLy hTy hLy ∧ zFc lT_231 lL_231 hT_231 hL_231 ∧ 0 ≤ ig_231 ∧ ig_231 ≤ 1 := w231
                  have hP : va_P D vwCl [(q 0, .inr (9, [.int (iI th), .int (iI N), .ref (q 1), .ref (q 2), .ref (q 3), .ref (q 4), .ref (q 5), .ref (q 6), .int (iI t0), .int (iI (2 * ((Xs o) - (Xs k)))), .int (iI (2 * ((Ys o) - (Ys k)))), .int (iI ((zHt Xs Ys Wt o) - (zHt Xs Ys Wt k))), .long (lI lT_231), .long (lI lL_231), .long (lI hT_231), .long (lI hL_231), .int (iI ig_231)])), (q 1, .inl (cA, 12, .inl (zF Xs))), (q 2, .inl (cA, 12, .inl (zF Ys))), (q 3, .inl (cA, 12, .inl (zF Wt))), (q 4, .inl (cA, 12, .inl (zF Cp))), (q 5, .inl (cA, 12, .inl (zF sh))), (q 6, .inl (cA, 12, .inl (zF kp)))] H := hP
                  have hD : va_D _ [(q 0, .inr (9, [.int (iI th), .int (iI N), .ref (q 1), .ref (q 2), .ref (q 3), .ref (q 4), .ref (q 5), .ref (q 6), .int (iI t0), .int (iI (2 * ((Xs o) - (Xs k)))), .int (iI (2 * ((Ys o) - (Ys k)))), .int (iI ((zHt Xs Ys Wt o) - (zHt Xs Ys Wt k))), .long (lI lT_231), .long (lI lL_231), .long (lI hT_231), .long (lI hL_231), .int (iI ig_231)])), (q 1, .inl (cA, 12, .inl (zF Xs))), (q 2, .inl (cA, 12, .inl (zF Ys))), (q 3, .inl (cA, 12, .inl (zF Wt))), (q 4, .inl (cA, 12, .inl (zF Cp))), (q 5, .inl (cA, 12, .inl (zF sh))), (q 6, .inl (cA, 12, .inl (zF kp)))] := hD
                  have hC := zKi_c gB h2 (by omega) (fun z => z.elim c181 c186) gne gv w231.1
                  refine lv_aload_n hx hb dX8_cause_234 rfl (lv_at hl 0 rfl) ?_
                  refine zc_ri (As := []) (rest := []) ⟨hx, hb, hml, hown, hts⟩ (c_X8_isLong l D _ tys cA hty q th N Xs Ys Wt Cp sh kp t0 (2 * ((Xs o) - (Xs k))) (2 * ((Ys o) - (Ys k))) ((zHt Xs Ys Wt o) - (zHt Xs Ys Wt k)) lT_231 lL_231 hT_231 hL_231 ig_231  w231.2.1 w231.2.2) (cwV 0 hts gX8_cause_X8_isLong rfl rfl rfl (by decide +kernel) ⟨(Nat.le_of_ble_eq_true rfl), (Nat.le_of_ble_eq_true rfl)⟩) hP hK hD hS hA [0, 1, 2, 3, 4, 5, 6] rfl rfl rfl rfl rfl hl.1 rfl (Nat.le_of_ble_eq_true rfl) dX8_cause_235 ⟨Nat.zero_le _, Nat.zero_le _⟩ (fun H locs hP hS => ?_)
                  refine zb_if_ne (tgt := 243) hx hb dX8_cause_238 (by decide) (fun c238 => ?_) (fun c238 => ?_)
                  · skip
                    exact J243 ig_231 lT_231 lL_231 hT_231 hL_231 (by first | exact zKi_k h2 (by omega) (Or.inl c181) | exact zKi_k h2 (by omega) (Or.inr c186) | exact hC.1 c238 | fail | fail) _ _ _ hP hD hS (lv_sub hl [0, 1, 2, 3] rfl)
                  · skip
                    refine lv_iload_n hx hb dX8_cause_241 rfl (lv_at hl 3 rfl) ?_
                    exact W.iret (v := iI i) hx hb hr (fun t ht hW => ⟨⟨iI i, (t0, 2 * ((Xs o) - (Xs k)), 2 * ((Ys o) - (Ys k)), (zHt Xs Ys Wt o) - (zHt Xs Ys Wt k), lT_231, lL_231, hT_231, hL_231, ig_231), rfl, ⟨congrArg iI (by exact (hC.2 c238).symm), (fun z => absurd z (by rw [hC.2 c238]; omega))⟩, ⟨by rw [ht]; exact hP, hD⟩⟩, hS.F ht⟩) hS.2.2 dX8_cause_242
        exact L171 (((N - 0 : Int)).toNat + 1) 0 ig_156 lT_156 lL_156 hT_156 hL_156 (by omega) (by omega) (zKi_0 gB gbx c163) _ _ _ hP hD hS (lv_sub hl [1, 2, 3, 0] rfl)
      · skip
        refine lv_bipush (v := iI (-2)) hx hb dX8_cause_166 (by decide +kernel) ?_
        exact W.iret (v := iI (-2)) hx hb hr (fun t ht hW => ⟨⟨iI (-2), (t0, 2 * ((Xs o) - (Xs k)), 2 * ((Ys o) - (Ys k)), (zHt Xs Ys Wt o) - (zHt Xs Ys Wt k), lT_156, lL_156, hT_156, hL_156, ig_156), rfl, ⟨congrArg iI (by exact (zTrV_b gne gbx c163).symm), (fun z => absurd z (by rw [zTrV_b gne gbx c163]; decide))⟩, ⟨by rw [ht]; exact hP, hD⟩⟩, hS.F ht⟩) hS.2.2 dX8_cause_168
    refine lv_aload_n hx hb dX8_cause_86 rfl (lv_at hl 0 rfl) ?_
    refine lv_aload_n hx hb dX8_cause_87 rfl (lv_at hl 0 rfl) ?_
    refine va_get (ci := 9) (v := .int (iI (2 * ((Ys o) - (Ys k))))) (C := RX8) (T := TX8) (N := 17) hx hb hts iz_X8_cause_X8 hown hK hP 0 rfl rfl 10 (by decide) (hts (.fieldLink RX8 112 "PowerPlotModel" "acrossY" "I") (by decide +kernel)) (fun _ h9 => h9) rfl dX8_cause_88 ?_
    refine zi_if_ne (tgt := 98) hx hb dX8_cause_91 (by decide) (by omega) (fun c91 => ?_) (fun c91 => ?_)
    · skip
      refine lv_iconst (v := iI 0) hx hb dX8_cause_98 rfl ?_
      exact J99 0 (by unfold zLu; first | exact (zUp_1 (by omega)).symm | exact (zUp_0 (by omega)).symm | fail) _ _ _ hP hD hS (lv_sub hl [0, 1, 2] rfl)
    · skip
      refine lv_iconst (v := iI 1) hx hb dX8_cause_94 rfl ?_
      refine lv_goto (tgt := 99) hx hb dX8_cause_95 (by decide) ?_
      exact J99 1 (by unfold zLu; first | exact (zUp_1 (by omega)).symm | exact (zUp_0 (by omega)).symm | fail) _ _ _ hP hD hS (lv_sub hl [0, 1, 2] rfl)
  refine lv_aload_n hx hb dX8_cause_0 rfl (lv_at hl 0 rfl) ?_
  refine va_get (ci := 9) (v := .ref (q 1)) (C := RX8) (T := TX8) (N := 17) hx hb hts iz_X8_cause_X8 hown hK hP 0 rfl rfl 2 (by decide) (hts (.fieldLink RX8 7 "PowerPlotModel" "x" "[I") (by decide +kernel)) (fun _ h9 => h9) rfl dX8_cause_1 ?_
  refine lv_iload_n hx hb dX8_cause_4 rfl (lv_at hl 1 rfl) ?_
  refine zi_iald hx hb hK hP 1 0 rfl hty (by decide) (by omega) dX8_cause_5 ?_
  refine lv_aload_n hx hb dX8_cause_6 rfl (lv_at hl 0 rfl) ?_
  refine va_get (ci := 9) (v := .ref (q 1)) (C := RX8) (T := TX8) (N := 17) hx hb hts iz_X8_cause_X8 hown hK hP 0 rfl rfl 2 (by decide) (hts (.fieldLink RX8 7 "PowerPlotModel" "x" "[I") (by decide +kernel)) (fun _ h9 => h9) rfl dX8_cause_7 ?_
  refine lv_iload_n hx hb dX8_cause_10 rfl (lv_at hl 2 rfl) ?_
  refine zi_iald hx hb hK hP 1 0 rfl hty (by decide) (by omega) dX8_cause_11 ?_
  refine zi_icmp_ne (tgt := 33) hx hb dX8_cause_12 (by decide) (by omega) (by omega) (fun c12 => ?_) (fun c12 => ?_)
  · skip
    exact J33 (by first | exact fun z => c12 z.1 | exact fun z => c27 z.2 | fail | fail) _ _ _ hP hD hS (lv_sub hl [0, 1, 2] rfl)
  · skip
    refine lv_aload_n hx hb dX8_cause_15 rfl (lv_at hl 0 rfl) ?_
    refine va_get (ci := 9) (v := .ref (q 2)) (C := RX8) (T := TX8) (N := 17) hx hb hts iz_X8_cause_X8 hown hK hP 0 rfl rfl 3 (by decide) (hts (.fieldLink RX8 13 "PowerPlotModel" "y" "[I") (by decide +kernel)) (fun _ h9 => h9) rfl dX8_cause_16 ?_
    refine lv_iload_n hx hb dX8_cause_19 rfl (lv_at hl 1 rfl) ?_
    refine zi_iald hx hb hK hP 2 0 rfl hty (by decide) (by omega) dX8_cause_20 ?_
    refine lv_aload_n hx hb dX8_cause_21 rfl (lv_at hl 0 rfl) ?_
    refine va_get (ci := 9) (v := .ref (q 2)) (C := RX8) (T := TX8) (N := 17) hx hb hts iz_X8_cause_X8 hown hK hP 0 rfl rfl 3 (by decide) (hts (.fieldLink RX8 13 "PowerPlotModel" "y" "[I") (by decide +kernel)) (fun _ h9 => h9) rfl dX8_cause_22 ?_
    refine lv_iload_n hx hb dX8_cause_25 rfl (lv_at hl 2 rfl) ?_
    refine zi_iald hx hb hK hP 2 0 rfl hty (by decide) (by omega) dX8_cause_26 ?_
    refine zi_icmp_ne (tgt := 33) hx hb dX8_cause_27 (by decide) (by omega) (by omega) (fun c27 => ?_) (fun c27 => ?_)
    · skip
      exact J33 (by first | exact fun z => c12 z.1 | exact fun z => c27 z.2 | fail | fail) _ _ _ hP hD hS (lv_sub hl [0, 1, 2] rfl)
    · skip
      refine lv_bipush (v := iI (-3)) hx hb dX8_cause_30 (by decide +kernel) ?_
      exact W.iret (v := iI (-3)) hx hb hr (fun t ht hW => ⟨⟨iI (-3), (iu, ax, ay, ri, lT, lL, hT, hL, ig), rfl, ⟨congrArg iI (by exact (zTrV_s ⟨c12, c27⟩).symm), (fun z => absurd z (by rw [zTrV_s ⟨c12, c27⟩]; decide))⟩, ⟨by rw [ht]; exact hP, hD⟩⟩, hS.F ht⟩) hS.2.2 dX8_cause_32
set_option maxHeartbeats 4000000 in
set_option maxRecDepth 100000 in
/-- PowerPlotModel.common -/
theorem c_X8_common (l : Launch) (D : va_G) (sz : Nat) (tys : List (ClassId × FieldType)) (cA : ClassId) (hty : tys[0]? = some (cA, .int)) (x y : Int) (gx : -134217728 ≤ x ∧ x ≤ 134217728) (gy : -1048576 ≤ y ∧ y ≤ 1048576) : Met l yX8_common wsX8_common ({ frames := 0, cells := 0, slots := 0, locals := 0 }) (zP D [.long (lI x), .long (lI y)] sz [] tys) (zRl (zGc x y) sz) 0 0 (zN sz) := by
  refine Met.ofW (cc := cX8_common) (maxL := 10) (ret := (some .long)) (by decide +kernel) rfl ?_
  intro p e s m args below meth c s₁ B hml hv
  obtain ⟨rfl, hsz, hP, hK, hD0⟩ := hv
  have hx := B.exec
  have hb := B.bytes
  have hr := B.returns
  have hts := atoms_spec (ws := wsX8_common) B.pre
  have hown : s.vm.findClass RX8 = some m.cls := findClass_of_methodNamed B.named
  have hlocks := B.notSynchronized
  subst hsz
  have hD := hD0
  have hS : va_S (zN s.heap.size) s.heap s.heap [] := va_S.rf
  have hA : ∀ q9 : Nat, s.heap.size ≤ q9 → (zN s.heap.size) q9 := fun q9 h => h
  have hl := lv_entry ([.long (lI x), .long (lI y)]) (n := 10) (Nat.le_of_ble_eq_true rfl)
  rw [lg_entry_eq]
  generalize (lg_sl ([.long (lI x), .long (lI y)]) ++ List.replicate (10 - (lg_sl ([.long (lI x), .long (lI y)])).length) Slot.unset).toArray = ls at hl ⊢
  have hl : lv_has ls 10 [(0, .long (lI x)), (2, .long (lI y))] := hl
  have z1 : 0 ≤ zab x ∧ zab x ≤ 134217728 := zab_rg gx
  have z2 : 0 ≤ zab y ∧ zab y ≤ 1048576 := zab_rg gy
  have J12 : ∀ (t1 : Int), (t1 = zab x) → ∀ (H : Heap) (locs : List Loc) (ls : Array Slot), va_P D vwCl [] H → va_S (zN s.heap.size) s.heap H locs → lv_has ls 10 [(0, .long (lI x)), (2, .long (lI y))] → W p l e (headSpec wsX8_common ({ frames := 0, cells := 0, slots := 0, locals := 0 })).room s m ([.long (lI x), .long (lI y)] : List Value).toArray below meth c H locs 0 0 (MQ below (zRl (zGc x y) s.heap.size) ([.long (lI x), .long (lI y)] : List Value).toArray s 0 0 (zN s.heap.size)) (F0 m 12 ls [.long (lI t1)]) := by
    intro t1 e1 H locs ls hP hS hl
    refine lv_lstore (lv' := [(4, .long (lI t1)), (0, .long (lI x)), (2, .long (lI y))]) hx hb dX8_common_12 hl (by decide) rfl (fun ls hl => ?_)
    have J26 : ∀ (t2 : Int), (t2 = zab y) → ∀ (H : Heap) (locs : List Loc) (ls : Array Slot), va_P D vwCl [] H → va_S (zN s.heap.size) s.heap H locs → lv_has ls 10 [(0, .long (lI x)), (2, .long (lI y)), (4, .long (lI t1))] → W p l e (headSpec wsX8_common ({ frames := 0, cells := 0, slots := 0, locals := 0 })).room s m ([.long (lI x), .long (lI y)] : List Value).toArray below meth c H locs 0 0 (MQ below (zRl (zGc x y) s.heap.size) ([.long (lI x), .long (lI y)] : List Value).toArray s 0 0 (zN s.heap.size)) (F0 m 26 ls [.long (lI t2)]) := by
      intro t2 e2 H locs ls hP hS hl
      refine lv_lstore (lv' := [(6, .long (lI t2)), (0, .long (lI x)), (2, .long (lI y)), (4, .long (lI t1))]) hx hb dX8_common_26 hl (by decide) rfl (fun ls hl => ?_)
      have L28 : ∀ (n : Nat) (v4 : Int) (v6 : Int), (v6 < (n : Int)) → (0 ≤ v4 ∧ v4 ≤ 134217728) → (0 ≤ v6 ∧ v6 ≤ 1048576) → (zGc v4 v6 = zGc x y) → ∀ (H : Heap) (locs : List Loc) (ls : Array Slot), va_P D vwCl [] H → va_S (zN s.heap.size) s.heap H locs → lv_has ls 10 [(0, .long (lI x)), (2, .long (lI y)), (4, .long (lI v4)), (6, .long (lI v6))] → W p l e (headSpec wsX8_common ({ frames := 0, cells := 0, slots := 0, locals := 0 })).room s m ([.long (lI x), .long (lI y)] : List Value).toArray below meth c H locs 0 0 (MQ below (zRl (zGc x y) s.heap.size) ([.long (lI x), .long (lI y)] : List Value).toArray s 0 0 (zN s.heap.size)) (F0 m 28 ls []) := by
        intro n
        induction n with
        | zero =>
          intro v4 v6 hn9 h2 h3 h4 H locs ls hP hS hl
          exact absurd hn9 (by omega)
        | succ n ih28 =>
          intro v4 v6 hn9 h2 h3 h4 H locs ls hP hS hl
          refine lv_lload hx hb dX8_common_28 (lv_at hl 3 rfl) ?_
          refine lv_lconst (v := lI 0) hx hb dX8_common_30 (by decide +kernel) ?_
          refine zl_if_eq (tgt := 53) hx hb dX8_common_31 dX8_common_32 (by decide) (by omega) (by omega) (fun c31 => ?_) (fun c31 => ?_)
          · skip
            refine lv_lload hx hb dX8_common_53 (lv_at hl 2 rfl) ?_
            exact W.lret (v := lI v4) hx hb hr (fun t ht hW => ⟨⟨lI v4, (), rfl, congrArg lI (show v4 = zGc x y from by rw [← h4, show v6 = 0 by omega, zGc_0 h2.1]), trivial⟩, hS.F ht⟩) hS.2.2 dX8_common_55
          · have r0 := Int.tmod_nonneg v6 h2.1; have r1 := Int.tmod_lt_of_pos v4 (show 0 < v6 by omega)
            refine lv_lload hx hb dX8_common_35 (lv_at hl 2 rfl) ?_
            refine lv_lload hx hb dX8_common_37 (lv_at hl 3 rfl) ?_
            refine zl_lrem hx hb dX8_common_39 (by omega) (by omega) (by omega) (by omega) ?_
            refine lv_lstore (lv' := [(8, .long (lI (v4.tmod v6))), (0, .long (lI x)), (2, .long (lI y)), (4, .long (lI v4)), (6, .long (lI v6))]) hx hb dX8_common_40 hl (by decide) rfl (fun ls hl => ?_)
            refine lv_lload hx hb dX8_common_42 (lv_at hl 4 rfl) ?_
            refine lv_lstore (lv' := [(4, .long (lI v6)), (8, .long (lI (v4.tmod v6))), (0, .long (lI x)), (2, .long (lI y)), (6, .long (lI v6))]) hx hb dX8_common_44 hl (by decide) rfl (fun ls hl => ?_)
            refine lv_lload hx hb dX8_common_46 (lv_at hl 1 rfl) ?_
            refine lv_lstore (lv' := [(6, .long (lI (v4.tmod v6))), (4, .long (lI v6)), (8, .long (lI (v4.tmod v6))), (0, .long (lI x)), (2, .long (lI y))]) hx hb dX8_common_48 hl (by decide) rfl (fun ls hl => ?_)
            refine lv_goto (tgt := 28) hx hb dX8_common_50 (by decide) ?_
            exact ih28 v6 (v4.tmod v6) (by omega) (by omega) (by omega) (by rw [zGc_s]; exact h4) _ _ _ hP hS (lv_sub hl [3, 4, 1, 0] rfl)
      exact L28 (((t2 : Int)).toNat + 1) t1 t2 (by omega) (by omega) (by omega) (by rw [e1, e2, zGc_ab, zGc_ar]) _ _ _ hP hS (lv_sub hl [1, 2, 3, 0] rfl)
    refine lv_lload_n hx hb dX8_common_14 rfl (lv_at hl 2 rfl) ?_
    refine lv_lconst (v := lI 0) hx hb dX8_common_15 (by decide +kernel) ?_
    refine zl_if_ge (tgt := 25) hx hb dX8_common_16 dX8_common_17 (by decide) (by omega) (by omega) (fun c16 => ?_) (fun c16 => ?_)
    · skip
      refine lv_lload_n hx hb dX8_common_25 rfl (lv_at hl 2 rfl) ?_
      exact J26 y (by unfold zab; first | exact (if_pos (by omega)).symm | exact (if_neg (by omega)).symm | fail) _ _ _ hP hS (lv_sub hl [1, 2, 0] rfl)
    · skip
      refine lv_lload_n hx hb dX8_common_20 rfl (lv_at hl 2 rfl) ?_
      refine zl_lneg hx hb dX8_common_21 ?_
      refine lv_goto (tgt := 26) hx hb dX8_common_22 (by decide) ?_
      exact J26 (-y) (by unfold zab; first | exact (if_pos (by omega)).symm | exact (if_neg (by omega)).symm | fail) _ _ _ hP hS (lv_sub hl [1, 2, 0] rfl)
  refine lv_lload_n hx hb dX8_common_0 rfl (lv_at hl 0 rfl) ?_
  refine lv_lconst (v := lI 0) hx hb dX8_common_1 (by decide +kernel) ?_
  refine zl_if_ge (tgt := 11) hx hb dX8_common_2 dX8_common_3 (by decide) (by omega) (by omega) (fun c2 => ?_) (fun c2 => ?_)
  · skip
    refine lv_lload_n hx hb dX8_common_11 rfl (lv_at hl 0 rfl) ?_
    exact J12 x (by unfold zab; first | exact (if_pos (by omega)).symm | exact (if_neg (by omega)).symm | fail) _ _ _ hP hS (lv_sub hl [0, 1] rfl)
  · skip
    refine lv_lload_n hx hb dX8_common_6 rfl (lv_at hl 0 rfl) ?_
    refine zl_lneg hx hb dX8_common_7 ?_
    refine lv_goto (tgt := 12) hx hb dX8_common_8 (by decide) ?_
    exact J12 (-x) (by unfold zab; first | exact (if_pos (by omega)).symm | exact (if_neg (by omega)).symm | fail) _ _ _ hP hS (lv_sub hl [0, 1] rfl)
set_option maxHeartbeats 4000000 in
set_option maxRecDepth 100000 in
/-- PowerPlotModel.told -/
theorem c_X8_told (l : Launch) (D : va_G) (sz : Nat) (tys : List (ClassId × FieldType)) (cA : ClassId) (hty : tys[0]? = some (cA, .int)) (T1 L1 it : Int) (gT : -134217728 ≤ T1 ∧ T1 ≤ 134217728) (gL : -1048576 ≤ L1 ∧ L1 ≤ 1048576) (g0 : ¬ L1 = 0) (gi : 0 ≤ it ∧ it ≤ 1) : Met l yX8_told wsX8_told ({ frames := 1, cells := 0, slots := 0, locals := 29 }) (zP D [.long (lI T1), .long (lI L1), .int (iI it)] sz [] tys) (zRl (zTl T1 L1 it) sz) 0 0 (zN sz) := by
  refine Met.ofW (cc := cX8_told) (maxL := 7) (ret := (some .long)) (by decide +kernel) rfl ?_
  intro p e s m args below meth c s₁ B hml hv
  obtain ⟨rfl, hsz, hP, hK, hD0⟩ := hv
  have hx := B.exec
  have hb := B.bytes
  have hr := B.returns
  have hts := atoms_spec (ws := wsX8_told) B.pre
  have hown : s.vm.findClass RX8 = some m.cls := findClass_of_methodNamed B.named
  have hlocks := B.notSynchronized
  subst hsz
  have hD := hD0
  have hS : va_S (zN s.heap.size) s.heap s.heap [] := va_S.rf
  have hA : ∀ q9 : Nat, s.heap.size ≤ q9 → (zN s.heap.size) q9 := fun q9 h => h
  have hl := lv_entry ([.long (lI T1), .long (lI L1), .int (iI it)]) (n := 7) (Nat.le_of_ble_eq_true rfl)
  rw [lg_entry_eq]
  generalize (lg_sl ([.long (lI T1), .long (lI L1), .int (iI it)]) ++ List.replicate (7 - (lg_sl ([.long (lI T1), .long (lI L1), .int (iI it)])).length) Slot.unset).toArray = ls at hl ⊢
  have hl : lv_has ls 7 [(0, .long (lI T1)), (2, .long (lI L1)), (4, .int (iI it))] := hl
  have z1 := zGc_po (x := T1) g0
  have z2 := zGc_le (x := T1) g0 gL
  have J20 : ∀ (t2 : Int), (t2 = zTu L1 * zGc T1 L1) → (-1048576 ≤ t2 ∧ t2 ≤ 1048576 ∧ ¬ t2 = 0) → ∀ (H : Heap) (locs : List Loc) (ls : Array Slot), va_P D vwCl [] H → va_S (zN s.heap.size) s.heap H locs → lv_has ls 7 [(0, .long (lI T1)), (2, .long (lI L1)), (4, .int (iI it))] → W p l e (headSpec wsX8_told ({ frames := 1, cells := 0, slots := 0, locals := 29 })).room s m ([.long (lI T1), .long (lI L1), .int (iI it)] : List Value).toArray below meth c H locs 0 0 (MQ below (zRl (zTl T1 L1 it) s.heap.size) ([.long (lI T1), .long (lI L1), .int (iI it)] : List Value).toArray s 0 0 (zN s.heap.size)) (F0 m 20 ls [.long (lI t2)]) := by
    intro t2 e2 e3 H locs ls hP hS hl
    refine lv_lstore (lv' := [(5, .long (lI t2)), (0, .long (lI T1)), (2, .long (lI L1)), (4, .int (iI it))]) hx hb dX8_told_20 hl (by decide) rfl (fun ls hl => ?_)
    refine lv_iload hx hb dX8_told_22 (lv_at hl 3 rfl) ?_
    refine zi_if_eq (tgt := 34) hx hb dX8_told_24 (by decide) (by omega) (fun c24 => ?_) (fun c24 => ?_)
    · skip
      refine lv_lload_n hx hb dX8_told_34 rfl (lv_at hl 2 rfl) ?_
      refine lv_lload hx hb dX8_told_35 (lv_at hl 0 rfl) ?_
      refine zl_ldiv hx hb dX8_told_37 (by omega) (by omega) (by omega) (by omega) ?_
      exact W.lret (v := lI (L1.tdiv t2)) hx hb hr (fun t ht hW => ⟨⟨lI (L1.tdiv t2), (), rfl, congrArg lI (show L1.tdiv t2 = zTl T1 L1 it from by rw [e2]; unfold zTl; first | (rw [if_pos (by omega)]; exact zTl_d (zGc_dl _ _)) | (rw [if_neg (by omega)]; exact zTl_d (zGc_dr _ _)) | fail), trivial⟩, hS.F ht⟩) hS.2.2 dX8_told_38
    · skip
      refine lv_lload_n hx hb dX8_told_27 rfl (lv_at hl 1 rfl) ?_
      refine lv_lload hx hb dX8_told_28 (lv_at hl 0 rfl) ?_
      refine zl_ldiv hx hb dX8_told_30 (by omega) (by omega) (by omega) (by omega) ?_
      refine lv_goto (tgt := 38) hx hb dX8_told_31 (by decide) ?_
      exact W.lret (v := lI (T1.tdiv t2)) hx hb hr (fun t ht hW => ⟨⟨lI (T1.tdiv t2), (), rfl, congrArg lI (show T1.tdiv t2 = zTl T1 L1 it from by rw [e2]; unfold zTl; first | (rw [if_pos (by omega)]; exact zTl_d (zGc_dl _ _)) | (rw [if_neg (by omega)]; exact zTl_d (zGc_dr _ _)) | fail), trivial⟩, hS.F ht⟩) hS.2.2 dX8_told_38
  refine lv_lload_n hx hb dX8_told_0 rfl (lv_at hl 1 rfl) ?_
  refine lv_lconst (v := lI 0) hx hb dX8_told_1 (by decide +kernel) ?_
  refine zl_if_ge (tgt := 15) hx hb dX8_told_2 dX8_told_3 (by decide) (by omega) (by omega) (fun c2 => ?_) (fun c2 => ?_)
  · skip
    refine lv_lload_n hx hb dX8_told_15 rfl (lv_at hl 0 rfl) ?_
    refine lv_lload_n hx hb dX8_told_16 rfl (lv_at hl 1 rfl) ?_
    refine zc_rlS (As := [.long (lI T1), .long (lI L1)]) (rest := []) ⟨hx, hb, hml, hown, hts⟩ (c_X8_common l D _ tys cA hty T1 L1 (by omega) (by omega)) (va_cwS 2 hts gX8_told_X8_common rfl rfl rfl (by decide +kernel) ⟨(Nat.le_of_ble_eq_true rfl), (Nat.le_of_ble_eq_true rfl)⟩) hP hK hD hS hA [] rfl rfl rfl hl.1 rfl (Nat.le_of_ble_eq_true rfl) dX8_told_17 ⟨Nat.zero_le _, Nat.zero_le _⟩ (fun H locs hP hS => ?_)
    exact J20 (zGc T1 L1) (by first | (rw [show zTu L1 = -1 from if_pos (by omega)]; omega) | (rw [show zTu L1 = 1 from if_neg (by omega)]; omega) | fail | fail) (by omega) _ _ _ hP hS (lv_sub hl [0, 1, 2] rfl)
  · skip
    refine lv_lload_n hx hb dX8_told_6 rfl (lv_at hl 0 rfl) ?_
    refine lv_lload_n hx hb dX8_told_7 rfl (lv_at hl 1 rfl) ?_
    refine zc_rlS (As := [.long (lI T1), .long (lI L1)]) (rest := []) ⟨hx, hb, hml, hown, hts⟩ (c_X8_common l D _ tys cA hty T1 L1 (by omega) (by omega)) (va_cwS 2 hts gX8_told_X8_common rfl rfl rfl (by decide +kernel) ⟨(Nat.le_of_ble_eq_true rfl), (Nat.le_of_ble_eq_true rfl)⟩) hP hK hD hS hA [] rfl rfl rfl hl.1 rfl (Nat.le_of_ble_eq_true rfl) dX8_told_8 ⟨Nat.zero_le _, Nat.zero_le _⟩ (fun H locs hP hS => ?_)
    refine zl_lneg hx hb dX8_told_11 ?_
    refine lv_goto (tgt := 20) hx hb dX8_told_12 (by decide) ?_
    exact J20 (-(zGc T1 L1)) (by first | (rw [show zTu L1 = -1 from if_pos (by omega)]; omega) | (rw [show zTu L1 = 1 from if_neg (by omega)]; omega) | fail | fail) (by omega) _ _ _ hP hS (lv_sub hl [0, 1, 2] rfl)
