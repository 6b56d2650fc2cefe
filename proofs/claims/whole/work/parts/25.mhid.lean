theorem iz_X8_cross_X8 : ∀ w ∈ u_ws RX8 TX8 17, w ∈ wsX8_cross := by decide +kernel
set_option maxHeartbeats 4000000 in
set_option maxRecDepth 100000 in
/-- PowerPlotModel.cross -/
theorem c_X8_cross (l : Launch) (D : va_G) (sz : Nat) (tys : List (ClassId × FieldType)) (cA : ClassId) (hty : tys[0]? = some (cA, .int)) (q : Nat → Nat) (th N : Int) (Xs Ys Wt Cp sh kp : Int → Int) (iu ax ay ri lT lL hT hL ig : Int) (a1 b1 c1 : Int) (ga : 0 ≤ a1 ∧ a1 < 12) (gb : 0 ≤ b1 ∧ b1 < 12) (gc : 0 ≤ c1 ∧ c1 < 12) : Met l yX8_cross wsX8_cross ({ frames := 0, cells := 0, slots := 0, locals := 0 }) (zP D [.ref (q 0), .int (iI a1), .int (iI b1), .int (iI c1)] sz [(q 0, .inr (9, [.int (iI th), .int (iI N), .ref (q 1), .ref (q 2), .ref (q 3), .ref (q 4), .ref (q 5), .ref (q 6), .int (iI iu), .int (iI ax), .int (iI ay), .int (iI ri), .long (lI lT), .long (lI lL), .long (lI hT), .long (lI hL), .int (iI ig)])), (q 1, .inl (cA, 12, .inl (zF Xs))), (q 2, .inl (cA, 12, .inl (zF Ys))), (q 3, .inl (cA, 12, .inl (zF Wt))), (q 4, .inl (cA, 12, .inl (zF Cp))), (q 5, .inl (cA, 12, .inl (zF sh))), (q 6, .inl (cA, 12, .inl (zF kp)))] tys) (zRi (zCx Xs Ys a1 b1 c1) sz) 0 0 (zN sz) := by
  refine Met.ofW (cc := cX8_cross) (maxL := 4) (ret := (some .int)) (by decide +kernel) rfl ?_
  intro p e s m args below meth c s₁ B hml hv
  obtain ⟨rfl, hsz, hP, hK, hD0⟩ := hv
  have hx := B.exec
  have hb := B.bytes
  have hr := B.returns
  have hts := atoms_spec (ws := wsX8_cross) B.pre
  have hown : s.vm.findClass RX8 = some m.cls := findClass_of_methodNamed B.named
  have hlocks := B.notSynchronized
  subst hsz
  have hD := hD0
  have hS : va_S (zN s.heap.size) s.heap s.heap [] := va_S.rf
  have hA : ∀ q9 : Nat, s.heap.size ≤ q9 → (zN s.heap.size) q9 := fun q9 h => h
  have hl := lv_entry ([.ref (q 0), .int (iI a1), .int (iI b1), .int (iI c1)]) (n := 4) (Nat.le_of_ble_eq_true rfl)
  rw [lg_entry_eq]
  generalize (lg_sl ([.ref (q 0), .int (iI a1), .int (iI b1), .int (iI c1)]) ++ List.replicate (4 - (lg_sl ([.ref (q 0), .int (iI a1), .int (iI b1), .int (iI c1)])).length) Slot.unset).toArray = ls at hl ⊢
  have hl : lv_has ls 4 [(0, .ref (q 0)), (1, .int (iI a1)), (2, .int (iI b1)), (3, .int (iI c1))] := hl
  refine lv_aload_n hx hb dX8_cross_0 rfl (lv_at hl 0 rfl) ?_
  refine va_get (ci := 9) (v := .ref (q 1)) (C := RX8) (T := TX8) (N := 17) hx hb hts iz_X8_cross_X8 hown hK hP 0 rfl rfl 2 (by decide) (hts (.fieldLink RX8 7 "PowerPlotModel" "x" "[I") (by decide +kernel)) (fun _ h9 => h9) rfl dX8_cross_1 ?_
  refine lv_iload_n hx hb dX8_cross_4 rfl (lv_at hl 2 rfl) ?_
  refine zi_iald hx hb hK hP 1 0 rfl hty (by decide) (by omega) dX8_cross_5 ?_
  refine lv_aload_n hx hb dX8_cross_6 rfl (lv_at hl 0 rfl) ?_
  refine va_get (ci := 9) (v := .ref (q 1)) (C := RX8) (T := TX8) (N := 17) hx hb hts iz_X8_cross_X8 hown hK hP 0 rfl rfl 2 (by decide) (hts (.fieldLink RX8 7 "PowerPlotModel" "x" "[I") (by decide +kernel)) (fun _ h9 => h9) rfl dX8_cross_7 ?_
  refine lv_iload_n hx hb dX8_cross_10 rfl (lv_at hl 1 rfl) ?_
  refine zi_iald hx hb hK hP 1 0 rfl hty (by decide) (by omega) dX8_cross_11 ?_
  refine zi_isub hx hb dX8_cross_12 ?_
  refine lv_aload_n hx hb dX8_cross_13 rfl (lv_at hl 0 rfl) ?_
  refine va_get (ci := 9) (v := .ref (q 2)) (C := RX8) (T := TX8) (N := 17) hx hb hts iz_X8_cross_X8 hown hK hP 0 rfl rfl 3 (by decide) (hts (.fieldLink RX8 13 "PowerPlotModel" "y" "[I") (by decide +kernel)) (fun _ h9 => h9) rfl dX8_cross_14 ?_
  refine lv_iload_n hx hb dX8_cross_17 rfl (lv_at hl 3 rfl) ?_
  refine zi_iald hx hb hK hP 2 0 rfl hty (by decide) (by omega) dX8_cross_18 ?_
  refine lv_aload_n hx hb dX8_cross_19 rfl (lv_at hl 0 rfl) ?_
  refine va_get (ci := 9) (v := .ref (q 2)) (C := RX8) (T := TX8) (N := 17) hx hb hts iz_X8_cross_X8 hown hK hP 0 rfl rfl 3 (by decide) (hts (.fieldLink RX8 13 "PowerPlotModel" "y" "[I") (by decide +kernel)) (fun _ h9 => h9) rfl dX8_cross_20 ?_
  refine lv_iload_n hx hb dX8_cross_23 rfl (lv_at hl 1 rfl) ?_
  refine zi_iald hx hb hK hP 2 0 rfl hty (by decide) (by omega) dX8_cross_24 ?_
  refine zi_isub hx hb dX8_cross_25 ?_
  refine zi_imul hx hb dX8_cross_26 ?_
  refine lv_aload_n hx hb dX8_cross_27 rfl (lv_at hl 0 rfl) ?_
  refine va_get (ci := 9) (v := .ref (q 2)) (C := RX8) (T := TX8) (N := 17) hx hb hts iz_X8_cross_X8 hown hK hP 0 rfl rfl 3 (by decide) (hts (.fieldLink RX8 13 "PowerPlotModel" "y" "[I") (by decide +kernel)) (fun _ h9 => h9) rfl dX8_cross_28 ?_
  refine lv_iload_n hx hb dX8_cross_31 rfl (lv_at hl 2 rfl) ?_
  refine zi_iald hx hb hK hP 2 0 rfl hty (by decide) (by omega) dX8_cross_32 ?_
  refine lv_aload_n hx hb dX8_cross_33 rfl (lv_at hl 0 rfl) ?_
  refine va_get (ci := 9) (v := .ref (q 2)) (C := RX8) (T := TX8) (N := 17) hx hb hts iz_X8_cross_X8 hown hK hP 0 rfl rfl 3 (by decide) (hts (.fieldLink RX8 13 "PowerPlotModel" "y" "[I") (by decide +kernel)) (fun _ h9 => h9) rfl dX8_cross_34 ?_
  refine lv_iload_n hx hb dX8_cross_37 rfl (lv_at hl 1 rfl) ?_
  refine zi_iald hx hb hK hP 2 0 rfl hty (by decide) (by omega) dX8_cross_38 ?_
  refine zi_isub hx hb dX8_cross_39 ?_
  refine lv_aload_n hx hb dX8_cross_40 rfl (lv_at hl 0 rfl) ?_
  refine va_get (ci := 9) (v := .ref (q 1)) (C := RX8) (T := TX8) (N := 17) hx hb hts iz_X8_cross_X8 hown hK hP 0 rfl rfl 2 (by decide) (hts (.fieldLink RX8 7 "PowerPlotModel" "x" "[I") (by decide +kernel)) (fun _ h9 => h9) rfl dX8_cross_41 ?_
  refine lv_iload_n hx hb dX8_cross_44 rfl (lv_at hl 3 rfl) ?_
  refine zi_iald hx hb hK hP 1 0 rfl hty (by decide) (by omega) dX8_cross_45 ?_
  refine lv_aload_n hx hb dX8_cross_46 rfl (lv_at hl 0 rfl) ?_
  refine va_get (ci := 9) (v := .ref (q 1)) (C := RX8) (T := TX8) (N := 17) hx hb hts iz_X8_cross_X8 hown hK hP 0 rfl rfl 2 (by decide) (hts (.fieldLink RX8 7 "PowerPlotModel" "x" "[I") (by decide +kernel)) (fun _ h9 => h9) rfl dX8_cross_47 ?_
  refine lv_iload_n hx hb dX8_cross_50 rfl (lv_at hl 1 rfl) ?_
  refine zi_iald hx hb hK hP 1 0 rfl hty (by decide) (by omega) dX8_cross_51 ?_
  refine zi_isub hx hb dX8_cross_52 ?_
  refine zi_imul hx hb dX8_cross_53 ?_
  refine zi_isub hx hb dX8_cross_54 ?_
  exact W.iret (v := iI ((((Xs b1) - (Xs a1)) * ((Ys c1) - (Ys a1))) - (((Ys b1) - (Ys a1)) * ((Xs c1) - (Xs a1))))) hx hb hr (fun t ht hW => ⟨⟨iI ((((Xs b1) - (Xs a1)) * ((Ys c1) - (Ys a1))) - (((Ys b1) - (Ys a1)) * ((Xs c1) - (Xs a1)))), (), rfl, congrArg iI (show (((Xs b1) - (Xs a1)) * ((Ys c1) - (Ys a1))) - (((Ys b1) - (Ys a1)) * ((Xs c1) - (Xs a1))) = zCx Xs Ys a1 b1 c1 from by rfl), trivial⟩, hS.F ht⟩) hS.2.2 dX8_cross_55
theorem iz_X8_isOverPair_X8 : ∀ w ∈ u_ws RX8 TX8 17, w ∈ wsX8_isOverPair := by decide +kernel
set_option maxHeartbeats 4000000 in
set_option maxRecDepth 100000 in
/-- PowerPlotModel.isOverPair -/
theorem c_X8_isOverPair (l : Launch) (D : va_G) (sz : Nat) (tys : List (ClassId × FieldType)) (cA : ClassId) (hty : tys[0]? = some (cA, .int)) (q : Nat → Nat) (th N : Int) (Xs Ys Wt Cp sh kp : Int → Int) (iu ax ay ri lT lL hT hL ig : Int) (k a1 b1 : Int) (gB : zBd Xs Ys Wt) (gk : 0 ≤ k ∧ k < 12) (ga : 0 ≤ a1 ∧ a1 < 12) (gb : 0 ≤ b1 ∧ b1 < 12) : Met l yX8_isOverPair wsX8_isOverPair ({ frames := 1, cells := 0, slots := 0, locals := 23 }) (zP D [.ref (q 0), .int (iI k), .int (iI a1), .int (iI b1)] sz [(q 0, .inr (9, [.int (iI th), .int (iI N), .ref (q 1), .ref (q 2), .ref (q 3), .ref (q 4), .ref (q 5), .ref (q 6), .int (iI iu), .int (iI ax), .int (iI ay), .int (iI ri), .long (lI lT), .long (lI lL), .long (lI hT), .long (lI hL), .int (iI ig)])), (q 1, .inl (cA, 12, .inl (zF Xs))), (q 2, .inl (cA, 12, .inl (zF Ys))), (q 3, .inl (cA, 12, .inl (zF Wt))), (q 4, .inl (cA, 12, .inl (zF Cp))), (q 5, .inl (cA, 12, .inl (zF sh))), (q 6, .inl (cA, 12, .inl (zF kp)))] tys) (zRi (bI (zOp Xs Ys Wt k a1 b1)) sz) 0 0 (zN sz) := by
  refine Met.ofW (cc := cX8_isOverPair) (maxL := 10) (ret := (some .boolean)) (by decide +kernel) rfl ?_
  intro p e s m args below meth c s₁ B hml hv
  obtain ⟨rfl, hsz, hP, hK, hD0⟩ := hv
  have hx := B.exec
  have hb := B.bytes
  have hr := B.returns
  have hts := atoms_spec (ws := wsX8_isOverPair) B.pre
  have hown : s.vm.findClass RX8 = some m.cls := findClass_of_methodNamed B.named
  have hlocks := B.notSynchronized
  subst hsz
  have hD := hD0
  have hS : va_S (zN s.heap.size) s.heap s.heap [] := va_S.rf
  have hA : ∀ q9 : Nat, s.heap.size ≤ q9 → (zN s.heap.size) q9 := fun q9 h => h
  have hl := lv_entry ([.ref (q 0), .int (iI k), .int (iI a1), .int (iI b1)]) (n := 10) (Nat.le_of_ble_eq_true rfl)
  rw [lg_entry_eq]
  generalize (lg_sl ([.ref (q 0), .int (iI k), .int (iI a1), .int (iI b1)]) ++ List.replicate (10 - (lg_sl ([.ref (q 0), .int (iI k), .int (iI a1), .int (iI b1)])).length) Slot.unset).toArray = ls at hl ⊢
  have hl : lv_has ls 10 [(0, .ref (q 0)), (1, .int (iI k)), (2, .int (iI a1)), (3, .int (iI b1))] := hl
  have r1 := zAl_rg gB a1 b1
  have r2 := zPa_rg gB k a1 b1
  have r3 := zHt_rg gB k
  have r4 := zHt_rg gB a1
  have r5 := zHt_rg gB b1
  have r6 := zCx_rg gB a1 b1 k
  have m1 := zm_le (a := zHt Xs Ys Wt k) (b := zAl Xs Ys a1 b1) (A := 4199) (B := 3200) (by omega) (by omega)
  have m2 := zm_le (a := zHt Xs Ys Wt a1) (b := zAl Xs Ys a1 b1 - zPa Xs Ys k a1 b1) (A := 4199) (B := 6400) (by omega) (by omega)
  have m3 := zm_le (a := zHt Xs Ys Wt b1) (b := zPa Xs Ys k a1 b1) (A := 4199) (B := 3200) (by omega) (by omega)
  have r7 := gB.1 k
  have r8 := gB.1 a1
  have r9 := gB.2.1 k
  have r10 := gB.2.1 a1
  have e1 : (Xs b1 - Xs a1) * (Xs b1 - Xs a1) + (Ys b1 - Ys a1) * (Ys b1 - Ys a1) = zAl Xs Ys a1 b1 := rfl
  have e2 : (Xs k - Xs a1) * (Xs b1 - Xs a1) + (Ys k - Ys a1) * (Ys b1 - Ys a1) = zPa Xs Ys k a1 b1 := rfl
  refine lv_aload_n hx hb dX8_isOverPair_0 rfl (lv_at hl 0 rfl) ?_
  refine va_get (ci := 9) (v := .ref (q 1)) (C := RX8) (T := TX8) (N := 17) hx hb hts iz_X8_isOverPair_X8 hown hK hP 0 rfl rfl 2 (by decide) (hts (.fieldLink RX8 7 "PowerPlotModel" "x" "[I") (by decide +kernel)) (fun _ h9 => h9) rfl dX8_isOverPair_1 ?_
  refine lv_iload_n hx hb dX8_isOverPair_4 rfl (lv_at hl 3 rfl) ?_
  refine zi_iald hx hb hK hP 1 0 rfl hty (by decide) (by omega) dX8_isOverPair_5 ?_
  refine lv_aload_n hx hb dX8_isOverPair_6 rfl (lv_at hl 0 rfl) ?_
  refine va_get (ci := 9) (v := .ref (q 1)) (C := RX8) (T := TX8) (N := 17) hx hb hts iz_X8_isOverPair_X8 hown hK hP 0 rfl rfl 2 (by decide) (hts (.fieldLink RX8 7 "PowerPlotModel" "x" "[I") (by decide +kernel)) (fun _ h9 => h9) rfl dX8_isOverPair_7 ?_
  refine lv_iload_n hx hb dX8_isOverPair_10 rfl (lv_at hl 2 rfl) ?_
  refine zi_iald hx hb hK hP 1 0 rfl hty (by decide) (by omega) dX8_isOverPair_11 ?_
  refine zi_isub hx hb dX8_isOverPair_12 ?_
  refine lv_istore (lv' := [(4, .int (iI ((Xs b1) - (Xs a1)))), (0, .ref (q 0)), (1, .int (iI k)), (2, .int (iI a1)), (3, .int (iI b1))]) hx hb dX8_isOverPair_13 hl (by decide) rfl (fun ls hl => ?_)
  refine lv_aload_n hx hb dX8_isOverPair_15 rfl (lv_at hl 1 rfl) ?_
  refine va_get (ci := 9) (v := .ref (q 2)) (C := RX8) (T := TX8) (N := 17) hx hb hts iz_X8_isOverPair_X8 hown hK hP 0 rfl rfl 3 (by decide) (hts (.fieldLink RX8 13 "PowerPlotModel" "y" "[I") (by decide +kernel)) (fun _ h9 => h9) rfl dX8_isOverPair_16 ?_
  refine lv_iload_n hx hb dX8_isOverPair_19 rfl (lv_at hl 4 rfl) ?_
  refine zi_iald hx hb hK hP 2 0 rfl hty (by decide) (by omega) dX8_isOverPair_20 ?_
  refine lv_aload_n hx hb dX8_isOverPair_21 rfl (lv_at hl 1 rfl) ?_
  refine va_get (ci := 9) (v := .ref (q 2)) (C := RX8) (T := TX8) (N := 17) hx hb hts iz_X8_isOverPair_X8 hown hK hP 0 rfl rfl 3 (by decide) (hts (.fieldLink RX8 13 "PowerPlotModel" "y" "[I") (by decide +kernel)) (fun _ h9 => h9) rfl dX8_isOverPair_22 ?_
  refine lv_iload_n hx hb dX8_isOverPair_25 rfl (lv_at hl 3 rfl) ?_
  refine zi_iald hx hb hK hP 2 0 rfl hty (by decide) (by omega) dX8_isOverPair_26 ?_
  refine zi_isub hx hb dX8_isOverPair_27 ?_
  refine lv_istore (lv' := [(5, .int (iI ((Ys b1) - (Ys a1)))), (4, .int (iI ((Xs b1) - (Xs a1)))), (0, .ref (q 0)), (1, .int (iI k)), (2, .int (iI a1)), (3, .int (iI b1))]) hx hb dX8_isOverPair_28 hl (by decide) rfl (fun ls hl => ?_)
  refine lv_iload hx hb dX8_isOverPair_30 (lv_at hl 1 rfl) ?_
  refine lv_iload hx hb dX8_isOverPair_32 (lv_at hl 1 rfl) ?_
  refine zi_imul hx hb dX8_isOverPair_34 ?_
  refine lv_iload hx hb dX8_isOverPair_35 (lv_at hl 0 rfl) ?_
  refine lv_iload hx hb dX8_isOverPair_37 (lv_at hl 0 rfl) ?_
  refine zi_imul hx hb dX8_isOverPair_39 ?_
  refine zi_iadd hx hb dX8_isOverPair_40 ?_
  refine zi_as (show (((Xs b1) - (Xs a1)) * ((Xs b1) - (Xs a1))) + (((Ys b1) - (Ys a1)) * ((Ys b1) - (Ys a1))) = zAl Xs Ys a1 b1 from rfl) ?_
  refine zi_i2l hx hb dX8_isOverPair_41 (by omega) ?_
  refine lv_lstore (lv' := [(6, .long (lI (zAl Xs Ys a1 b1))), (5, .int (iI ((Ys b1) - (Ys a1)))), (4, .int (iI ((Xs b1) - (Xs a1)))), (0, .ref (q 0)), (1, .int (iI k)), (2, .int (iI a1)), (3, .int (iI b1))]) hx hb dX8_isOverPair_42 hl (by decide) rfl (fun ls hl => ?_)
  refine lv_aload_n hx hb dX8_isOverPair_44 rfl (lv_at hl 3 rfl) ?_
  refine va_get (ci := 9) (v := .ref (q 1)) (C := RX8) (T := TX8) (N := 17) hx hb hts iz_X8_isOverPair_X8 hown hK hP 0 rfl rfl 2 (by decide) (hts (.fieldLink RX8 7 "PowerPlotModel" "x" "[I") (by decide +kernel)) (fun _ h9 => h9) rfl dX8_isOverPair_45 ?_
  refine lv_iload_n hx hb dX8_isOverPair_48 rfl (lv_at hl 4 rfl) ?_
  refine zi_iald hx hb hK hP 1 0 rfl hty (by decide) (by omega) dX8_isOverPair_49 ?_
  refine lv_aload_n hx hb dX8_isOverPair_50 rfl (lv_at hl 3 rfl) ?_
  refine va_get (ci := 9) (v := .ref (q 1)) (C := RX8) (T := TX8) (N := 17) hx hb hts iz_X8_isOverPair_X8 hown hK hP 0 rfl rfl 2 (by decide) (hts (.fieldLink RX8 7 "PowerPlotModel" "x" "[I") (by decide +kernel)) (fun _ h9 => h9) rfl dX8_isOverPair_51 ?_
  refine lv_iload_n hx hb dX8_isOverPair_54 rfl (lv_at hl 5 rfl) ?_
  refine zi_iald hx hb hK hP 1 0 rfl hty (by decide) (by omega) dX8_isOverPair_55 ?_
  refine zi_isub hx hb dX8_isOverPair_56 ?_
  refine lv_iload hx hb dX8_isOverPair_57 (lv_at hl 2 rfl) ?_
  refine zi_imul hx hb dX8_isOverPair_59 ?_
  refine lv_aload_n hx hb dX8_isOverPair_60 rfl (lv_at hl 3 rfl) ?_
  refine va_get (ci := 9) (v := .ref (q 2)) (C := RX8) (T := TX8) (N := 17) hx hb hts iz_X8_isOverPair_X8 hown hK hP 0 rfl rfl 3 (by decide) (hts (.fieldLink RX8 13 "PowerPlotModel" "y" "[I") (by decide +kernel)) (fun _ h9 => h9) rfl dX8_isOverPair_61 ?_
  refine lv_iload_n hx hb dX8_isOverPair_64 rfl (lv_at hl 4 rfl) ?_
  refine zi_iald hx hb hK hP 2 0 rfl hty (by decide) (by omega) dX8_isOverPair_65 ?_
  refine lv_aload_n hx hb dX8_isOverPair_66 rfl (lv_at hl 3 rfl) ?_
  refine va_get (ci := 9) (v := .ref (q 2)) (C := RX8) (T := TX8) (N := 17) hx hb hts iz_X8_isOverPair_X8 hown hK hP 0 rfl rfl 3 (by decide) (hts (.fieldLink RX8 13 "PowerPlotModel" "y" "[I") (by decide +kernel)) (fun _ h9 => h9) rfl dX8_isOverPair_67 ?_
  refine lv_iload_n hx hb dX8_isOverPair_70 rfl (lv_at hl 5 rfl) ?_
  refine zi_iald hx hb hK hP 2 0 rfl hty (by decide) (by omega) dX8_isOverPair_71 ?_
  refine zi_isub hx hb dX8_isOverPair_72 ?_
  refine lv_iload hx hb dX8_isOverPair_73 (lv_at hl 1 rfl) ?_
  refine zi_imul hx hb dX8_isOverPair_75 ?_
  refine zi_iadd hx hb dX8_isOverPair_76 ?_
  refine zi_as (show (((Xs k) - (Xs a1)) * ((Xs b1) - (Xs a1))) + (((Ys k) - (Ys a1)) * ((Ys b1) - (Ys a1))) = zPa Xs Ys k a1 b1 from rfl) ?_
  refine zi_i2l hx hb dX8_isOverPair_77 (by omega) ?_
  refine lv_lstore (lv' := [(8, .long (lI (zPa Xs Ys k a1 b1))), (6, .long (lI (zAl Xs Ys a1 b1))), (5, .int (iI ((Ys b1) - (Ys a1)))), (4, .int (iI ((Xs b1) - (Xs a1)))), (0, .ref (q 0)), (1, .int (iI k)), (2, .int (iI a1)), (3, .int (iI b1))]) hx hb dX8_isOverPair_78 hl (by decide) rfl (fun ls hl => ?_)
  refine lv_lload hx hb dX8_isOverPair_80 (lv_at hl 1 rfl) ?_
  refine lv_lconst (v := lI 0) hx hb dX8_isOverPair_82 (by decide +kernel) ?_
  refine zl_if_ne (tgt := 149) hx hb dX8_isOverPair_83 dX8_isOverPair_84 (by decide) (by omega) (by omega) (fun c83 => ?_) (fun c83 => ?_)
  · skip
    refine lv_aload_n hx hb dX8_isOverPair_149 rfl (lv_at hl 4 rfl) ?_
    refine lv_iload_n hx hb dX8_isOverPair_150 rfl (lv_at hl 6 rfl) ?_
    refine lv_iload_n hx hb dX8_isOverPair_151 rfl (lv_at hl 7 rfl) ?_
    refine lv_iload_n hx hb dX8_isOverPair_152 rfl (lv_at hl 5 rfl) ?_
    refine zc_ri (As := [.int (iI a1), .int (iI b1), .int (iI k)]) (rest := []) ⟨hx, hb, hml, hown, hts⟩ (c_X8_cross l D _ tys cA hty q th N Xs Ys Wt Cp sh kp iu ax ay ri lT lL hT hL ig a1 b1 k (by omega) (by omega) (by omega)) (cwV 3 hts gX8_isOverPair_X8_cross rfl rfl rfl (by decide +kernel) ⟨(Nat.le_of_ble_eq_true rfl), (Nat.le_of_ble_eq_true rfl)⟩) hP hK hD hS hA [0, 1, 2, 3, 4, 5, 6] rfl rfl rfl rfl rfl hl.1 rfl (Nat.le_of_ble_eq_true rfl) dX8_isOverPair_153 ⟨Nat.zero_le _, Nat.zero_le _⟩ (fun H locs hP hS => ?_)
    refine zi_if_ne (tgt := 213) hx hb dX8_isOverPair_156 (by decide) (by omega) (fun c156 => ?_) (fun c156 => ?_)
    · skip
      refine lv_iconst (v := iI 0) hx hb dX8_isOverPair_213 rfl ?_
      exact W.zret (v := iI 0) (ty := .boolean) hx hb hr (by decide) (fun t ht hW => ⟨⟨iI 0, (), rfl, congrArg iI (show 0 = bI (zOp Xs Ys Wt k a1 b1) from by first | exact (bI_t (by unfold zOp; omega)).symm | exact (bI_f (by unfold zOp; omega)).symm | fail), trivial⟩, hS.F ht⟩) hS.2.2 dX8_isOverPair_214
    · skip
      refine lv_lload hx hb dX8_isOverPair_159 (lv_at hl 0 rfl) ?_
      refine lv_lconst (v := lI 0) hx hb dX8_isOverPair_161 (by decide +kernel) ?_
      refine zl_if_lt (tgt := 213) hx hb dX8_isOverPair_162 dX8_isOverPair_163 (by decide) (by omega) (by omega) (fun c162 => ?_) (fun c162 => ?_)
      · skip
        refine lv_iconst (v := iI 0) hx hb dX8_isOverPair_213 rfl ?_
        exact W.zret (v := iI 0) (ty := .boolean) hx hb hr (by decide) (fun t ht hW => ⟨⟨iI 0, (), rfl, congrArg iI (show 0 = bI (zOp Xs Ys Wt k a1 b1) from by first | exact (bI_t (by unfold zOp; omega)).symm | exact (bI_f (by unfold zOp; omega)).symm | fail), trivial⟩, hS.F ht⟩) hS.2.2 dX8_isOverPair_214
      · skip
        refine lv_lload hx hb dX8_isOverPair_166 (lv_at hl 0 rfl) ?_
        refine lv_lload hx hb dX8_isOverPair_168 (lv_at hl 1 rfl) ?_
        refine zl_if_gt (tgt := 213) hx hb dX8_isOverPair_170 dX8_isOverPair_171 (by decide) (by omega) (by omega) (fun c170 => ?_) (fun c170 => ?_)
        · skip
          refine lv_iconst (v := iI 0) hx hb dX8_isOverPair_213 rfl ?_
          exact W.zret (v := iI 0) (ty := .boolean) hx hb hr (by decide) (fun t ht hW => ⟨⟨iI 0, (), rfl, congrArg iI (show 0 = bI (zOp Xs Ys Wt k a1 b1) from by first | exact (bI_t (by unfold zOp; omega)).symm | exact (bI_f (by unfold zOp; omega)).symm | fail), trivial⟩, hS.F ht⟩) hS.2.2 dX8_isOverPair_214
        · skip
          refine lv_aload_n hx hb dX8_isOverPair_174 rfl (lv_at hl 4 rfl) ?_
          refine lv_iload_n hx hb dX8_isOverPair_175 rfl (lv_at hl 5 rfl) ?_
          refine zc_ri (As := [.int (iI k)]) (rest := []) ⟨hx, hb, hml, hown, hts⟩ (c_X8_height l D _ tys cA hty q th N Xs Ys Wt Cp sh kp iu ax ay ri lT lL hT hL ig k (by omega)) (cwV 1 hts gX8_isOverPair_X8_height rfl rfl rfl (by decide +kernel) ⟨(Nat.le_of_ble_eq_true rfl), (Nat.le_of_ble_eq_true rfl)⟩) hP hK hD hS hA [0, 1, 2, 3, 4, 5, 6] rfl rfl rfl rfl rfl hl.1 rfl (Nat.le_of_ble_eq_true rfl) dX8_isOverPair_176 ⟨Nat.zero_le _, Nat.zero_le _⟩ (fun H locs hP hS => ?_)
          refine zi_i2l hx hb dX8_isOverPair_179 (by omega) ?_
          refine lv_lload hx hb dX8_isOverPair_180 (lv_at hl 1 rfl) ?_
          refine zl_lmul hx hb dX8_isOverPair_182 ?_
          refine lv_aload_n hx hb dX8_isOverPair_183 rfl (lv_at hl 4 rfl) ?_
          refine lv_iload_n hx hb dX8_isOverPair_184 rfl (lv_at hl 6 rfl) ?_
          refine zc_ri (As := [.int (iI a1)]) (rest := [.long (lI ((zHt Xs Ys Wt k) * (zAl Xs Ys a1 b1)))]) ⟨hx, hb, hml, hown, hts⟩ (c_X8_height l D _ tys cA hty q th N Xs Ys Wt Cp sh kp iu ax ay ri lT lL hT hL ig a1 (by omega)) (cwV 1 hts gX8_isOverPair_X8_height rfl rfl rfl (by decide +kernel) ⟨(Nat.le_of_ble_eq_true rfl), (Nat.le_of_ble_eq_true rfl)⟩) hP hK hD hS hA [0, 1, 2, 3, 4, 5, 6] rfl rfl rfl rfl rfl hl.1 rfl (Nat.le_of_ble_eq_true rfl) dX8_isOverPair_185 ⟨Nat.zero_le _, Nat.zero_le _⟩ (fun H locs hP hS => ?_)
          refine zi_i2l hx hb dX8_isOverPair_188 (by omega) ?_
          refine lv_lload hx hb dX8_isOverPair_189 (lv_at hl 1 rfl) ?_
          refine lv_lload hx hb dX8_isOverPair_191 (lv_at hl 0 rfl) ?_
          refine zl_lsub hx hb dX8_isOverPair_193 ?_
          refine zl_lmul hx hb dX8_isOverPair_194 ?_
          refine lv_aload_n hx hb dX8_isOverPair_195 rfl (lv_at hl 4 rfl) ?_
          refine lv_iload_n hx hb dX8_isOverPair_196 rfl (lv_at hl 7 rfl) ?_
          refine zc_ri (As := [.int (iI b1)]) (rest := [.long (lI ((zHt Xs Ys Wt a1) * ((zAl Xs Ys a1 b1) - (zPa Xs Ys k a1 b1)))), .long (lI ((zHt Xs Ys Wt k) * (zAl Xs Ys a1 b1)))]) ⟨hx, hb, hml, hown, hts⟩ (c_X8_height l D _ tys cA hty q th N Xs Ys Wt Cp sh kp iu ax ay ri lT lL hT hL ig b1 (by omega)) (cwV 1 hts gX8_isOverPair_X8_height rfl rfl rfl (by decide +kernel) ⟨(Nat.le_of_ble_eq_true rfl), (Nat.le_of_ble_eq_true rfl)⟩) hP hK hD hS hA [0, 1, 2, 3, 4, 5, 6] rfl rfl rfl rfl rfl hl.1 rfl (Nat.le_of_ble_eq_true rfl) dX8_isOverPair_197 ⟨Nat.zero_le _, Nat.zero_le _⟩ (fun H locs hP hS => ?_)
          refine zi_i2l hx hb dX8_isOverPair_200 (by omega) ?_
          refine lv_lload hx hb dX8_isOverPair_201 (lv_at hl 0 rfl) ?_
          refine zl_lmul hx hb dX8_isOverPair_203 ?_
          refine zl_ladd hx hb dX8_isOverPair_204 ?_
          refine zl_if_lt (tgt := 213) hx hb dX8_isOverPair_205 dX8_isOverPair_206 (by decide) (by omega) (by omega) (fun c205 => ?_) (fun c205 => ?_)
          · skip
            refine lv_iconst (v := iI 0) hx hb dX8_isOverPair_213 rfl ?_
            exact W.zret (v := iI 0) (ty := .boolean) hx hb hr (by decide) (fun t ht hW => ⟨⟨iI 0, (), rfl, congrArg iI (show 0 = bI (zOp Xs Ys Wt k a1 b1) from by first | exact (bI_t (by unfold zOp; omega)).symm | exact (bI_f (by unfold zOp; omega)).symm | fail), trivial⟩, hS.F ht⟩) hS.2.2 dX8_isOverPair_214
          · skip
            refine lv_iconst (v := iI 1) hx hb dX8_isOverPair_209 rfl ?_
            refine lv_goto (tgt := 214) hx hb dX8_isOverPair_210 (by decide) ?_
            exact W.zret (v := iI 1) (ty := .boolean) hx hb hr (by decide) (fun t ht hW => ⟨⟨iI 1, (), rfl, congrArg iI (show 1 = bI (zOp Xs Ys Wt k a1 b1) from by first | exact (bI_t (by unfold zOp; omega)).symm | exact (bI_f (by unfold zOp; omega)).symm | fail), trivial⟩, hS.F ht⟩) hS.2.2 dX8_isOverPair_214
  · skip
    refine lv_aload_n hx hb dX8_isOverPair_87 rfl (lv_at hl 4 rfl) ?_
    refine va_get (ci := 9) (v := .ref (q 1)) (C := RX8) (T := TX8) (N := 17) hx hb hts iz_X8_isOverPair_X8 hown hK hP 0 rfl rfl 2 (by decide) (hts (.fieldLink RX8 7 "PowerPlotModel" "x" "[I") (by decide +kernel)) (fun _ h9 => h9) rfl dX8_isOverPair_88 ?_
    refine lv_iload_n hx hb dX8_isOverPair_91 rfl (lv_at hl 5 rfl) ?_
    refine zi_iald hx hb hK hP 1 0 rfl hty (by decide) (by omega) dX8_isOverPair_92 ?_
    refine lv_aload_n hx hb dX8_isOverPair_93 rfl (lv_at hl 4 rfl) ?_
    refine va_get (ci := 9) (v := .ref (q 1)) (C := RX8) (T := TX8) (N := 17) hx hb hts iz_X8_isOverPair_X8 hown hK hP 0 rfl rfl 2 (by decide) (hts (.fieldLink RX8 7 "PowerPlotModel" "x" "[I") (by decide +kernel)) (fun _ h9 => h9) rfl dX8_isOverPair_94 ?_
    refine lv_iload_n hx hb dX8_isOverPair_97 rfl (lv_at hl 6 rfl) ?_
    refine zi_iald hx hb hK hP 1 0 rfl hty (by decide) (by omega) dX8_isOverPair_98 ?_
    refine zi_icmp_ne (tgt := 147) hx hb dX8_isOverPair_99 (by decide) (by omega) (by omega) (fun c99 => ?_) (fun c99 => ?_)
    · skip
      refine lv_iconst (v := iI 0) hx hb dX8_isOverPair_147 rfl ?_
      exact W.zret (v := iI 0) (ty := .boolean) hx hb hr (by decide) (fun t ht hW => ⟨⟨iI 0, (), rfl, congrArg iI (show 0 = bI (zOp Xs Ys Wt k a1 b1) from by first | exact (bI_t (by unfold zOp; omega)).symm | exact (bI_f (by unfold zOp; omega)).symm | fail), trivial⟩, hS.F ht⟩) hS.2.2 dX8_isOverPair_148
    · skip
      refine lv_aload_n hx hb dX8_isOverPair_102 rfl (lv_at hl 4 rfl) ?_
      refine va_get (ci := 9) (v := .ref (q 2)) (C := RX8) (T := TX8) (N := 17) hx hb hts iz_X8_isOverPair_X8 hown hK hP 0 rfl rfl 3 (by decide) (hts (.fieldLink RX8 13 "PowerPlotModel" "y" "[I") (by decide +kernel)) (fun _ h9 => h9) rfl dX8_isOverPair_103 ?_
      refine lv_iload_n hx hb dX8_isOverPair_106 rfl (lv_at hl 5 rfl) ?_
      refine zi_iald hx hb hK hP 2 0 rfl hty (by decide) (by omega) dX8_isOverPair_107 ?_
      refine lv_aload_n hx hb dX8_isOverPair_108 rfl (lv_at hl 4 rfl) ?_
      refine va_get (ci := 9) (v := .ref (q 2)) (C := RX8) (T := TX8) (N := 17) hx hb hts iz_X8_isOverPair_X8 hown hK hP 0 rfl rfl 3 (by decide) (hts (.fieldLink RX8 13 "PowerPlotModel" "y" "[I") (by decide +kernel)) (fun _ h9 => h9) rfl dX8_isOverPair_109 ?_
      refine lv_iload_n hx hb dX8_isOverPair_112 rfl (lv_at hl 6 rfl) ?_
      refine zi_iald hx hb hK hP 2 0 rfl hty (by decide) (by omega) dX8_isOverPair_113 ?_
      refine zi_icmp_ne (tgt := 147) hx hb dX8_isOverPair_114 (by decide) (by omega) (by omega) (fun c114 => ?_) (fun c114 => ?_)
      · skip
        refine lv_iconst (v := iI 0) hx hb dX8_isOverPair_147 rfl ?_
        exact W.zret (v := iI 0) (ty := .boolean) hx hb hr (by decide) (fun t ht hW => ⟨⟨iI 0, (), rfl, congrArg iI (show 0 = bI (zOp Xs Ys Wt k a1 b1) from by first | exact (bI_t (by unfold zOp; omega)).symm | exact (bI_f (by unfold zOp; omega)).symm | fail), trivial⟩, hS.F ht⟩) hS.2.2 dX8_isOverPair_148
      · skip
        refine lv_aload_n hx hb dX8_isOverPair_117 rfl (lv_at hl 4 rfl) ?_
        refine lv_iload_n hx hb dX8_isOverPair_118 rfl (lv_at hl 5 rfl) ?_
        refine zc_ri (As := [.int (iI k)]) (rest := []) ⟨hx, hb, hml, hown, hts⟩ (c_X8_height l D _ tys cA hty q th N Xs Ys Wt Cp sh kp iu ax ay ri lT lL hT hL ig k (by omega)) (cwV 1 hts gX8_isOverPair_X8_height rfl rfl rfl (by decide +kernel) ⟨(Nat.le_of_ble_eq_true rfl), (Nat.le_of_ble_eq_true rfl)⟩) hP hK hD hS hA [0, 1, 2, 3, 4, 5, 6] rfl rfl rfl rfl rfl hl.1 rfl (Nat.le_of_ble_eq_true rfl) dX8_isOverPair_119 ⟨Nat.zero_le _, Nat.zero_le _⟩ (fun H locs hP hS => ?_)
        refine lv_aload_n hx hb dX8_isOverPair_122 rfl (lv_at hl 4 rfl) ?_
        refine lv_iload_n hx hb dX8_isOverPair_123 rfl (lv_at hl 6 rfl) ?_
        refine zc_ri (As := [.int (iI a1)]) (rest := [.int (iI (zHt Xs Ys Wt k))]) ⟨hx, hb, hml, hown, hts⟩ (c_X8_height l D _ tys cA hty q th N Xs Ys Wt Cp sh kp iu ax ay ri lT lL hT hL ig a1 (by omega)) (cwV 1 hts gX8_isOverPair_X8_height rfl rfl rfl (by decide +kernel) ⟨(Nat.le_of_ble_eq_true rfl), (Nat.le_of_ble_eq_true rfl)⟩) hP hK hD hS hA [0, 1, 2, 3, 4, 5, 6] rfl rfl rfl rfl rfl hl.1 rfl (Nat.le_of_ble_eq_true rfl) dX8_isOverPair_124 ⟨Nat.zero_le _, Nat.zero_le _⟩ (fun H locs hP hS => ?_)
        refine zi_icmp_ge (tgt := 143) hx hb dX8_isOverPair_127 (by decide) (by omega) (by omega) (fun c127 => ?_) (fun c127 => ?_)
        · skip
          refine lv_iconst (v := iI 1) hx hb dX8_isOverPair_143 rfl ?_
          refine lv_goto (tgt := 148) hx hb dX8_isOverPair_144 (by decide) ?_
          exact W.zret (v := iI 1) (ty := .boolean) hx hb hr (by decide) (fun t ht hW => ⟨⟨iI 1, (), rfl, congrArg iI (show 1 = bI (zOp Xs Ys Wt k a1 b1) from by first | exact (bI_t (by unfold zOp; omega)).symm | exact (bI_f (by unfold zOp; omega)).symm | fail), trivial⟩, hS.F ht⟩) hS.2.2 dX8_isOverPair_148
        · skip
          refine lv_aload_n hx hb dX8_isOverPair_130 rfl (lv_at hl 4 rfl) ?_
          refine lv_iload_n hx hb dX8_isOverPair_131 rfl (lv_at hl 5 rfl) ?_
          refine zc_ri (As := [.int (iI k)]) (rest := []) ⟨hx, hb, hml, hown, hts⟩ (c_X8_height l D _ tys cA hty q th N Xs Ys Wt Cp sh kp iu ax ay ri lT lL hT hL ig k (by omega)) (cwV 1 hts gX8_isOverPair_X8_height rfl rfl rfl (by decide +kernel) ⟨(Nat.le_of_ble_eq_true rfl), (Nat.le_of_ble_eq_true rfl)⟩) hP hK hD hS hA [0, 1, 2, 3, 4, 5, 6] rfl rfl rfl rfl rfl hl.1 rfl (Nat.le_of_ble_eq_true rfl) dX8_isOverPair_132 ⟨Nat.zero_le _, Nat.zero_le _⟩ (fun H locs hP hS => ?_)
          refine lv_aload_n hx hb dX8_isOverPair_135 rfl (lv_at hl 4 rfl) ?_
          refine lv_iload_n hx hb dX8_isOverPair_136 rfl (lv_at hl 7 rfl) ?_
          refine zc_ri (As := [.int (iI b1)]) (rest := [.int (iI (zHt Xs Ys Wt k))]) ⟨hx, hb, hml, hown, hts⟩ (c_X8_height l D _ tys cA hty q th N Xs Ys Wt Cp sh kp iu ax ay ri lT lL hT hL ig b1 (by omega)) (cwV 1 hts gX8_isOverPair_X8_height rfl rfl rfl (by decide +kernel) ⟨(Nat.le_of_ble_eq_true rfl), (Nat.le_of_ble_eq_true rfl)⟩) hP hK hD hS hA [0, 1, 2, 3, 4, 5, 6] rfl rfl rfl rfl rfl hl.1 rfl (Nat.le_of_ble_eq_true rfl) dX8_isOverPair_137 ⟨Nat.zero_le _, Nat.zero_le _⟩ (fun H locs hP hS => ?_)
          refine zi_icmp_lt (tgt := 147) hx hb dX8_isOverPair_140 (by decide) (by omega) (by omega) (fun c140 => ?_) (fun c140 => ?_)
          · skip
            refine lv_iconst (v := iI 0) hx hb dX8_isOverPair_147 rfl ?_
            exact W.zret (v := iI 0) (ty := .boolean) hx hb hr (by decide) (fun t ht hW => ⟨⟨iI 0, (), rfl, congrArg iI (show 0 = bI (zOp Xs Ys Wt k a1 b1) from by first | exact (bI_t (by unfold zOp; omega)).symm | exact (bI_f (by unfold zOp; omega)).symm | fail), trivial⟩, hS.F ht⟩) hS.2.2 dX8_isOverPair_148
          · skip
            refine lv_iconst (v := iI 1) hx hb dX8_isOverPair_143 rfl ?_
            refine lv_goto (tgt := 148) hx hb dX8_isOverPair_144 (by decide) ?_
            exact W.zret (v := iI 1) (ty := .boolean) hx hb hr (by decide) (fun t ht hW => ⟨⟨iI 1, (), rfl, congrArg iI (show 1 = bI (zOp Xs Ys Wt k a1 b1) from by first | exact (bI_t (by unfold zOp; omega)).symm | exact (bI_f (by unfold zOp; omega)).symm | fail), trivial⟩, hS.F ht⟩) hS.2.2 dX8_isOverPair_148
set_option maxHeartbeats 4000000 in
set_option maxRecDepth 100000 in
/-- PowerPlotModel.isOverTriangle -/
theorem c_X8_isOverTriangle (l : Launch) (D : va_G) (sz : Nat) (tys : List (ClassId × FieldType)) (cA : ClassId) (hty : tys[0]? = some (cA, .int)) (q : Nat → Nat) (th N : Int) (Xs Ys Wt Cp sh kp : Int → Int) (iu ax ay ri lT lL hT hL ig : Int) (k a1 b1 c1 : Int) (gB : zBd Xs Ys Wt) (gk : 0 ≤ k ∧ k < 12) (ga : 0 ≤ a1 ∧ a1 < 12) (gb : 0 ≤ b1 ∧ b1 < 12) (gc : 0 ≤ c1 ∧ c1 < 12) : Met l yX8_isOverTriangle wsX8_isOverTriangle ({ frames := 1, cells := 0, slots := 0, locals := 23 }) (zP D [.ref (q 0), .int (iI k), .int (iI a1), .int (iI b1), .int (iI c1)] sz [(q 0, .inr (9, [.int (iI th), .int (iI N), .ref (q 1), .ref (q 2), .ref (q 3), .ref (q 4), .ref (q 5), .ref (q 6), .int (iI iu), .int (iI ax), .int (iI ay), .int (iI ri), .long (lI lT), .long (lI lL), .long (lI hT), .long (lI hL), .int (iI ig)])), (q 1, .inl (cA, 12, .inl (zF Xs))), (q 2, .inl (cA, 12, .inl (zF Ys))), (q 3, .inl (cA, 12, .inl (zF Wt))), (q 4, .inl (cA, 12, .inl (zF Cp))), (q 5, .inl (cA, 12, .inl (zF sh))), (q 6, .inl (cA, 12, .inl (zF kp)))] tys) (zRi (bI (zOt Xs Ys Wt k a1 b1 c1)) sz) 0 0 (zN sz) := by
  refine Met.ofW (cc := cX8_isOverTriangle) (maxL := 16) (ret := (some .boolean)) (by decide +kernel) rfl ?_
  intro p e s m args below meth c s₁ B hml hv
  obtain ⟨rfl, hsz, hP, hK, hD0⟩ := hv
  have hx := B.exec
  have hb := B.bytes
  have hr := B.returns
  have hts := atoms_spec (ws := wsX8_isOverTriangle) B.pre
  have hown : s.vm.findClass RX8 = some m.cls := findClass_of_methodNamed B.named
  have hlocks := B.notSynchronized
  subst hsz
  have hD := hD0
  have hS : va_S (zN s.heap.size) s.heap s.heap [] := va_S.rf
  have hA : ∀ q9 : Nat, s.heap.size ≤ q9 → (zN s.heap.size) q9 := fun q9 h => h
  have hl := lv_entry ([.ref (q 0), .int (iI k), .int (iI a1), .int (iI b1), .int (iI c1)]) (n := 16) (Nat.le_of_ble_eq_true rfl)
  rw [lg_entry_eq]
  generalize (lg_sl ([.ref (q 0), .int (iI k), .int (iI a1), .int (iI b1), .int (iI c1)]) ++ List.replicate (16 - (lg_sl ([.ref (q 0), .int (iI k), .int (iI a1), .int (iI b1), .int (iI c1)])).length) Slot.unset).toArray = ls at hl ⊢
  have hl : lv_has ls 16 [(0, .ref (q 0)), (1, .int (iI k)), (2, .int (iI a1)), (3, .int (iI b1)), (4, .int (iI c1))] := hl
  have r1 := zCx_rg gB a1 b1 c1
  have r2 := zCx_rg gB k b1 c1
  have r3 := zCx_rg gB k c1 a1
  have r4 := zCx_rg gB k a1 b1
  have r5 := zHt_rg gB k
  have r6 := zHt_rg gB a1
  have r7 := zHt_rg gB b1
  have r8 := zHt_rg gB c1
  refine lv_aload_n hx hb dX8_isOverTriangle_0 rfl (lv_at hl 0 rfl) ?_
  refine lv_iload_n hx hb dX8_isOverTriangle_1 rfl (lv_at hl 2 rfl) ?_
  refine lv_iload_n hx hb dX8_isOverTriangle_2 rfl (lv_at hl 3 rfl) ?_
  refine lv_iload hx hb dX8_isOverTriangle_3 (lv_at hl 4 rfl) ?_
  refine zc_ri (As := [.int (iI a1), .int (iI b1), .int (iI c1)]) (rest := []) ⟨hx, hb, hml, hown, hts⟩ (c_X8_cross l D _ tys cA hty q th N Xs Ys Wt Cp sh kp iu ax ay ri lT lL hT hL ig a1 b1 c1 (by omega) (by omega) (by omega)) (cwV 3 hts gX8_isOverTriangle_X8_cross rfl rfl rfl (by decide +kernel) ⟨(Nat.le_of_ble_eq_true rfl), (Nat.le_of_ble_eq_true rfl)⟩) hP hK hD hS hA [0, 1, 2, 3, 4, 5, 6] rfl rfl rfl rfl rfl hl.1 rfl (Nat.le_of_ble_eq_true rfl) dX8_isOverTriangle_5 ⟨Nat.zero_le _, Nat.zero_le _⟩ (fun H locs hP hS => ?_)
  refine zi_i2l hx hb dX8_isOverTriangle_8 (by omega) ?_
  refine lv_lstore (lv' := [(5, .long (lI (zCx Xs Ys a1 b1 c1))), (0, .ref (q 0)), (1, .int (iI k)), (2, .int (iI a1)), (3, .int (iI b1)), (4, .int (iI c1))]) hx hb dX8_isOverTriangle_9 hl (by decide) rfl (fun ls hl => ?_)
  refine lv_aload_n hx hb dX8_isOverTriangle_11 rfl (lv_at hl 1 rfl) ?_
  refine lv_iload_n hx hb dX8_isOverTriangle_12 rfl (lv_at hl 2 rfl) ?_
  refine lv_iload_n hx hb dX8_isOverTriangle_13 rfl (lv_at hl 4 rfl) ?_
  refine lv_iload hx hb dX8_isOverTriangle_14 (lv_at hl 5 rfl) ?_
  refine zc_ri (As := [.int (iI k), .int (iI b1), .int (iI c1)]) (rest := []) ⟨hx, hb, hml, hown, hts⟩ (c_X8_cross l D _ tys cA hty q th N Xs Ys Wt Cp sh kp iu ax ay ri lT lL hT hL ig k b1 c1 (by omega) (by omega) (by omega)) (cwV 3 hts gX8_isOverTriangle_X8_cross rfl rfl rfl (by decide +kernel) ⟨(Nat.le_of_ble_eq_true rfl), (Nat.le_of_ble_eq_true rfl)⟩) hP hK hD hS hA [0, 1, 2, 3, 4, 5, 6] rfl rfl rfl rfl rfl hl.1 rfl (Nat.le_of_ble_eq_true rfl) dX8_isOverTriangle_16 ⟨Nat.zero_le _, Nat.zero_le _⟩ (fun H locs hP hS => ?_)
  refine zi_i2l hx hb dX8_isOverTriangle_19 (by omega) ?_
  refine lv_lstore (lv' := [(7, .long (lI (zCx Xs Ys k b1 c1))), (5, .long (lI (zCx Xs Ys a1 b1 c1))), (0, .ref (q 0)), (1, .int (iI k)), (2, .int (iI a1)), (3, .int (iI b1)), (4, .int (iI c1))]) hx hb dX8_isOverTriangle_20 hl (by decide) rfl (fun ls hl => ?_)
  refine lv_aload_n hx hb dX8_isOverTriangle_22 rfl (lv_at hl 2 rfl) ?_
  refine lv_iload_n hx hb dX8_isOverTriangle_23 rfl (lv_at hl 3 rfl) ?_
  refine lv_iload hx hb dX8_isOverTriangle_24 (lv_at hl 6 rfl) ?_
  refine lv_iload_n hx hb dX8_isOverTriangle_26 rfl (lv_at hl 4 rfl) ?_
  refine zc_ri (As := [.int (iI k), .int (iI c1), .int (iI a1)]) (rest := []) ⟨hx, hb, hml, hown, hts⟩ (c_X8_cross l D _ tys cA hty q th N Xs Ys Wt Cp sh kp iu ax ay ri lT lL hT hL ig k c1 a1 (by omega) (by omega) (by omega)) (cwV 3 hts gX8_isOverTriangle_X8_cross rfl rfl rfl (by decide +kernel) ⟨(Nat.le_of_ble_eq_true rfl), (Nat.le_of_ble_eq_true rfl)⟩) hP hK hD hS hA [0, 1, 2, 3, 4, 5, 6] rfl rfl rfl rfl rfl hl.1 rfl (Nat.le_of_ble_eq_true rfl) dX8_isOverTriangle_27 ⟨Nat.zero_le _, Nat.zero_le _⟩ (fun H locs hP hS => ?_)
  refine zi_i2l hx hb dX8_isOverTriangle_30 (by omega) ?_
  refine lv_lstore (lv' := [(9, .long (lI (zCx Xs Ys k c1 a1))), (7, .long (lI (zCx Xs Ys k b1 c1))), (5, .long (lI (zCx Xs Ys a1 b1 c1))), (0, .ref (q 0)), (1, .int (iI k)), (2, .int (iI a1)), (3, .int (iI b1)), (4, .int (iI c1))]) hx hb dX8_isOverTriangle_31 hl (by decide) rfl (fun ls hl => ?_)
  refine lv_aload_n hx hb dX8_isOverTriangle_33 rfl (lv_at hl 3 rfl) ?_
  refine lv_iload_n hx hb dX8_isOverTriangle_34 rfl (lv_at hl 4 rfl) ?_
  refine lv_iload_n hx hb dX8_isOverTriangle_35 rfl (lv_at hl 5 rfl) ?_
  refine lv_iload_n hx hb dX8_isOverTriangle_36 rfl (lv_at hl 6 rfl) ?_
  refine zc_ri (As := [.int (iI k), .int (iI a1), .int (iI b1)]) (rest := []) ⟨hx, hb, hml, hown, hts⟩ (c_X8_cross l D _ tys cA hty q th N Xs Ys Wt Cp sh kp iu ax ay ri lT lL hT hL ig k a1 b1 (by omega) (by omega) (by omega)) (cwV 3 hts gX8_isOverTriangle_X8_cross rfl rfl rfl (by decide +kernel) ⟨(Nat.le_of_ble_eq_true rfl), (Nat.le_of_ble_eq_true rfl)⟩) hP hK hD hS hA [0, 1, 2, 3, 4, 5, 6] rfl rfl rfl rfl rfl hl.1 rfl (Nat.le_of_ble_eq_true rfl) dX8_isOverTriangle_37 ⟨Nat.zero_le _, Nat.zero_le _⟩ (fun H locs hP hS => ?_)
  refine zi_i2l hx hb dX8_isOverTriangle_40 (by omega) ?_
  refine lv_lstore (lv' := [(11, .long (lI (zCx Xs Ys k a1 b1))), (9, .long (lI (zCx Xs Ys k c1 a1))), (7, .long (lI (zCx Xs Ys k b1 c1))), (5, .long (lI (zCx Xs Ys a1 b1 c1))), (0, .ref (q 0)), (1, .int (iI k)), (2, .int (iI a1)), (3, .int (iI b1)), (4, .int (iI c1))]) hx hb dX8_isOverTriangle_41 hl (by decide) rfl (fun ls hl => ?_)
  refine lv_lload hx hb dX8_isOverTriangle_43 (lv_at hl 3 rfl) ?_
  refine lv_lconst (v := lI 0) hx hb dX8_isOverTriangle_45 (by decide +kernel) ?_
  refine zl_if_ne (tgt := 52) hx hb dX8_isOverTriangle_46 dX8_isOverTriangle_47 (by decide) (by omega) (by omega) (fun c46 => ?_) (fun c46 => ?_)
  · skip
    refine lv_lload hx hb dX8_isOverTriangle_52 (lv_at hl 3 rfl) ?_
    have J66 : ∀ (t1 : Int), (t1 = zTs2 Xs Ys a1 b1 c1) → ∀ (H : Heap) (locs : List Loc) (ls : Array Slot), va_P D vwCl [(q 0, .inr (9, [.int (iI th), .int (iI N), .ref (q 1), .ref (q 2), .ref (q 3), .ref (q 4), .ref (q 5), .ref (q 6), .int (iI iu), .int (iI ax), .int (iI ay), .int (iI ri), .long (lI lT), .long (lI lL), .long (lI hT), .long (lI hL), .int (iI ig)])), (q 1, .inl (cA, 12, .inl (zF Xs))), (q 2, .inl (cA, 12, .inl (zF Ys))), (q 3, .inl (cA, 12, .inl (zF Wt))), (q 4, .inl (cA, 12, .inl (zF Cp))), (q 5, .inl (cA, 12, .inl (zF sh))), (q 6, .inl (cA, 12, .inl (zF kp)))] H → va_S (zN s.heap.size) s.heap H locs → lv_has ls 16 [(0, .ref (q 0)), (1, .int (iI k)), (2, .int (iI a1)), (3, .int (iI b1)), (4, .int (iI c1)), (5, .long (lI (zCx Xs Ys a1 b1 c1))), (7, .long (lI (zCx Xs Ys k b1 c1))), (9, .long (lI (zCx Xs Ys k c1 a1))), (11, .long (lI (zCx Xs Ys k a1 b1)))] → W p l e (headSpec wsX8_isOverTriangle ({ frames := 1, cells := 0, slots := 0, locals := 23 })).room s m ([.ref (q 0), .int (iI k), .int (iI a1), .int (iI b1), .int (iI c1)] : List Value).toArray below meth c H locs 0 0 (MQ below (zRi (bI (zOt Xs Ys Wt k a1 b1 c1)) s.heap.size) ([.ref (q 0), .int (iI k), .int (iI a1), .int (iI b1), .int (iI c1)] : List Value).toArray s 0 0 (zN s.heap.size)) (F0 m 66 ls [.long (lI t1)]) := by
      intro t1 g1 H locs ls hP hS hl
      have g2 : t1 = -1 ∨ t1 = 1 := by rw [g1]; exact zTs2_ne Xs Ys a1 b1 c1
      have y1 := zm_le (a := zCx Xs Ys k b1 c1) (b := t1) (A := 3200) (B := 1) (by omega) (by omega)
      have y2 := zm_le (a := zCx Xs Ys k c1 a1) (b := t1) (A := 3200) (B := 1) (by omega) (by omega)
      have y3 := zm_le (a := zCx Xs Ys k a1 b1) (b := t1) (A := 3200) (B := 1) (by omega) (by omega)
      have y4 := zm_le (a := zHt Xs Ys Wt k) (b := zCx Xs Ys a1 b1 c1) (A := 4199) (B := 3200) (by omega) (by omega)
      have y5 := zm_le (a := zHt Xs Ys Wt k * zCx Xs Ys a1 b1 c1) (b := t1) (A := 13436800) (B := 1) (by omega) (by omega)
      have y6 := zm_le (a := zCx Xs Ys k b1 c1) (b := zHt Xs Ys Wt a1) (A := 3200) (B := 4199) (by omega) (by omega)
      have y7 := zm_le (a := zCx Xs Ys k c1 a1) (b := zHt Xs Ys Wt b1) (A := 3200) (B := 4199) (by omega) (by omega)
      have y8 := zm_le (a := zCx Xs Ys k a1 b1) (b := zHt Xs Ys Wt c1) (A := 3200) (B := 4199) (by omega) (by omega)
      have y9 := zm_le (a := zCx Xs Ys k b1 c1 * zHt Xs Ys Wt a1 + zCx Xs Ys k c1 a1 * zHt Xs Ys Wt b1 + zCx Xs Ys k a1 b1 * zHt Xs Ys Wt c1) (b := t1) (A := 40310400) (B := 1) (by omega) (by omega)
      refine lv_lstore (lv' := [(13, .long (lI t1)), (0, .ref (q 0)), (1, .int (iI k)), (2, .int (iI a1)), (3, .int (iI b1)), (4, .int (iI c1)), (5, .long (lI (zCx Xs Ys a1 b1 c1))), (7, .long (lI (zCx Xs Ys k b1 c1))), (9, .long (lI (zCx Xs Ys k c1 a1))), (11, .long (lI (zCx Xs Ys k a1 b1)))]) hx hb dX8_isOverTriangle_66 hl (by decide) rfl (fun ls hl => ?_)
      refine lv_lload hx hb dX8_isOverTriangle_68 (lv_at hl 7 rfl) ?_
      refine lv_lload hx hb dX8_isOverTriangle_70 (lv_at hl 0 rfl) ?_
      refine zl_lmul hx hb dX8_isOverTriangle_72 ?_
      refine lv_lconst (v := lI 0) hx hb dX8_isOverTriangle_73 (by decide +kernel) ?_
      refine zl_if_lt (tgt := 102) hx hb dX8_isOverTriangle_74 dX8_isOverTriangle_75 (by decide) (by omega) (by omega) (fun c74 => ?_) (fun c74 => ?_)
      · skip
        refine lv_iconst (v := iI 0) hx hb dX8_isOverTriangle_102 rfl ?_
        refine lv_istore (lv' := [(15, .int (iI 0)), (13, .long (lI t1)), (0, .ref (q 0)), (1, .int (iI k)), (2, .int (iI a1)), (3, .int (iI b1)), (4, .int (iI c1)), (5, .long (lI (zCx Xs Ys a1 b1 c1))), (7, .long (lI (zCx Xs Ys k b1 c1))), (9, .long (lI (zCx Xs Ys k c1 a1))), (11, .long (lI (zCx Xs Ys k a1 b1)))]) hx hb dX8_isOverTriangle_103 hl (by decide) rfl (fun ls hl => ?_)
        refine lv_iload hx hb dX8_isOverTriangle_105 (lv_at hl 0 rfl) ?_
        refine zi_if_eq (tgt := 163) hx hb dX8_isOverTriangle_107 (by decide) (by omega) (fun c107 => ?_) (fun c107 => ?_)
        · skip
          refine lv_iconst (v := iI 0) hx hb dX8_isOverTriangle_163 rfl ?_
          exact W.zret (v := iI 0) (ty := .boolean) hx hb hr (by decide) (fun t ht hW => ⟨⟨iI 0, (), rfl, congrArg iI (show 0 = bI (zOt Xs Ys Wt k a1 b1 c1) from by first | exact (bI_t (by unfold zOt zOtt; rw [← g1]; omega)).symm | exact (bI_f (by unfold zOt zOtt; rw [← g1]; omega)).symm | fail), trivial⟩, hS.F ht⟩) hS.2.2 dX8_isOverTriangle_164
        · exact absurd c107 (by omega)
      · skip
        refine lv_lload hx hb dX8_isOverTriangle_78 (lv_at hl 8 rfl) ?_
        refine lv_lload hx hb dX8_isOverTriangle_80 (lv_at hl 0 rfl) ?_
        refine zl_lmul hx hb dX8_isOverTriangle_82 ?_
        refine lv_lconst (v := lI 0) hx hb dX8_isOverTriangle_83 (by decide +kernel) ?_
        refine zl_if_lt (tgt := 102) hx hb dX8_isOverTriangle_84 dX8_isOverTriangle_85 (by decide) (by omega) (by omega) (fun c84 => ?_) (fun c84 => ?_)
        · skip
          refine lv_iconst (v := iI 0) hx hb dX8_isOverTriangle_102 rfl ?_
          refine lv_istore (lv' := [(15, .int (iI 0)), (13, .long (lI t1)), (0, .ref (q 0)), (1, .int (iI k)), (2, .int (iI a1)), (3, .int (iI b1)), (4, .int (iI c1)), (5, .long (lI (zCx Xs Ys a1 b1 c1))), (7, .long (lI (zCx Xs Ys k b1 c1))), (9, .long (lI (zCx Xs Ys k c1 a1))), (11, .long (lI (zCx Xs Ys k a1 b1)))]) hx hb dX8_isOverTriangle_103 hl (by decide) rfl (fun ls hl => ?_)
          refine lv_iload hx hb dX8_isOverTriangle_105 (lv_at hl 0 rfl) ?_
          refine zi_if_eq (tgt := 163) hx hb dX8_isOverTriangle_107 (by decide) (by omega) (fun c107 => ?_) (fun c107 => ?_)
          · skip
            refine lv_iconst (v := iI 0) hx hb dX8_isOverTriangle_163 rfl ?_
            exact W.zret (v := iI 0) (ty := .boolean) hx hb hr (by decide) (fun t ht hW => ⟨⟨iI 0, (), rfl, congrArg iI (show 0 = bI (zOt Xs Ys Wt k a1 b1 c1) from by first | exact (bI_t (by unfold zOt zOtt; rw [← g1]; omega)).symm | exact (bI_f (by unfold zOt zOtt; rw [← g1]; omega)).symm | fail), trivial⟩, hS.F ht⟩) hS.2.2 dX8_isOverTriangle_164
          · exact absurd c107 (by omega)
        · skip
          refine lv_lload hx hb dX8_isOverTriangle_88 (lv_at hl 9 rfl) ?_
          refine lv_lload hx hb dX8_isOverTriangle_90 (lv_at hl 0 rfl) ?_
          refine zl_lmul hx hb dX8_isOverTriangle_92 ?_
          refine lv_lconst (v := lI 0) hx hb dX8_isOverTriangle_93 (by decide +kernel) ?_
          refine zl_if_lt (tgt := 102) hx hb dX8_isOverTriangle_94 dX8_isOverTriangle_95 (by decide) (by omega) (by omega) (fun c94 => ?_) (fun c94 => ?_)
          · skip
            refine lv_iconst (v := iI 0) hx hb dX8_isOverTriangle_102 rfl ?_
            refine lv_istore (lv' := [(15, .int (iI 0)), (13, .long (lI t1)), (0, .ref (q 0)), (1, .int (iI k)), (2, .int (iI a1)), (3, .int (iI b1)), (4, .int (iI c1)), (5, .long (lI (zCx Xs Ys a1 b1 c1))), (7, .long (lI (zCx Xs Ys k b1 c1))), (9, .long (lI (zCx Xs Ys k c1 a1))), (11, .long (lI (zCx Xs Ys k a1 b1)))]) hx hb dX8_isOverTriangle_103 hl (by decide) rfl (fun ls hl => ?_)
            refine lv_iload hx hb dX8_isOverTriangle_105 (lv_at hl 0 rfl) ?_
            refine zi_if_eq (tgt := 163) hx hb dX8_isOverTriangle_107 (by decide) (by omega) (fun c107 => ?_) (fun c107 => ?_)
            · skip
              refine lv_iconst (v := iI 0) hx hb dX8_isOverTriangle_163 rfl ?_
              exact W.zret (v := iI 0) (ty := .boolean) hx hb hr (by decide) (fun t ht hW => ⟨⟨iI 0, (), rfl, congrArg iI (show 0 = bI (zOt Xs Ys Wt k a1 b1 c1) from by first | exact (bI_t (by unfold zOt zOtt; rw [← g1]; omega)).symm | exact (bI_f (by unfold zOt zOtt; rw [← g1]; omega)).symm | fail), trivial⟩, hS.F ht⟩) hS.2.2 dX8_isOverTriangle_164
            · exact absurd c107 (by omega)
          · skip
            refine lv_iconst (v := iI 1) hx hb dX8_isOverTriangle_98 rfl ?_
            refine lv_goto (tgt := 103) hx hb dX8_isOverTriangle_99 (by decide) ?_
            refine lv_istore (lv' := [(15, .int (iI 1)), (13, .long (lI t1)), (0, .ref (q 0)), (1, .int (iI k)), (2, .int (iI a1)), (3, .int (iI b1)), (4, .int (iI c1)), (5, .long (lI (zCx Xs Ys a1 b1 c1))), (7, .long (lI (zCx Xs Ys k b1 c1))), (9, .long (lI (zCx Xs Ys k c1 a1))), (11, .long (lI (zCx Xs Ys k a1 b1)))]) hx hb dX8_isOverTriangle_103 hl (by decide) rfl (fun ls hl => ?_)
            refine lv_iload hx hb dX8_isOverTriangle_105 (lv_at hl 0 rfl) ?_
            refine zi_if_eq (tgt := 163) hx hb dX8_isOverTriangle_107 (by decide) (by omega) (fun c107 => ?_) (fun c107 => ?_)
            · exact absurd c107 (by omega)
            · skip
              refine lv_aload_n hx hb dX8_isOverTriangle_110 rfl (lv_at hl 2 rfl) ?_
              refine lv_iload_n hx hb dX8_isOverTriangle_111 rfl (lv_at hl 3 rfl) ?_
              refine zc_ri (As := [.int (iI k)]) (rest := []) ⟨hx, hb, hml, hown, hts⟩ (c_X8_height l D _ tys cA hty q th N Xs Ys Wt Cp sh kp iu ax ay ri lT lL hT hL ig k (by omega)) (cwV 1 hts gX8_isOverTriangle_X8_height rfl rfl rfl (by decide +kernel) ⟨(Nat.le_of_ble_eq_true rfl), (Nat.le_of_ble_eq_true rfl)⟩) hP hK hD hS hA [0, 1, 2, 3, 4, 5, 6] rfl rfl rfl rfl rfl hl.1 rfl (Nat.le_of_ble_eq_true rfl) dX8_isOverTriangle_112 ⟨Nat.zero_le _, Nat.zero_le _⟩ (fun H locs hP hS => ?_)
              refine zi_i2l hx hb dX8_isOverTriangle_115 (by omega) ?_
              refine lv_lload hx hb dX8_isOverTriangle_116 (lv_at hl 7 rfl) ?_
              refine zl_lmul hx hb dX8_isOverTriangle_118 ?_
              refine lv_lload hx hb dX8_isOverTriangle_119 (lv_at hl 1 rfl) ?_
              refine zl_lmul hx hb dX8_isOverTriangle_121 ?_
              refine lv_lload hx hb dX8_isOverTriangle_122 (lv_at hl 8 rfl) ?_
              refine lv_aload_n hx hb dX8_isOverTriangle_124 rfl (lv_at hl 2 rfl) ?_
              refine lv_iload_n hx hb dX8_isOverTriangle_125 rfl (lv_at hl 4 rfl) ?_
              refine zc_ri (As := [.int (iI a1)]) (rest := [.long (lI (zCx Xs Ys k b1 c1)), .long (lI (((zHt Xs Ys Wt k) * (zCx Xs Ys a1 b1 c1)) * t1))]) ⟨hx, hb, hml, hown, hts⟩ (c_X8_height l D _ tys cA hty q th N Xs Ys Wt Cp sh kp iu ax ay ri lT lL hT hL ig a1 (by omega)) (cwV 1 hts gX8_isOverTriangle_X8_height rfl rfl rfl (by decide +kernel) ⟨(Nat.le_of_ble_eq_true rfl), (Nat.le_of_ble_eq_true rfl)⟩) hP hK hD hS hA [0, 1, 2, 3, 4, 5, 6] rfl rfl rfl rfl rfl hl.1 rfl (Nat.le_of_ble_eq_true rfl) dX8_isOverTriangle_126 ⟨Nat.zero_le _, Nat.zero_le _⟩ (fun H locs hP hS => ?_)
              refine zi_i2l hx hb dX8_isOverTriangle_129 (by omega) ?_
              refine zl_lmul hx hb dX8_isOverTriangle_130 ?_
              refine lv_lload hx hb dX8_isOverTriangle_131 (lv_at hl 9 rfl) ?_
              refine lv_aload_n hx hb dX8_isOverTriangle_133 rfl (lv_at hl 2 rfl) ?_
              refine lv_iload_n hx hb dX8_isOverTriangle_134 rfl (lv_at hl 5 rfl) ?_
              refine zc_ri (As := [.int (iI b1)]) (rest := [.long (lI (zCx Xs Ys k c1 a1)), .long (lI ((zCx Xs Ys k b1 c1) * (zHt Xs Ys Wt a1))), .long (lI (((zHt Xs Ys Wt k) * (zCx Xs Ys a1 b1 c1)) * t1))]) ⟨hx, hb, hml, hown, hts⟩ (c_X8_height l D _ tys cA hty q th N Xs Ys Wt Cp sh kp iu ax ay ri lT lL hT hL ig b1 (by omega)) (cwV 1 hts gX8_isOverTriangle_X8_height rfl rfl rfl (by decide +kernel) ⟨(Nat.le_of_ble_eq_true rfl), (Nat.le_of_ble_eq_true rfl)⟩) hP hK hD hS hA [0, 1, 2, 3, 4, 5, 6] rfl rfl rfl rfl rfl hl.1 rfl (Nat.le_of_ble_eq_true rfl) dX8_isOverTriangle_135 ⟨Nat.zero_le _, Nat.zero_le _⟩ (fun H locs hP hS => ?_)
              refine zi_i2l hx hb dX8_isOverTriangle_138 (by omega) ?_
              refine zl_lmul hx hb dX8_isOverTriangle_139 ?_
              refine zl_ladd hx hb dX8_isOverTriangle_140 ?_
              refine lv_lload hx hb dX8_isOverTriangle_141 (lv_at hl 10 rfl) ?_
              refine lv_aload_n hx hb dX8_isOverTriangle_143 rfl (lv_at hl 2 rfl) ?_
              refine lv_iload hx hb dX8_isOverTriangle_144 (lv_at hl 6 rfl) ?_
              refine zc_ri (As := [.int (iI c1)]) (rest := [.long (lI (zCx Xs Ys k a1 b1)), .long (lI (((zCx Xs Ys k b1 c1) * (zHt Xs Ys Wt a1)) + ((zCx Xs Ys k c1 a1) * (zHt Xs Ys Wt b1)))), .long (lI (((zHt Xs Ys Wt k) * (zCx Xs Ys a1 b1 c1)) * t1))]) ⟨hx, hb, hml, hown, hts⟩ (c_X8_height l D _ tys cA hty q th N Xs Ys Wt Cp sh kp iu ax ay ri lT lL hT hL ig c1 (by omega)) (cwV 1 hts gX8_isOverTriangle_X8_height rfl rfl rfl (by decide +kernel) ⟨(Nat.le_of_ble_eq_true rfl), (Nat.le_of_ble_eq_true rfl)⟩) hP hK hD hS hA [0, 1, 2, 3, 4, 5, 6] rfl rfl rfl rfl rfl hl.1 rfl (Nat.le_of_ble_eq_true rfl) dX8_isOverTriangle_146 ⟨Nat.zero_le _, Nat.zero_le _⟩ (fun H locs hP hS => ?_)
              refine zi_i2l hx hb dX8_isOverTriangle_149 (by omega) ?_
              refine zl_lmul hx hb dX8_isOverTriangle_150 ?_
              refine zl_ladd hx hb dX8_isOverTriangle_151 ?_
              refine lv_lload hx hb dX8_isOverTriangle_152 (lv_at hl 1 rfl) ?_
              refine zl_lmul hx hb dX8_isOverTriangle_154 ?_
              refine zl_if_lt (tgt := 163) hx hb dX8_isOverTriangle_155 dX8_isOverTriangle_156 (by decide) (by omega) (by omega) (fun c155 => ?_) (fun c155 => ?_)
              · skip
                refine lv_iconst (v := iI 0) hx hb dX8_isOverTriangle_163 rfl ?_
                exact W.zret (v := iI 0) (ty := .boolean) hx hb hr (by decide) (fun t ht hW => ⟨⟨iI 0, (), rfl, congrArg iI (show 0 = bI (zOt Xs Ys Wt k a1 b1 c1) from by first | exact (bI_t (by unfold zOt zOtt; rw [← g1]; omega)).symm | exact (bI_f (by unfold zOt zOtt; rw [← g1]; omega)).symm | fail), trivial⟩, hS.F ht⟩) hS.2.2 dX8_isOverTriangle_164
              · skip
                refine lv_iconst (v := iI 1) hx hb dX8_isOverTriangle_159 rfl ?_
                refine lv_goto (tgt := 164) hx hb dX8_isOverTriangle_160 (by decide) ?_
                exact W.zret (v := iI 1) (ty := .boolean) hx hb hr (by decide) (fun t ht hW => ⟨⟨iI 1, (), rfl, congrArg iI (show 1 = bI (zOt Xs Ys Wt k a1 b1 c1) from by first | exact (bI_t (by unfold zOt zOtt; rw [← g1]; omega)).symm | exact (bI_f (by unfold zOt zOtt; rw [← g1]; omega)).symm | fail), trivial⟩, hS.F ht⟩) hS.2.2 dX8_isOverTriangle_164
    refine lv_lconst (v := lI 0) hx hb dX8_isOverTriangle_54 (by decide +kernel) ?_
    refine zl_if_ge (tgt := 65) hx hb dX8_isOverTriangle_55 dX8_isOverTriangle_56 (by decide) (by omega) (by omega) (fun c55 => ?_) (fun c55 => ?_)
    · skip
      refine lv_lconst (v := lI 1) hx hb dX8_isOverTriangle_65 (by decide +kernel) ?_
      exact J66 1 (by first | exact (if_pos (by omega)).symm | exact (if_neg (by omega)).symm | fail) _ _ _ hP hS (lv_sub hl [4, 5, 6, 7, 8, 3, 2, 1, 0] rfl)
    · skip
      refine lv_ldc2 (v := lI (-1)) hx hb hown (by rw [show lI (-1) = (-1) by decide +kernel]; exact hts (.constantLong RX8 73 (-1)) (by decide +kernel)) dX8_isOverTriangle_59 ?_
      refine lv_goto (tgt := 66) hx hb dX8_isOverTriangle_62 (by decide) ?_
      exact J66 (-1) (by first | exact (if_pos (by omega)).symm | exact (if_neg (by omega)).symm | fail) _ _ _ hP hS (lv_sub hl [4, 5, 6, 7, 8, 3, 2, 1, 0] rfl)
  · skip
    refine lv_iconst (v := iI 0) hx hb dX8_isOverTriangle_50 rfl ?_
    exact W.zret (v := iI 0) (ty := .boolean) hx hb hr (by decide) (fun t ht hW => ⟨⟨iI 0, (), rfl, congrArg iI (show 0 = bI (zOt Xs Ys Wt k a1 b1 c1) from by exact (bI_f (fun z => z.1 c46)).symm), trivial⟩, hS.F ht⟩) hS.2.2 dX8_isOverTriangle_51
theorem iz_X8_isHidden_X8 : ∀ w ∈ u_ws RX8 TX8 17, w ∈ wsX8_isHidden := by decide +kernel
set_option maxHeartbeats 4000000 in
set_option maxRecDepth 100000 in
/-- PowerPlotModel.isHidden -/
theorem c_X8_isHidden (l : Launch) (D : va_G) (sz : Nat) (tys : List (ClassId × FieldType)) (cA : ClassId) (hty : tys[0]? = some (cA, .int)) (q : Nat → Nat) (th N : Int) (Xs Ys Wt Cp sh kp : Int → Int) (iu ax ay ri lT lL hT hL ig : Int) (k : Int) (gB : zBd Xs Ys Wt) (gN : 0 ≤ N ∧ N ≤ 12) (g1 : -2147483648 ≤ k ∧ k ≤ 2147483647) : Met l yX8_isHidden wsX8_isHidden ({ frames := 2, cells := 0, slots := 0, locals := 58 }) (zP D [.ref (q 0), .int (iI k)] sz [(q 0, .inr (9, [.int (iI th), .int (iI N), .ref (q 1), .ref (q 2), .ref (q 3), .ref (q 4), .ref (q 5), .ref (q 6), .int (iI iu), .int (iI ax), .int (iI ay), .int (iI ri), .long (lI lT), .long (lI lL), .long (lI hT), .long (lI hL), .int (iI ig)])), (q 1, .inl (cA, 12, .inl (zF Xs))), (q 2, .inl (cA, 12, .inl (zF Ys))), (q 3, .inl (cA, 12, .inl (zF Wt))), (q 4, .inl (cA, 12, .inl (zF Cp))), (q 5, .inl (cA, 12, .inl (zF sh))), (q 6, .inl (cA, 12, .inl (zF kp)))] tys) (zWi (fun (u : Int × Int) => u.2) (fun (u : Int × Int) => (0 ≤ k ∧ k < N → u.1 = 0 ∧ u.2 = bI (zHo Xs Ys Wt N k N)) ∧ (¬ (0 ≤ k ∧ k < N) → u.1 = 1)) D (fun (u : Int × Int) => [(q 0, .inr (9, [.int (iI u.1), .int (iI N), .ref (q 1), .ref (q 2), .ref (q 3), .ref (q 4), .ref (q 5), .ref (q 6), .int (iI iu), .int (iI ax), .int (iI ay), .int (iI ri), .long (lI lT), .long (lI lL), .long (lI hT), .long (lI hL), .int (iI ig)])), (q 1, .inl (cA, 12, .inl (zF Xs))), (q 2, .inl (cA, 12, .inl (zF Ys))), (q 3, .inl (cA, 12, .inl (zF Wt))), (q 4, .inl (cA, 12, .inl (zF Cp))), (q 5, .inl (cA, 12, .inl (zF sh))), (q 6, .inl (cA, 12, .inl (zF kp)))]) [(q 0, .inr (9, [.int (iI th), .int (iI N), .ref (q 1), .ref (q 2), .ref (q 3), .ref (q 4), .ref (q 5), .ref (q 6), .int (iI iu), .int (iI ax), .int (iI ay), .int (iI ri), .long (lI lT), .long (lI lL), .long (lI hT), .long (lI hL), .int (iI ig)])), (q 1, .inl (cA, 12, .inl (zF Xs))), (q 2, .inl (cA, 12, .inl (zF Ys))), (q 3, .inl (cA, 12, .inl (zF Wt))), (q 4, .inl (cA, 12, .inl (zF Cp))), (q 5, .inl (cA, 12, .inl (zF sh))), (q 6, .inl (cA, 12, .inl (zF kp)))] sz) 0 0 (va_A [(q 0, .inr (9, [.int (iI th), .int (iI N), .ref (q 1), .ref (q 2), .ref (q 3), .ref (q 4), .ref (q 5), .ref (q 6), .int (iI iu), .int (iI ax), .int (iI ay), .int (iI ri), .long (lI lT), .long (lI lL), .long (lI hT), .long (lI hL), .int (iI ig)])), (q 1, .inl (cA, 12, .inl (zF Xs))), (q 2, .inl (cA, 12, .inl (zF Ys))), (q 3, .inl (cA, 12, .inl (zF Wt))), (q 4, .inl (cA, 12, .inl (zF Cp))), (q 5, .inl (cA, 12, .inl (zF sh))), (q 6, .inl (cA, 12, .inl (zF kp)))] sz) := by
  refine Met.ofW (cc := cX8_isHidden) (maxL := 6) (ret := (some .boolean)) (by decide +kernel) rfl ?_
  intro p e s m args below meth c s₁ B hml hv
  obtain ⟨rfl, hsz, hP, hK, hD0⟩ := hv
  have hx := B.exec
  have hb := B.bytes
  have hr := B.returns
  have hts := atoms_spec (ws := wsX8_isHidden) B.pre
  have hown : s.vm.findClass RX8 = some m.cls := findClass_of_methodNamed B.named
  have hlocks := B.notSynchronized
  subst hsz
  have hD : va_D (va_A [(q 0, .inr (9, [.int (iI th), .int (iI N), .ref (q 1), .ref (q 2), .ref (q 3), .ref (q 4), .ref (q 5), .ref (q 6), .int (iI iu), .int (iI ax), .int (iI ay), .int (iI ri), .long (lI lT), .long (lI lL), .long (lI hT), .long (lI hL), .int (iI ig)])), (q 1, .inl (cA, 12, .inl (zF Xs))), (q 2, .inl (cA, 12, .inl (zF Ys))), (q 3, .inl (cA, 12, .inl (zF Wt))), (q 4, .inl (cA, 12, .inl (zF Cp))), (q 5, .inl (cA, 12, .inl (zF sh))), (q 6, .inl (cA, 12, .inl (zF kp)))] s.heap.size) [(q 0, .inr (9, [.int (iI th), .int (iI N), .ref (q 1), .ref (q 2), .ref (q 3), .ref (q 4), .ref (q 5), .ref (q 6), .int (iI iu), .int (iI ax), .int (iI ay), .int (iI ri), .long (lI lT), .long (lI lL), .long (lI hT), .long (lI hL), .int (iI ig)])), (q 1, .inl (cA, 12, .inl (zF Xs))), (q 2, .inl (cA, 12, .inl (zF Ys))), (q 3, .inl (cA, 12, .inl (zF Wt))), (q 4, .inl (cA, 12, .inl (zF Cp))), (q 5, .inl (cA, 12, .inl (zF sh))), (q 6, .inl (cA, 12, .inl (zF kp)))] := hD0.self
  have hS : va_S (va_A [(q 0, .inr (9, [.int (iI th), .int (iI N), .ref (q 1), .ref (q 2), .ref (q 3), .ref (q 4), .ref (q 5), .ref (q 6), .int (iI iu), .int (iI ax), .int (iI ay), .int (iI ri), .long (lI lT), .long (lI lL), .long (lI hT), .long (lI hL), .int (iI ig)])), (q 1, .inl (cA, 12, .inl (zF Xs))), (q 2, .inl (cA, 12, .inl (zF Ys))), (q 3, .inl (cA, 12, .inl (zF Wt))), (q 4, .inl (cA, 12, .inl (zF Cp))), (q 5, .inl (cA, 12, .inl (zF sh))), (q 6, .inl (cA, 12, .inl (zF kp)))] s.heap.size) s.heap s.heap [] := va_S.rf
  have hA : ∀ q9 : Nat, s.heap.size ≤ q9 → (va_A [(q 0, .inr (9, [.int (iI th), .int (iI N), .ref (q 1), .ref (q 2), .ref (q 3), .ref (q 4), .ref (q 5), .ref (q 6), .int (iI iu), .int (iI ax), .int (iI ay), .int (iI ri), .long (lI lT), .long (lI lL), .long (lI hT), .long (lI hL), .int (iI ig)])), (q 1, .inl (cA, 12, .inl (zF Xs))), (q 2, .inl (cA, 12, .inl (zF Ys))), (q 3, .inl (cA, 12, .inl (zF Wt))), (q 4, .inl (cA, 12, .inl (zF Cp))), (q 5, .inl (cA, 12, .inl (zF sh))), (q 6, .inl (cA, 12, .inl (zF kp)))] s.heap.size) q9 := fun q9 h => Or.inr h
  have hl := lv_entry ([.ref (q 0), .int (iI k)]) (n := 6) (Nat.le_of_ble_eq_true rfl)
  rw [lg_entry_eq]
  generalize (lg_sl ([.ref (q 0), .int (iI k)]) ++ List.replicate (6 - (lg_sl ([.ref (q 0), .int (iI k)])).length) Slot.unset).toArray = ls at hl ⊢
  have hl : lv_has ls 6 [(0, .ref (q 0)), (1, .int (iI k))] := hl
  have J14 : ∀ (t0 : Int), ((0 ≤ k ∧ k < N → t0 = 0) ∧ (¬ (0 ≤ k ∧ k < N) → t0 = 1)) → (0 ≤ t0 ∧ t0 ≤ 1) → ∀ (H : Heap) (locs : List Loc) (ls : Array Slot), va_P D vwCl [(q 0, .inr (9, [.int (iI th), .int (iI N), .ref (q 1), .ref (q 2), .ref (q 3), .ref (q 4), .ref (q 5), .ref (q 6), .int (iI iu), .int (iI ax), .int (iI ay), .int (iI ri), .long (lI lT), .long (lI lL), .long (lI hT), .long (lI hL), .int (iI ig)])), (q 1, .inl (cA, 12, .inl (zF Xs))), (q 2, .inl (cA, 12, .inl (zF Ys))), (q 3, .inl (cA, 12, .inl (zF Wt))), (q 4, .inl (cA, 12, .inl (zF Cp))), (q 5, .inl (cA, 12, .inl (zF sh))), (q 6, .inl (cA, 12, .inl (zF kp)))] H → va_D (va_A [(q 0, .inr (9, [.int (iI th), .int (iI N), .ref (q 1), .ref (q 2), .ref (q 3), .ref (q 4), .ref (q 5), .ref (q 6), .int (iI iu), .int (iI ax), .int (iI ay), .int (iI ri), .long (lI lT), .long (lI lL), .long (lI hT), .long (lI hL), .int (iI ig)])), (q 1, .inl (cA, 12, .inl (zF Xs))), (q 2, .inl (cA, 12, .inl (zF Ys))), (q 3, .inl (cA, 12, .inl (zF Wt))), (q 4, .inl (cA, 12, .inl (zF Cp))), (q 5, .inl (cA, 12, .inl (zF sh))), (q 6, .inl (cA, 12, .inl (zF kp)))] s.heap.size) [(q 0, .inr (9, [.int (iI th), .int (iI N), .ref (q 1), .ref (q 2), .ref (q 3), .ref (q 4), .ref (q 5), .ref (q 6), .int (iI iu), .int (iI ax), .int (iI ay), .int (iI ri), .long (lI lT), .long (lI lL), .long (lI hT), .long (lI hL), .int (iI ig)])), (q 1, .inl (cA, 12, .inl (zF Xs))), (q 2, .inl (cA, 12, .inl (zF Ys))), (q 3, .inl (cA, 12, .inl (zF Wt))), (q 4, .inl (cA, 12, .inl (zF Cp))), (q 5, .inl (cA, 12, .inl (zF sh))), (q 6, .inl (cA, 12, .inl (zF kp)))] → va_S (va_A [(q 0, .inr (9, [.int (iI th), .int (iI N), .ref (q 1), .ref (q 2), .ref (q 3), .ref (q 4), .ref (q 5), .ref (q 6), .int (iI iu), .int (iI ax), .int (iI ay), .int (iI ri), .long (lI lT), .long (lI lL), .long (lI hT), .long (lI hL), .int (iI ig)])), (q 1, .inl (cA, 12, .inl (zF Xs))), (q 2, .inl (cA, 12, .inl (zF Ys))), (q 3, .inl (cA, 12, .inl (zF Wt))), (q 4, .inl (cA, 12, .inl (zF Cp))), (q 5, .inl (cA, 12, .inl (zF sh))), (q 6, .inl (cA, 12, .inl (zF kp)))] s.heap.size) s.heap H locs → lv_has ls 6 [(0, .ref (q 0)), (1, .int (iI k))] → W p l e (headSpec wsX8_isHidden ({ frames := 2, cells := 0, slots := 0, locals := 58 })).room s m ([.ref (q 0), .int (iI k)] : List Value).toArray below meth c H locs 0 0 (MQ below (zWi (fun (u : Int × Int) => u.2) (fun (u : Int × Int) => (0 ≤ k ∧ k < N → u.1 = 0 ∧ u.2 = bI (zHo Xs Ys Wt N k N)) ∧ (¬ (0 ≤ k ∧ k < N) → u.1 = 1)) D (fun (u : Int × Int) => [(q 0, .inr (9, [.int (iI u.1), .int (iI N), .ref (q 1), .ref (q 2), .ref (q 3), .ref (q 4), .ref (q 5), .ref (q 6), .int (iI iu), .int (iI ax), .int (iI ay), .int (iI ri), .long (lI lT), .long (lI lL), .long (lI hT), .long (lI hL), .int (iI ig)])), (q 1, .inl (cA, 12, .inl (zF Xs))), (q 2, .inl (cA, 12, .inl (zF Ys))), (q 3, .inl (cA, 12, .inl (zF Wt))), (q 4, .inl (cA, 12, .inl (zF Cp))), (q 5, .inl (cA, 12, .inl (zF sh))), (q 6, .inl (cA, 12, .inl (zF kp)))]) [(q 0, .inr (9, [.int (iI th), .int (iI N), .ref (q 1), .ref (q 2), .ref (q 3), .ref (q 4), .ref (q 5), .ref (q 6), .int (iI iu), .int (iI ax), .int (iI ay), .int (iI ri), .long (lI lT), .long (lI lL), .long (lI hT), .long (lI hL), .int (iI ig)])), (q 1, .inl (cA, 12, .inl (zF Xs))), (q 2, .inl (cA, 12, .inl (zF Ys))), (q 3, .inl (cA, 12, .inl (zF Wt))), (q 4, .inl (cA, 12, .inl (zF Cp))), (q 5, .inl (cA, 12, .inl (zF sh))), (q 6, .inl (cA, 12, .inl (zF kp)))] s.heap.size) ([.ref (q 0), .int (iI k)] : List Value).toArray s 0 0 (va_A [(q 0, .inr (9, [.int (iI th), .int (iI N), .ref (q 1), .ref (q 2), .ref (q 3), .ref (q 4), .ref (q 5), .ref (q 6), .int (iI iu), .int (iI ax), .int (iI ay), .int (iI ri), .long (lI lT), .long (lI lL), .long (lI hT), .long (lI hL), .int (iI ig)])), (q 1, .inl (cA, 12, .inl (zF Xs))), (q 2, .inl (cA, 12, .inl (zF Ys))), (q 3, .inl (cA, 12, .inl (zF Wt))), (q 4, .inl (cA, 12, .inl (zF Cp))), (q 5, .inl (cA, 12, .inl (zF sh))), (q 6, .inl (cA, 12, .inl (zF kp)))] s.heap.size)) (F0 m 14 ls [.int (iI t0), .ref (q 0)]) := by
    intro t0 gT gt H locs ls hP hD hS hl
    refine va_put (ci := 9) (v := .int (iI t0)) (ty := .int) (C := RX8) (T := TX8) (N := 17) hx hb hts iz_X8_isHidden_X8 tyX8 tyX8_ok nmX8 hown hK hP hD hS 0 rfl rfl 0 (by decide) (hts (.fieldLink RX8 28 "PowerPlotModel" "thrown" "I") (by decide +kernel)) (fun _ h9 => h9) rfl (by decide +kernel) rfl rfl (Nat.le_of_ble_eq_true rfl) dX8_isHidden_14 (fun H locs hP hD hS => ?_)
    have hP : va_P D vwCl [(q 0, .inr (9, [.int (iI t0), .int (iI N), .ref (q 1), .ref (q 2), .ref (q 3), .ref (q 4), .ref (q 5), .ref (q 6), .int (iI iu), .int (iI ax), .int (iI ay), .int (iI ri), .long (lI lT), .long (lI lL), .long (lI hT), .long (lI hL), .int (iI ig)])), (q 1, .inl (cA, 12, .inl (zF Xs))), (q 2, .inl (cA, 12, .inl (zF Ys))), (q 3, .inl (cA, 12, .inl (zF Wt))), (q 4, .inl (cA, 12, .inl (zF Cp))), (q 5, .inl (cA, 12, .inl (zF sh))), (q 6, .inl (cA, 12, .inl (zF kp)))] H := hP
    have hD : va_D _ [(q 0, .inr (9, [.int (iI t0), .int (iI N), .ref (q 1), .ref (q 2), .ref (q 3), .ref (q 4), .ref (q 5), .ref (q 6), .int (iI iu), .int (iI ax), .int (iI ay), .int (iI ri), .long (lI lT), .long (lI lL), .long (lI hT), .long (lI hL), .int (iI ig)])), (q 1, .inl (cA, 12, .inl (zF Xs))), (q 2, .inl (cA, 12, .inl (zF Ys))), (q 3, .inl (cA, 12, .inl (zF Wt))), (q 4, .inl (cA, 12, .inl (zF Cp))), (q 5, .inl (cA, 12, .inl (zF sh))), (q 6, .inl (cA, 12, .inl (zF kp)))] := hD
    refine lv_iconst (v := iI 0) hx hb dX8_isHidden_17 rfl ?_
    refine lv_istore_n (lv' := [(2, .int (iI 0)), (0, .ref (q 0)), (1, .int (iI k))]) hx hb dX8_isHidden_18 rfl hl (by decide) rfl (fun ls hl => ?_)
    refine lv_iconst (v := iI 0) hx hb dX8_isHidden_19 rfl ?_
    refine lv_istore_n (lv' := [(3, .int (iI 0)), (2, .int (iI 0)), (0, .ref (q 0)), (1, .int (iI k))]) hx hb dX8_isHidden_20 rfl hl (by decide) rfl (fun ls hl => ?_)
    have L21 : ∀ (n : Nat) (i : Int) (b0 : Int), (N - i < (n : Int)) → (0 ≤ i ∧ i ≤ N) → (b0 = bI (zHo Xs Ys Wt N k i)) → ∀ (H : Heap) (locs : List Loc) (ls : Array Slot), va_P D vwCl [(q 0, .inr (9, [.int (iI t0), .int (iI N), .ref (q 1), .ref (q 2), .ref (q 3), .ref (q 4), .ref (q 5), .ref (q 6), .int (iI iu), .int (iI ax), .int (iI ay), .int (iI ri), .long (lI lT), .long (lI lL), .long (lI hT), .long (lI hL), .int (iI ig)])), (q 1, .inl (cA, 12, .inl (zF Xs))), (q 2, .inl (cA, 12, .inl (zF Ys))), (q 3, .inl (cA, 12, .inl (zF Wt))), (q 4, .inl (cA, 12, .inl (zF Cp))), (q 5, .inl (cA, 12, .inl (zF sh))), (q 6, .inl (cA, 12, .inl (zF kp)))] H → va_D (va_A [(q 0, .inr (9, [.int (iI th), .int (iI N), .ref (q 1), .ref (q 2), .ref (q 3), .ref (q 4), .ref (q 5), .ref (q 6), .int (iI iu), .int (iI ax), .int (iI ay), .int (iI ri), .long (lI lT), .long (lI lL), .long (lI hT), .long (lI hL), .int (iI ig)])), (q 1, .inl (cA, 12, .inl (zF Xs))), (q 2, .inl (cA, 12, .inl (zF Ys))), (q 3, .inl (cA, 12, .inl (zF Wt))), (q 4, .inl (cA, 12, .inl (zF Cp))), (q 5, .inl (cA, 12, .inl (zF sh))), (q 6, .inl (cA, 12, .inl (zF kp)))] s.heap.size) [(q 0, .inr (9, [.int (iI t0), .int (iI N), .ref (q 1), .ref (q 2), .ref (q 3), .ref (q 4), .ref (q 5), .ref (q 6), .int (iI iu), .int (iI ax), .int (iI ay), .int (iI ri), .long (lI lT), .long (lI lL), .long (lI hT), .long (lI hL), .int (iI ig)])), (q 1, .inl (cA, 12, .inl (zF Xs))), (q 2, .inl (cA, 12, .inl (zF Ys))), (q 3, .inl (cA, 12, .inl (zF Wt))), (q 4, .inl (cA, 12, .inl (zF Cp))), (q 5, .inl (cA, 12, .inl (zF sh))), (q 6, .inl (cA, 12, .inl (zF kp)))] → va_S (va_A [(q 0, .inr (9, [.int (iI th), .int (iI N), .ref (q 1), .ref (q 2), .ref (q 3), .ref (q 4), .ref (q 5), .ref (q 6), .int (iI iu), .int (iI ax), .int (iI ay), .int (iI ri), .long (lI lT), .long (lI lL), .long (lI hT), .long (lI hL), .int (iI ig)])), (q 1, .inl (cA, 12, .inl (zF Xs))), (q 2, .inl (cA, 12, .inl (zF Ys))), (q 3, .inl (cA, 12, .inl (zF Wt))), (q 4, .inl (cA, 12, .inl (zF Cp))), (q 5, .inl (cA, 12, .inl (zF sh))), (q 6, .inl (cA, 12, .inl (zF kp)))] s.heap.size) s.heap H locs → lv_has ls 6 [(0, .ref (q 0)), (1, .int (iI k)), (2, .int (iI b0)), (3, .int (iI i))] → W p l e (headSpec wsX8_isHidden ({ frames := 2, cells := 0, slots := 0, locals := 58 })).room s m ([.ref (q 0), .int (iI k)] : List Value).toArray below meth c H locs 0 0 (MQ below (zWi (fun (u : Int × Int) => u.2) (fun (u : Int × Int) => (0 ≤ k ∧ k < N → u.1 = 0 ∧ u.2 = bI (zHo Xs Ys Wt N k N)) ∧ (¬ (0 ≤ k ∧ k < N) → u.1 = 1)) D (fun (u : Int × Int) => [(q 0, .inr (9, [.int (iI u.1), .int (iI N), .ref (q 1), .ref (q 2), .ref (q 3), .ref (q 4), .ref (q 5), .ref (q 6), .int (iI iu), .int (iI ax), .int (iI ay), .int (iI ri), .long (lI lT), .long (lI lL), .long (lI hT), .long (lI hL), .int (iI ig)])), (q 1, .inl (cA, 12, .inl (zF Xs))), (q 2, .inl (cA, 12, .inl (zF Ys))), (q 3, .inl (cA, 12, .inl (zF Wt))), (q 4, .inl (cA, 12, .inl (zF Cp))), (q 5, .inl (cA, 12, .inl (zF sh))), (q 6, .inl (cA, 12, .inl (zF kp)))]) [(q 0, .inr (9, [.int (iI th), .int (iI N), .ref (q 1), .ref (q 2), .ref (q 3), .ref (q 4), .ref (q 5), .ref (q 6), .int (iI iu), .int (iI ax), .int (iI ay), .int (iI ri), .long (lI lT), .long (lI lL), .long (lI hT), .long (lI hL), .int (iI ig)])), (q 1, .inl (cA, 12, .inl (zF Xs))), (q 2, .inl (cA, 12, .inl (zF Ys))), (q 3, .inl (cA, 12, .inl (zF Wt))), (q 4, .inl (cA, 12, .inl (zF Cp))), (q 5, .inl (cA, 12, .inl (zF sh))), (q 6, .inl (cA, 12, .inl (zF kp)))] s.heap.size) ([.ref (q 0), .int (iI k)] : List Value).toArray s 0 0 (va_A [(q 0, .inr (9, [.int (iI th), .int (iI N), .ref (q 1), .ref (q 2), .ref (q 3), .ref (q 4), .ref (q 5), .ref (q 6), .int (iI iu), .int (iI ax), .int (iI ay), .int (iI ri), .long (lI lT), .long (lI lL), .long (lI hT), .long (lI hL), .int (iI ig)])), (q 1, .inl (cA, 12, .inl (zF Xs))), (q 2, .inl (cA, 12, .inl (zF Ys))), (q 3, .inl (cA, 12, .inl (zF Wt))), (q 4, .inl (cA, 12, .inl (zF Cp))), (q 5, .inl (cA, 12, .inl (zF sh))), (q 6, .inl (cA, 12, .inl (zF kp)))] s.heap.size)) (F0 m 21 ls []) := by
      intro n
      induction n with
      | zero =>
        intro i b0 hn9 h1 h2 H locs ls hP hD hS hl
        exact absurd hn9 (by omega)
      | succ n ih21 =>
        intro i b0 hn9 h1 h2 H locs ls hP hD hS hl
        have h3 := bI_rg (zHo Xs Ys Wt N k i)
        rw [← h2] at h3
        refine lv_iload_n hx hb dX8_isHidden_21 rfl (lv_at hl 3 rfl) ?_
        refine lv_aload_n hx hb dX8_isHidden_22 rfl (lv_at hl 0 rfl) ?_
        refine va_get (ci := 9) (v := .int (iI N)) (C := RX8) (T := TX8) (N := 17) hx hb hts iz_X8_isHidden_X8 hown hK hP 0 rfl rfl 1 (by decide) (hts (.fieldLink RX8 32 "PowerPlotModel" "sites" "I") (by decide +kernel)) (fun _ h9 => h9) rfl dX8_isHidden_23 ?_
        refine zi_icmp_ge (tgt := 159) hx hb dX8_isHidden_26 (by decide) (by omega) (by omega) (fun c26 => ?_) (fun c26 => ?_)
        · skip
          refine lv_iload_n hx hb dX8_isHidden_159 rfl (lv_at hl 2 rfl) ?_
          exact W.zret (v := iI b0) (ty := .boolean) hx hb hr (by rw [h2]; exact bI_nar _) (fun t ht hW => ⟨⟨iI b0, (t0, b0), rfl, ⟨congrArg iI (by rfl), (by dsimp only; refine ⟨fun z => ?_, gT.2⟩; first | (exfalso; omega) | (refine ⟨gT.1 z, ?_⟩; rw [h2, show i = N by omega]) | fail)⟩, ⟨by rw [ht]; exact hP, hD⟩⟩, hS.F ht⟩) hS.2.2 dX8_isHidden_160
        · skip
          refine lv_aload_n hx hb dX8_isHidden_29 rfl (lv_at hl 0 rfl) ?_
          refine va_get (ci := 9) (v := .int (iI t0)) (C := RX8) (T := TX8) (N := 17) hx hb hts iz_X8_isHidden_X8 hown hK hP 0 rfl rfl 0 (by decide) (hts (.fieldLink RX8 28 "PowerPlotModel" "thrown" "I") (by decide +kernel)) (fun _ h9 => h9) rfl dX8_isHidden_30 ?_
          refine zi_if_ne (tgt := 159) hx hb dX8_isHidden_33 (by decide) (by omega) (fun c33 => ?_) (fun c33 => ?_)
          · skip
            refine lv_iload_n hx hb dX8_isHidden_159 rfl (lv_at hl 2 rfl) ?_
            exact W.zret (v := iI b0) (ty := .boolean) hx hb hr (by rw [h2]; exact bI_nar _) (fun t ht hW => ⟨⟨iI b0, (t0, b0), rfl, ⟨congrArg iI (by rfl), (by dsimp only; refine ⟨fun z => ?_, gT.2⟩; first | (exfalso; omega) | (refine ⟨gT.1 z, ?_⟩; rw [h2, show i = N by omega]) | fail)⟩, ⟨by rw [ht]; exact hP, hD⟩⟩, hS.F ht⟩) hS.2.2 dX8_isHidden_160
          · skip
            refine lv_iload_n hx hb dX8_isHidden_36 rfl (lv_at hl 3 rfl) ?_
            refine lv_istore (lv' := [(4, .int (iI i)), (0, .ref (q 0)), (1, .int (iI k)), (2, .int (iI b0)), (3, .int (iI i))]) hx hb dX8_isHidden_37 hl (by decide) rfl (fun ls hl => ?_)
            have L39 : ∀ (n : Nat) (j : Int) (b1 : Int), (N - j < (n : Int)) → (i ≤ j ∧ j ≤ N) → (b1 = bI (zHm Xs Ys Wt N k i j)) → ∀ (H : Heap) (locs : List Loc) (ls : Array Slot), va_P D vwCl [(q 0, .inr (9, [.int (iI t0), .int (iI N), .ref (q 1), .ref (q 2), .ref (q 3), .ref (q 4), .ref (q 5), .ref (q 6), .int (iI iu), .int (iI ax), .int (iI ay), .int (iI ri), .long (lI lT), .long (lI lL), .long (lI hT), .long (lI hL), .int (iI ig)])), (q 1, .inl (cA, 12, .inl (zF Xs))), (q 2, .inl (cA, 12, .inl (zF Ys))), (q 3, .inl (cA, 12, .inl (zF Wt))), (q 4, .inl (cA, 12, .inl (zF Cp))), (q 5, .inl (cA, 12, .inl (zF sh))), (q 6, .inl (cA, 12, .inl (zF kp)))] H → va_D (va_A [(q 0, .inr (9, [.int (iI th), .int (iI N), .ref (q 1), .ref (q 2), .ref (q 3), .ref (q 4), .ref (q 5), .ref (q 6), .int (iI iu), .int (iI ax), .int (iI ay), .int (iI ri), .long (lI lT), .long (lI lL), .long (lI hT), .long (lI hL), .int (iI ig)])), (q 1, .inl (cA, 12, .inl (zF Xs))), (q 2, .inl (cA, 12, .inl (zF Ys))), (q 3, .inl (cA, 12, .inl (zF Wt))), (q 4, .inl (cA, 12, .inl (zF Cp))), (q 5, .inl (cA, 12, .inl (zF sh))), (q 6, .inl (cA, 12, .inl (zF kp)))] s.heap.size) [(q 0, .inr (9, [.int (iI t0), .int (iI N), .ref (q 1), .ref (q 2), .ref (q 3), .ref (q 4), .ref (q 5), .ref (q 6), .int (iI iu), .int (iI ax), .int (iI ay), .int (iI ri), .long (lI lT), .long (lI lL), .long (lI hT), .long (lI hL), .int (iI ig)])), (q 1, .inl (cA, 12, .inl (zF Xs))), (q 2, .inl (cA, 12, .inl (zF Ys))), (q 3, .inl (cA, 12, .inl (zF Wt))), (q 4, .inl (cA, 12, .inl (zF Cp))), (q 5, .inl (cA, 12, .inl (zF sh))), (q 6, .inl (cA, 12, .inl (zF kp)))] → va_S (va_A [(q 0, .inr (9, [.int (iI th), .int (iI N), .ref (q 1), .ref (q 2), .ref (q 3), .ref (q 4), .ref (q 5), .ref (q 6), .int (iI iu), .int (iI ax), .int (iI ay), .int (iI ri), .long (lI lT), .long (lI lL), .long (lI hT), .long (lI hL), .int (iI ig)])), (q 1, .inl (cA, 12, .inl (zF Xs))), (q 2, .inl (cA, 12, .inl (zF Ys))), (q 3, .inl (cA, 12, .inl (zF Wt))), (q 4, .inl (cA, 12, .inl (zF Cp))), (q 5, .inl (cA, 12, .inl (zF sh))), (q 6, .inl (cA, 12, .inl (zF kp)))] s.heap.size) s.heap H locs → lv_has ls 6 [(0, .ref (q 0)), (1, .int (iI k)), (2, .int (iI b1)), (3, .int (iI i)), (4, .int (iI j))] → W p l e (headSpec wsX8_isHidden ({ frames := 2, cells := 0, slots := 0, locals := 58 })).room s m ([.ref (q 0), .int (iI k)] : List Value).toArray below meth c H locs 0 0 (MQ below (zWi (fun (u : Int × Int) => u.2) (fun (u : Int × Int) => (0 ≤ k ∧ k < N → u.1 = 0 ∧ u.2 = bI (zHo Xs Ys Wt N k N)) ∧ (¬ (0 ≤ k ∧ k < N) → u.1 = 1)) D (fun (u : Int × Int) => [(q 0, .inr (9, [.int (iI u.1), .int (iI N), .ref (q 1), .ref (q 2), .ref (q 3), .ref (q 4), .ref (q 5), .ref (q 6), .int (iI iu), .int (iI ax), .int (iI ay), .int (iI ri), .long (lI lT), .long (lI lL), .long (lI hT), .long (lI hL), .int (iI ig)])), (q 1, .inl (cA, 12, .inl (zF Xs))), (q 2, .inl (cA, 12, .inl (zF Ys))), (q 3, .inl (cA, 12, .inl (zF Wt))), (q 4, .inl (cA, 12, .inl (zF Cp))), (q 5, .inl (cA, 12, .inl (zF sh))), (q 6, .inl (cA, 12, .inl (zF kp)))]) [(q 0, .inr (9, [.int (iI th), .int (iI N), .ref (q 1), .ref (q 2), .ref (q 3), .ref (q 4), .ref (q 5), .ref (q 6), .int (iI iu), .int (iI ax), .int (iI ay), .int (iI ri), .long (lI lT), .long (lI lL), .long (lI hT), .long (lI hL), .int (iI ig)])), (q 1, .inl (cA, 12, .inl (zF Xs))), (q 2, .inl (cA, 12, .inl (zF Ys))), (q 3, .inl (cA, 12, .inl (zF Wt))), (q 4, .inl (cA, 12, .inl (zF Cp))), (q 5, .inl (cA, 12, .inl (zF sh))), (q 6, .inl (cA, 12, .inl (zF kp)))] s.heap.size) ([.ref (q 0), .int (iI k)] : List Value).toArray s 0 0 (va_A [(q 0, .inr (9, [.int (iI th), .int (iI N), .ref (q 1), .ref (q 2), .ref (q 3), .ref (q 4), .ref (q 5), .ref (q 6), .int (iI iu), .int (iI ax), .int (iI ay), .int (iI ri), .long (lI lT), .long (lI lL), .long (lI hT), .long (lI hL), .int (iI ig)])), (q 1, .inl (cA, 12, .inl (zF Xs))), (q 2, .inl (cA, 12, .inl (zF Ys))), (q 3, .inl (cA, 12, .inl (zF Wt))), (q 4, .inl (cA, 12, .inl (zF Cp))), (q 5, .inl (cA, 12, .inl (zF sh))), (q 6, .inl (cA, 12, .inl (zF kp)))] s.heap.size)) (F0 m 39 ls []) := by
              intro n
              induction n with
              | zero =>
                intro j b1 hn9 k1 k2 H locs ls hP hD hS hl
                exact absurd hn9 (by omega)
              | succ n ih39 =>
                intro j b1 hn9 k1 k2 H locs ls hP hD hS hl
                have k3 := bI_rg (zHm Xs Ys Wt N k i j)
                rw [← k2] at k3
                refine lv_iload hx hb dX8_isHidden_39 (lv_at hl 4 rfl) ?_
                refine lv_aload_n hx hb dX8_isHidden_41 rfl (lv_at hl 0 rfl) ?_
                refine va_get (ci := 9) (v := .int (iI N)) (C := RX8) (T := TX8) (N := 17) hx hb hts iz_X8_isHidden_X8 hown hK hP 0 rfl rfl 1 (by decide) (hts (.fieldLink RX8 32 "PowerPlotModel" "sites" "I") (by decide +kernel)) (fun _ h9 => h9) rfl dX8_isHidden_42 ?_
                refine zi_icmp_ge (tgt := 153) hx hb dX8_isHidden_45 (by decide) (by omega) (by omega) (fun c45 => ?_) (fun c45 => ?_)
                · skip
                  refine lv_iinc (v := iI (i + 1)) (lv' := [(3, .int (iI (i + 1))), (0, .ref (q 0)), (1, .int (iI k)), (2, .int (iI b1)), (4, .int (iI j))]) hx hb dX8_isHidden_153 hl (k := 3) rfl (iI_add i 1) (by decide) rfl (fun ls hl => ?_)
                  refine lv_goto (tgt := 21) hx hb dX8_isHidden_156 (by decide) ?_
                  exact ih21 (i + 1) b1 (by omega) (by omega) (by rw [k2, show j = N by omega]; exact bI_c (zHo_s h1.1).symm) _ _ _ hP hD hS (lv_sub hl [1, 2, 3, 0] rfl)
                · skip
                  have J79 : ∀ (v1 : Int), (v1 = bI (zHm Xs Ys Wt N k i j ∨ (¬ i = k ∧ ¬ j = k ∧ zOp Xs Ys Wt k i j))) → ∀ (H : Heap) (locs : List Loc) (ls : Array Slot), va_P D vwCl [(q 0, .inr (9, [.int (iI t0), .int (iI N), .ref (q 1), .ref (q 2), .ref (q 3), .ref (q 4), .ref (q 5), .ref (q 6), .int (iI iu), .int (iI ax), .int (iI ay), .int (iI ri), .long (lI lT), .long (lI lL), .long (lI hT), .long (lI hL), .int (iI ig)])), (q 1, .inl (cA, 12, .inl (zF Xs))), (q 2, .inl (cA, 12, .inl (zF Ys))), (q 3, .inl (cA, 12, .inl (zF Wt))), (q 4, .inl (cA, 12, .inl (zF Cp))), (q 5, .inl (cA, 12, .inl (zF sh))), (q 6, .inl (cA, 12, .inl (zF kp)))] H → va_D (va_A [(q 0, .inr (9, [.int (iI th), .int (iI N), .ref (q 1), .ref (q 2), .ref (q 3), .ref (q 4), .ref (q 5), .ref (q 6), .int (iI iu), .int (iI ax), .int (iI ay), .int (iI ri), .long (lI lT), .long (lI lL), .long (lI hT), .long (lI hL), .int (iI ig)])), (q 1, .inl (cA, 12, .inl (zF Xs))), (q 2, .inl (cA, 12, .inl (zF Ys))), (q 3, .inl (cA, 12, .inl (zF Wt))), (q 4, .inl (cA, 12, .inl (zF Cp))), (q 5, .inl (cA, 12, .inl (zF sh))), (q 6, .inl (cA, 12, .inl (zF kp)))] s.heap.size) [(q 0, .inr (9, [.int (iI t0), .int (iI N), .ref (q 1), .ref (q 2), .ref (q 3), .ref (q 4), .ref (q 5), .ref (q 6), .int (iI iu), .int (iI ax), .int (iI ay), .int (iI ri), .long (lI lT), .long (lI lL), .long (lI hT), .long (lI hL), .int (iI ig)])), (q 1, .inl (cA, 12, .inl (zF Xs))), (q 2, .inl (cA, 12, .inl (zF Ys))), (q 3, .inl (cA, 12, .inl (zF Wt))), (q 4, .inl (cA, 12, .inl (zF Cp))), (q 5, .inl (cA, 12, .inl (zF sh))), (q 6, .inl (cA, 12, .inl (zF kp)))] → va_S (va_A [(q 0, .inr (9, [.int (iI th), .int (iI N), .ref (q 1), .ref (q 2), .ref (q 3), .ref (q 4), .ref (q 5), .ref (q 6), .int (iI iu), .int (iI ax), .int (iI ay), .int (iI ri), .long (lI lT), .long (lI lL), .long (lI hT), .long (lI hL), .int (iI ig)])), (q 1, .inl (cA, 12, .inl (zF Xs))), (q 2, .inl (cA, 12, .inl (zF Ys))), (q 3, .inl (cA, 12, .inl (zF Wt))), (q 4, .inl (cA, 12, .inl (zF Cp))), (q 5, .inl (cA, 12, .inl (zF sh))), (q 6, .inl (cA, 12, .inl (zF kp)))] s.heap.size) s.heap H locs → lv_has ls 6 [(0, .ref (q 0)), (1, .int (iI k)), (2, .int (iI b1)), (3, .int (iI i)), (4, .int (iI j))] → W p l e (headSpec wsX8_isHidden ({ frames := 2, cells := 0, slots := 0, locals := 58 })).room s m ([.ref (q 0), .int (iI k)] : List Value).toArray below meth c H locs 0 0 (MQ below (zWi (fun (u : Int × Int) => u.2) (fun (u : Int × Int) => (0 ≤ k ∧ k < N → u.1 = 0 ∧ u.2 = bI (zHo Xs Ys Wt N k N)) ∧ (¬ (0 ≤ k ∧ k < N) → u.1 = 1)) D (fun (u : Int × Int) => [(q 0, .inr (9, [.int (iI u.1), .int (iI N), .ref (q 1), .ref (q 2), .ref (q 3), .ref (q 4), .ref (q 5), .ref (q 6), .int (iI iu), .int (iI ax), .int (iI ay), .int (iI ri), .long (lI lT), .long (lI lL), .long (lI hT), .long (lI hL), .int (iI ig)])), (q 1, .inl (cA, 12, .inl (zF Xs))), (q 2, .inl (cA, 12, .inl (zF Ys))), (q 3, .inl (cA, 12, .inl (zF Wt))), (q 4, .inl (cA, 12, .inl (zF Cp))), (q 5, .inl (cA, 12, .inl (zF sh))), (q 6, .inl (cA, 12, .inl (zF kp)))]) [(q 0, .inr (9, [.int (iI th), .int (iI N), .ref (q 1), .ref (q 2), .ref (q 3), .ref (q 4), .ref (q 5), .ref (q 6), .int (iI iu), .int (iI ax), .int (iI ay), .int (iI ri), .long (lI lT), .long (lI lL), .long (lI hT), .long (lI hL), .int (iI ig)])), (q 1, .inl (cA, 12, .inl (zF Xs))), (q 2, .inl (cA, 12, .inl (zF Ys))), (q 3, .inl (cA, 12, .inl (zF Wt))), (q 4, .inl (cA, 12, .inl (zF Cp))), (q 5, .inl (cA, 12, .inl (zF sh))), (q 6, .inl (cA, 12, .inl (zF kp)))] s.heap.size) ([.ref (q 0), .int (iI k)] : List Value).toArray s 0 0 (va_A [(q 0, .inr (9, [.int (iI th), .int (iI N), .ref (q 1), .ref (q 2), .ref (q 3), .ref (q 4), .ref (q 5), .ref (q 6), .int (iI iu), .int (iI ax), .int (iI ay), .int (iI ri), .long (lI lT), .long (lI lL), .long (lI hT), .long (lI hL), .int (iI ig)])), (q 1, .inl (cA, 12, .inl (zF Xs))), (q 2, .inl (cA, 12, .inl (zF Ys))), (q 3, .inl (cA, 12, .inl (zF Wt))), (q 4, .inl (cA, 12, .inl (zF Cp))), (q 5, .inl (cA, 12, .inl (zF sh))), (q 6, .inl (cA, 12, .inl (zF kp)))] s.heap.size)) (F0 m 79 ls [.int (iI v1)]) := by
                    intro v1 gv H locs ls hP hD hS hl
                    refine lv_istore_n (lv' := [(2, .int (iI v1)), (0, .ref (q 0)), (1, .int (iI k)), (3, .int (iI i)), (4, .int (iI j))]) hx hb dX8_isHidden_79 rfl hl (by decide) rfl (fun ls hl => ?_)
                    refine lv_iload hx hb dX8_isHidden_80 (lv_at hl 4 rfl) ?_
                    refine lv_iconst (v := iI 1) hx hb dX8_isHidden_82 rfl ?_
                    refine zi_iadd hx hb dX8_isHidden_83 ?_
                    refine lv_istore (lv' := [(5, .int (iI (j + 1))), (2, .int (iI v1)), (0, .ref (q 0)), (1, .int (iI k)), (3, .int (iI i)), (4, .int (iI j))]) hx hb dX8_isHidden_84 hl (by decide) rfl (fun ls hl => ?_)
                    have L86 : ∀ (n : Nat) (j3 : Int) (b2 : Int), (N - j3 < (n : Int)) → (j + 1 ≤ j3 ∧ j3 ≤ N) → (b2 = bI (zHi Xs Ys Wt N k i j j3)) → ∀ (H : Heap) (locs : List Loc) (ls : Array Slot), va_P D vwCl [(q 0, .inr (9, [.int (iI t0), .int (iI N), .ref (q 1), .ref (q 2), .ref (q 3), .ref (q 4), .ref (q 5), .ref (q 6), .int (iI iu), .int (iI ax), .int (iI ay), .int (iI ri), .long (lI lT), .long (lI lL), .long (lI hT), .long (lI hL), .int (iI ig)])), (q 1, .inl (cA, 12, .inl (zF Xs))), (q 2, .inl (cA, 12, .inl (zF Ys))), (q 3, .inl (cA, 12, .inl (zF Wt))), (q 4, .inl (cA, 12, .inl (zF Cp))), (q 5, .inl (cA, 12, .inl (zF sh))), (q 6, .inl (cA, 12, .inl (zF kp)))] H → va_D (va_A [(q 0, .inr (9, [.int (iI th), .int (iI N), .ref (q 1), .ref (q 2), .ref (q 3), .ref (q 4), .ref (q 5), .ref (q 6), .int (iI iu), .int (iI ax), .int (iI ay), .int (iI ri), .long (lI lT), .long (lI lL), .long (lI hT), .long (lI hL), .int (iI ig)])), (q 1, .inl (cA, 12, .inl (zF Xs))), (q 2, .inl (cA, 12, .inl (zF Ys))), (q 3, .inl (cA, 12, .inl (zF Wt))), (q 4, .inl (cA, 12, .inl (zF Cp))), (q 5, .inl (cA, 12, .inl (zF sh))), (q 6, .inl (cA, 12, .inl (zF kp)))] s.heap.size) [(q 0, .inr (9, [.int (iI t0), .int (iI N), .ref (q 1), .ref (q 2), .ref (q 3), .ref (q 4), .ref (q 5), .ref (q 6), .int (iI iu), .int (iI ax), .int (iI ay), .int (iI ri), .long (lI lT), .long (lI lL), .long (lI hT), .long (lI hL), .int (iI ig)])), (q 1, .inl (cA, 12, .inl (zF Xs))), (q 2, .inl (cA, 12, .inl (zF Ys))), (q 3, .inl (cA, 12, .inl (zF Wt))), (q 4, .inl (cA, 12, .inl (zF Cp))), (q 5, .inl (cA, 12, .inl (zF sh))), (q 6, .inl (cA, 12, .inl (zF kp)))] → va_S (va_A [(q 0, .inr (9, [.int (iI th), .int (iI N), .ref (q 1), .ref (q 2), .ref (q 3), .ref (q 4), .ref (q 5), .ref (q 6), .int (iI iu), .int (iI ax), .int (iI ay), .int (iI ri), .long (lI lT), .long (lI lL), .long (lI hT), .long (lI hL), .int (iI ig)])), (q 1, .inl (cA, 12, .inl (zF Xs))), (q 2, .inl (cA, 12, .inl (zF Ys))), (q 3, .inl (cA, 12, .inl (zF Wt))), (q 4, .inl (cA, 12, .inl (zF Cp))), (q 5, .inl (cA, 12, .inl (zF sh))), (q 6, .inl (cA, 12, .inl (zF kp)))] s.heap.size) s.heap H locs → lv_has ls 6 [(0, .ref (q 0)), (1, .int (iI k)), (2, .int (iI b2)), (3, .int (iI i)), (4, .int (iI j)), (5, .int (iI j3))] → W p l e (headSpec wsX8_isHidden ({ frames := 2, cells := 0, slots := 0, locals := 58 })).room s m ([.ref (q 0), .int (iI k)] : List Value).toArray below meth c H locs 0 0 (MQ below (zWi (fun (u : Int × Int) => u.2) (fun (u : Int × Int) => (0 ≤ k ∧ k < N → u.1 = 0 ∧ u.2 = bI (zHo Xs Ys Wt N k N)) ∧ (¬ (0 ≤ k ∧ k < N) → u.1 = 1)) D (fun (u : Int × Int) => [(q 0, .inr (9, [.int (iI u.1), .int (iI N), .ref (q 1), .ref (q 2), .ref (q 3), .ref (q 4), .ref (q 5), .ref (q 6), .int (iI iu), .int (iI ax), .int (iI ay), .int (iI ri), .long (lI lT), .long (lI lL), .long (lI hT), .long (lI hL), .int (iI ig)])), (q 1, .inl (cA, 12, .inl (zF Xs))), (q 2, .inl (cA, 12, .inl (zF Ys))), (q 3, .inl (cA, 12, .inl (zF Wt))), (q 4, .inl (cA, 12, .inl (zF Cp))), (q 5, .inl (cA, 12, .inl (zF sh))), (q 6, .inl (cA, 12, .inl (zF kp)))]) [(q 0, .inr (9, [.int (iI th), .int (iI N), .ref (q 1), .ref (q 2), .ref (q 3), .ref (q 4), .ref (q 5), .ref (q 6), .int (iI iu), .int (iI ax), .int (iI ay), .int (iI ri), .long (lI lT), .long (lI lL), .long (lI hT), .long (lI hL), .int (iI ig)])), (q 1, .inl (cA, 12, .inl (zF Xs))), (q 2, .inl (cA, 12, .inl (zF Ys))), (q 3, .inl (cA, 12, .inl (zF Wt))), (q 4, .inl (cA, 12, .inl (zF Cp))), (q 5, .inl (cA, 12, .inl (zF sh))), (q 6, .inl (cA, 12, .inl (zF kp)))] s.heap.size) ([.ref (q 0), .int (iI k)] : List Value).toArray s 0 0 (va_A [(q 0, .inr (9, [.int (iI th), .int (iI N), .ref (q 1), .ref (q 2), .ref (q 3), .ref (q 4), .ref (q 5), .ref (q 6), .int (iI iu), .int (iI ax), .int (iI ay), .int (iI ri), .long (lI lT), .long (lI lL), .long (lI hT), .long (lI hL), .int (iI ig)])), (q 1, .inl (cA, 12, .inl (zF Xs))), (q 2, .inl (cA, 12, .inl (zF Ys))), (q 3, .inl (cA, 12, .inl (zF Wt))), (q 4, .inl (cA, 12, .inl (zF Cp))), (q 5, .inl (cA, 12, .inl (zF sh))), (q 6, .inl (cA, 12, .inl (zF kp)))] s.heap.size)) (F0 m 86 ls []) := by
                      intro n
                      induction n with
                      | zero =>
                        intro j3 b2 hn9 m1 m2 H locs ls hP hD hS hl
                        exact absurd hn9 (by omega)
                      | succ n ih86 =>
                        intro j3 b2 hn9 m1 m2 H locs ls hP hD hS hl
                        have m3 := bI_rg (zHi Xs Ys Wt N k i j j3)
                        rw [← m2] at m3
                        refine lv_iload hx hb dX8_isHidden_86 (lv_at hl 5 rfl) ?_
                        refine lv_aload_n hx hb dX8_isHidden_88 rfl (lv_at hl 0 rfl) ?_
                        refine va_get (ci := 9) (v := .int (iI N)) (C := RX8) (T := TX8) (N := 17) hx hb hts iz_X8_isHidden_X8 hown hK hP 0 rfl rfl 1 (by decide) (hts (.fieldLink RX8 32 "PowerPlotModel" "sites" "I") (by decide +kernel)) (fun _ h9 => h9) rfl dX8_isHidden_89 ?_
                        refine zi_icmp_ge (tgt := 147) hx hb dX8_isHidden_92 (by decide) (by omega) (by omega) (fun c92 => ?_) (fun c92 => ?_)
                        · skip
                          refine lv_iinc (v := iI (j + 1)) (lv' := [(4, .int (iI (j + 1))), (0, .ref (q 0)), (1, .int (iI k)), (2, .int (iI b2)), (3, .int (iI i)), (5, .int (iI j3))]) hx hb dX8_isHidden_147 hl (k := 4) rfl (iI_add j 1) (by decide) rfl (fun ls hl => ?_)
                          refine lv_goto (tgt := 39) hx hb dX8_isHidden_150 (by decide) ?_
                          exact ih39 (j + 1) b2 (by omega) (by omega) (by rw [m2, show j3 = N by omega]; exact bI_c (zHm_s k1.1).symm) _ _ _ hP hD hS (lv_sub hl [1, 2, 3, 4, 0] rfl)
                        · skip
                          have J140 : ∀ (v2 : Int), (v2 = bI (zHi Xs Ys Wt N k i j j3 ∨ (¬ i = k ∧ ¬ j = k ∧ ¬ j3 = k ∧ ¬ i = j ∧ zOt Xs Ys Wt k i j j3))) → ∀ (H : Heap) (locs : List Loc) (ls : Array Slot), va_P D vwCl [(q 0, .inr (9, [.int (iI t0), .int (iI N), .ref (q 1), .ref (q 2), .ref (q 3), .ref (q 4), .ref (q 5), .ref (q 6), .int (iI iu), .int (iI ax), .int (iI ay), .int (iI ri), .long (lI lT), .long (lI lL), .long (lI hT), .long (lI hL), .int (iI ig)])), (q 1, .inl (cA, 12, .inl (zF Xs))), (q 2, .inl (cA, 12, .inl (zF Ys))), (q 3, .inl (cA, 12, .inl (zF Wt))), (q 4, .inl (cA, 12, .inl (zF Cp))), (q 5, .inl (cA, 12, .inl (zF sh))), (q 6, .inl (cA, 12, .inl (zF kp)))] H → va_D (va_A [(q 0, .inr (9, [.int (iI th), .int (iI N), .ref (q 1), .ref (q 2), .ref (q 3), .ref (q 4), .ref (q 5), .ref (q 6), .int (iI iu), .int (iI ax), .int (iI ay), .int (iI ri), .long (lI lT), .long (lI lL), .long (lI hT), .long (lI hL), .int (iI ig)])), (q 1, .inl (cA, 12, .inl (zF Xs))), (q 2, .inl (cA, 12, .inl (zF Ys))), (q 3, .inl (cA, 12, .inl (zF Wt))), (q 4, .inl (cA, 12, .inl (zF Cp))), (q 5, .inl (cA, 12, .inl (zF sh))), (q 6, .inl (cA, 12, .inl (zF kp)))] s.heap.size) [(q 0, .inr (9, [.int (iI t0), .int (iI N), .ref (q 1), .ref (q 2), .ref (q 3), .ref (q 4), .ref (q 5), .ref (q 6), .int (iI iu), .int (iI ax), .int (iI ay), .int (iI ri), .long (lI lT), .long (lI lL), .long (lI hT), .long (lI hL), .int (iI ig)])), (q 1, .inl (cA, 12, .inl (zF Xs))), (q 2, .inl (cA, 12, .inl (zF Ys))), (q 3, .inl (cA, 12, .inl (zF Wt))), (q 4, .inl (cA, 12, .inl (zF Cp))), (q 5, .inl (cA, 12, .inl (zF sh))), (q 6, .inl (cA, 12, .inl (zF kp)))] → va_S (va_A [(q 0, .inr (9, [.int (iI th), .int (iI N), .ref (q 1), .ref (q 2), .ref (q 3), .ref (q 4), .ref (q 5), .ref (q 6), .int (iI iu), .int (iI ax), .int (iI ay), .int (iI ri), .long (lI lT), .long (lI lL), .long (lI hT), .long (lI hL), .int (iI ig)])), (q 1, .inl (cA, 12, .inl (zF Xs))), (q 2, .inl (cA, 12, .inl (zF Ys))), (q 3, .inl (cA, 12, .inl (zF Wt))), (q 4, .inl (cA, 12, .inl (zF Cp))), (q 5, .inl (cA, 12, .inl (zF sh))), (q 6, .inl (cA, 12, .inl (zF kp)))] s.heap.size) s.heap H locs → lv_has ls 6 [(0, .ref (q 0)), (1, .int (iI k)), (2, .int (iI b2)), (3, .int (iI i)), (4, .int (iI j)), (5, .int (iI j3))] → W p l e (headSpec wsX8_isHidden ({ frames := 2, cells := 0, slots := 0, locals := 58 })).room s m ([.ref (q 0), .int (iI k)] : List Value).toArray below meth c H locs 0 0 (MQ below (zWi (fun (u : Int × Int) => u.2) (fun (u : Int × Int) => (0 ≤ k ∧ k < N → u.1 = 0 ∧ u.2 = bI (zHo Xs Ys Wt N k N)) ∧ (¬ (0 ≤ k ∧ k < N) → u.1 = 1)) D (fun (u : Int × Int) => [(q 0, .inr (9, [.int (iI u.1), .int (iI N), .ref (q 1), .ref (q 2), .ref (q 3), .ref (q 4), .ref (q 5), .ref (q 6), .int (iI iu), .int (iI ax), .int (iI ay), .int (iI ri), .long (lI lT), .long (lI lL), .long (lI hT), .long (lI hL), .int (iI ig)])), (q 1, .inl (cA, 12, .inl (zF Xs))), (q 2, .inl (cA, 12, .inl (zF Ys))), (q 3, .inl (cA, 12, .inl (zF Wt))), (q 4, .inl (cA, 12, .inl (zF Cp))), (q 5, .inl (cA, 12, .inl (zF sh))), (q 6, .inl (cA, 12, .inl (zF kp)))]) [(q 0, .inr (9, [.int (iI th), .int (iI N), .ref (q 1), .ref (q 2), .ref (q 3), .ref (q 4), .ref (q 5), .ref (q 6), .int (iI iu), .int (iI ax), .int (iI ay), .int (iI ri), .long (lI lT), .long (lI lL), .long (lI hT), .long (lI hL), .int (iI ig)])), (q 1, .inl (cA, 12, .inl (zF Xs))), (q 2, .inl (cA, 12, .inl (zF Ys))), (q 3, .inl (cA, 12, .inl (zF Wt))), (q 4, .inl (cA, 12, .inl (zF Cp))), (q 5, .inl (cA, 12, .inl (zF sh))), (q 6, .inl (cA, 12, .inl (zF kp)))] s.heap.size) ([.ref (q 0), .int (iI k)] : List Value).toArray s 0 0 (va_A [(q 0, .inr (9, [.int (iI th), .int (iI N), .ref (q 1), .ref (q 2), .ref (q 3), .ref (q 4), .ref (q 5), .ref (q 6), .int (iI iu), .int (iI ax), .int (iI ay), .int (iI ri), .long (lI lT), .long (lI lL), .long (lI hT), .long (lI hL), .int (iI ig)])), (q 1, .inl (cA, 12, .inl (zF Xs))), (q 2, .inl (cA, 12, .inl (zF Ys))), (q 3, .inl (cA, 12, .inl (zF Wt))), (q 4, .inl (cA, 12, .inl (zF Cp))), (q 5, .inl (cA, 12, .inl (zF sh))), (q 6, .inl (cA, 12, .inl (zF kp)))] s.heap.size)) (F0 m 140 ls [.int (iI v2)]) := by
                            intro v2 gw H locs ls hP hD hS hl
                            refine lv_istore_n (lv' := [(2, .int (iI v2)), (0, .ref (q 0)), (1, .int (iI k)), (3, .int (iI i)), (4, .int (iI j)), (5, .int (iI j3))]) hx hb dX8_isHidden_140 rfl hl (by decide) rfl (fun ls hl => ?_)
                            refine lv_iinc (v := iI (j3 + 1)) (lv' := [(5, .int (iI (j3 + 1))), (2, .int (iI v2)), (0, .ref (q 0)), (1, .int (iI k)), (3, .int (iI i)), (4, .int (iI j))]) hx hb dX8_isHidden_141 hl (k := 5) rfl (iI_add j3 1) (by decide) rfl (fun ls hl => ?_)
                            refine lv_goto (tgt := 86) hx hb dX8_isHidden_144 (by decide) ?_
                            exact ih86 (j3 + 1) v2 (by omega) (by omega) (by rw [gw]; exact bI_c (zHi_s (by omega)).symm) _ _ _ hP hD hS (lv_sub hl [2, 3, 1, 4, 5, 0] rfl)
                          refine lv_iload_n hx hb dX8_isHidden_95 rfl (lv_at hl 2 rfl) ?_
                          refine zi_if_ne (tgt := 135) hx hb dX8_isHidden_96 (by decide) (by omega) (fun c96 => ?_) (fun c96 => ?_)
                          · skip
                            refine lv_iconst (v := iI 1) hx hb dX8_isHidden_135 rfl ?_
                            refine lv_goto (tgt := 140) hx hb dX8_isHidden_136 (by decide) ?_
                            exact J140 1 (by first | exact zor_1 m2 c96 | exact zor_2 ⟨c101, c107, c113, c119, c132⟩ | exact zor_0 m2 c96 (fun z => z.1 c101) | exact zor_0 m2 c96 (fun z => z.2.1 c107) | exact zor_0 m2 c96 (fun z => z.2.2.1 c113) | exact zor_0 m2 c96 (fun z => z.2.2.2.1 c119) | exact zor_0 m2 c96 (fun z => c132 z.2.2.2.2) | fail) _ _ _ hP hD hS (lv_sub hl [0, 1, 2, 3, 4, 5] rfl)
                          · skip
                            refine lv_iload_n hx hb dX8_isHidden_99 rfl (lv_at hl 3 rfl) ?_
                            refine lv_iload_n hx hb dX8_isHidden_100 rfl (lv_at hl 1 rfl) ?_
                            refine zi_icmp_eq (tgt := 139) hx hb dX8_isHidden_101 (by decide) (by omega) (by omega) (fun c101 => ?_) (fun c101 => ?_)
                            · skip
                              refine lv_iconst (v := iI 0) hx hb dX8_isHidden_139 rfl ?_
                              exact J140 0 (by first | exact zor_1 m2 c96 | exact zor_2 ⟨c101, c107, c113, c119, c132⟩ | exact zor_0 m2 c96 (fun z => z.1 c101) | exact zor_0 m2 c96 (fun z => z.2.1 c107) | exact zor_0 m2 c96 (fun z => z.2.2.1 c113) | exact zor_0 m2 c96 (fun z => z.2.2.2.1 c119) | exact zor_0 m2 c96 (fun z => c132 z.2.2.2.2) | fail) _ _ _ hP hD hS (lv_sub hl [0, 1, 2, 3, 4, 5] rfl)
                            · skip
                              refine lv_iload hx hb dX8_isHidden_104 (lv_at hl 4 rfl) ?_
                              refine lv_iload_n hx hb dX8_isHidden_106 rfl (lv_at hl 1 rfl) ?_
                              refine zi_icmp_eq (tgt := 139) hx hb dX8_isHidden_107 (by decide) (by omega) (by omega) (fun c107 => ?_) (fun c107 => ?_)
                              · skip
                                refine lv_iconst (v := iI 0) hx hb dX8_isHidden_139 rfl ?_
                                exact J140 0 (by first | exact zor_1 m2 c96 | exact zor_2 ⟨c101, c107, c113, c119, c132⟩ | exact zor_0 m2 c96 (fun z => z.1 c101) | exact zor_0 m2 c96 (fun z => z.2.1 c107) | exact zor_0 m2 c96 (fun z => z.2.2.1 c113) | exact zor_0 m2 c96 (fun z => z.2.2.2.1 c119) | exact zor_0 m2 c96 (fun z => c132 z.2.2.2.2) | fail) _ _ _ hP hD hS (lv_sub hl [0, 1, 2, 3, 4, 5] rfl)
                              · skip
                                refine lv_iload hx hb dX8_isHidden_110 (lv_at hl 5 rfl) ?_
                                refine lv_iload_n hx hb dX8_isHidden_112 rfl (lv_at hl 1 rfl) ?_
                                refine zi_icmp_eq (tgt := 139) hx hb dX8_isHidden_113 (by decide) (by omega) (by omega) (fun c113 => ?_) (fun c113 => ?_)
                                · skip
                                  refine lv_iconst (v := iI 0) hx hb dX8_isHidden_139 rfl ?_
                                  exact J140 0 (by first | exact zor_1 m2 c96 | exact zor_2 ⟨c101, c107, c113, c119, c132⟩ | exact zor_0 m2 c96 (fun z => z.1 c101) | exact zor_0 m2 c96 (fun z => z.2.1 c107) | exact zor_0 m2 c96 (fun z => z.2.2.1 c113) | exact zor_0 m2 c96 (fun z => z.2.2.2.1 c119) | exact zor_0 m2 c96 (fun z => c132 z.2.2.2.2) | fail) _ _ _ hP hD hS (lv_sub hl [0, 1, 2, 3, 4, 5] rfl)
                                · skip
                                  refine lv_iload_n hx hb dX8_isHidden_116 rfl (lv_at hl 3 rfl) ?_
                                  refine lv_iload hx hb dX8_isHidden_117 (lv_at hl 4 rfl) ?_
                                  refine zi_icmp_eq (tgt := 139) hx hb dX8_isHidden_119 (by decide) (by omega) (by omega) (fun c119 => ?_) (fun c119 => ?_)
                                  · skip
                                    refine lv_iconst (v := iI 0) hx hb dX8_isHidden_139 rfl ?_
                                    exact J140 0 (by first | exact zor_1 m2 c96 | exact zor_2 ⟨c101, c107, c113, c119, c132⟩ | exact zor_0 m2 c96 (fun z => z.1 c101) | exact zor_0 m2 c96 (fun z => z.2.1 c107) | exact zor_0 m2 c96 (fun z => z.2.2.1 c113) | exact zor_0 m2 c96 (fun z => z.2.2.2.1 c119) | exact zor_0 m2 c96 (fun z => c132 z.2.2.2.2) | fail) _ _ _ hP hD hS (lv_sub hl [0, 1, 2, 3, 4, 5] rfl)
                                  · skip
                                    refine lv_aload_n hx hb dX8_isHidden_122 rfl (lv_at hl 0 rfl) ?_
                                    refine lv_iload_n hx hb dX8_isHidden_123 rfl (lv_at hl 1 rfl) ?_
                                    refine lv_iload_n hx hb dX8_isHidden_124 rfl (lv_at hl 3 rfl) ?_
                                    refine lv_iload hx hb dX8_isHidden_125 (lv_at hl 4 rfl) ?_
                                    refine lv_iload hx hb dX8_isHidden_127 (lv_at hl 5 rfl) ?_
                                    refine zc_ri (As := [.int (iI k), .int (iI i), .int (iI j), .int (iI j3)]) (rest := []) ⟨hx, hb, hml, hown, hts⟩ (c_X8_isOverTriangle l D _ tys cA hty q t0 N Xs Ys Wt Cp sh kp iu ax ay ri lT lL hT hL ig k i j j3 gB (by omega) (by omega) (by omega) (by omega)) (cwV 4 hts gX8_isHidden_X8_isOverTriangle rfl rfl rfl (by decide +kernel) ⟨(Nat.le_of_ble_eq_true rfl), (Nat.le_of_ble_eq_true rfl)⟩) hP hK hD hS hA [0, 1, 2, 3, 4, 5, 6] rfl rfl rfl rfl rfl hl.1 rfl (Nat.le_of_ble_eq_true rfl) dX8_isHidden_129 ⟨Nat.zero_le _, Nat.zero_le _⟩ (fun H locs hP hS => ?_)
                                    refine zb_if_eq (tgt := 139) hx hb dX8_isHidden_132 (by decide) (fun c132 => ?_) (fun c132 => ?_)
                                    · skip
                                      refine lv_iconst (v := iI 0) hx hb dX8_isHidden_139 rfl ?_
                                      exact J140 0 (by first | exact zor_1 m2 c96 | exact zor_2 ⟨c101, c107, c113, c119, c132⟩ | exact zor_0 m2 c96 (fun z => z.1 c101) | exact zor_0 m2 c96 (fun z => z.2.1 c107) | exact zor_0 m2 c96 (fun z => z.2.2.1 c113) | exact zor_0 m2 c96 (fun z => z.2.2.2.1 c119) | exact zor_0 m2 c96 (fun z => c132 z.2.2.2.2) | fail) _ _ _ hP hD hS (lv_sub hl [0, 1, 2, 3, 4, 5] rfl)
                                    · skip
                                      refine lv_iconst (v := iI 1) hx hb dX8_isHidden_135 rfl ?_
                                      refine lv_goto (tgt := 140) hx hb dX8_isHidden_136 (by decide) ?_
                                      exact J140 1 (by first | exact zor_1 m2 c96 | exact zor_2 ⟨c101, c107, c113, c119, c132⟩ | exact zor_0 m2 c96 (fun z => z.1 c101) | exact zor_0 m2 c96 (fun z => z.2.1 c107) | exact zor_0 m2 c96 (fun z => z.2.2.1 c113) | exact zor_0 m2 c96 (fun z => z.2.2.2.1 c119) | exact zor_0 m2 c96 (fun z => c132 z.2.2.2.2) | fail) _ _ _ hP hD hS (lv_sub hl [0, 1, 2, 3, 4, 5] rfl)
                    exact L86 (((N - (j + 1) : Int)).toNat + 1) (j + 1) v1 (by omega) (by omega) (by rw [gv]; exact bI_c zHi_0.symm) _ _ _ hP hD hS (lv_sub hl [2, 3, 1, 4, 5, 0] rfl)
                  refine lv_iload_n hx hb dX8_isHidden_48 rfl (lv_at hl 2 rfl) ?_
                  refine zi_if_ne (tgt := 74) hx hb dX8_isHidden_49 (by decide) (by omega) (fun c49 => ?_) (fun c49 => ?_)
                  · skip
                    refine lv_iconst (v := iI 1) hx hb dX8_isHidden_74 rfl ?_
                    refine lv_goto (tgt := 79) hx hb dX8_isHidden_75 (by decide) ?_
                    exact J79 1 (by first | exact zor_1 k2 c49 | exact zor_2 ⟨c54, c60, c71⟩ | exact zor_0 k2 c49 (fun z => z.1 c54) | exact zor_0 k2 c49 (fun z => z.2.1 c60) | exact zor_0 k2 c49 (fun z => c71 z.2.2) | fail) _ _ _ hP hD hS (lv_sub hl [0, 1, 2, 3, 4] rfl)
                  · skip
                    refine lv_iload_n hx hb dX8_isHidden_52 rfl (lv_at hl 3 rfl) ?_
                    refine lv_iload_n hx hb dX8_isHidden_53 rfl (lv_at hl 1 rfl) ?_
                    refine zi_icmp_eq (tgt := 78) hx hb dX8_isHidden_54 (by decide) (by omega) (by omega) (fun c54 => ?_) (fun c54 => ?_)
                    · skip
                      refine lv_iconst (v := iI 0) hx hb dX8_isHidden_78 rfl ?_
                      exact J79 0 (by first | exact zor_1 k2 c49 | exact zor_2 ⟨c54, c60, c71⟩ | exact zor_0 k2 c49 (fun z => z.1 c54) | exact zor_0 k2 c49 (fun z => z.2.1 c60) | exact zor_0 k2 c49 (fun z => c71 z.2.2) | fail) _ _ _ hP hD hS (lv_sub hl [0, 1, 2, 3, 4] rfl)
                    · skip
                      refine lv_iload hx hb dX8_isHidden_57 (lv_at hl 4 rfl) ?_
                      refine lv_iload_n hx hb dX8_isHidden_59 rfl (lv_at hl 1 rfl) ?_
                      refine zi_icmp_eq (tgt := 78) hx hb dX8_isHidden_60 (by decide) (by omega) (by omega) (fun c60 => ?_) (fun c60 => ?_)
                      · skip
                        refine lv_iconst (v := iI 0) hx hb dX8_isHidden_78 rfl ?_
                        exact J79 0 (by first | exact zor_1 k2 c49 | exact zor_2 ⟨c54, c60, c71⟩ | exact zor_0 k2 c49 (fun z => z.1 c54) | exact zor_0 k2 c49 (fun z => z.2.1 c60) | exact zor_0 k2 c49 (fun z => c71 z.2.2) | fail) _ _ _ hP hD hS (lv_sub hl [0, 1, 2, 3, 4] rfl)
                      · skip
                        refine lv_aload_n hx hb dX8_isHidden_63 rfl (lv_at hl 0 rfl) ?_
                        refine lv_iload_n hx hb dX8_isHidden_64 rfl (lv_at hl 1 rfl) ?_
                        refine lv_iload_n hx hb dX8_isHidden_65 rfl (lv_at hl 3 rfl) ?_
                        refine lv_iload hx hb dX8_isHidden_66 (lv_at hl 4 rfl) ?_
                        refine zc_ri (As := [.int (iI k), .int (iI i), .int (iI j)]) (rest := []) ⟨hx, hb, hml, hown, hts⟩ (c_X8_isOverPair l D _ tys cA hty q t0 N Xs Ys Wt Cp sh kp iu ax ay ri lT lL hT hL ig k i j gB (by omega) (by omega) (by omega)) (cwV 3 hts gX8_isHidden_X8_isOverPair rfl rfl rfl (by decide +kernel) ⟨(Nat.le_of_ble_eq_true rfl), (Nat.le_of_ble_eq_true rfl)⟩) hP hK hD hS hA [0, 1, 2, 3, 4, 5, 6] rfl rfl rfl rfl rfl hl.1 rfl (Nat.le_of_ble_eq_true rfl) dX8_isHidden_68 ⟨Nat.zero_le _, Nat.zero_le _⟩ (fun H locs hP hS => ?_)
                        refine zb_if_eq (tgt := 78) hx hb dX8_isHidden_71 (by decide) (fun c71 => ?_) (fun c71 => ?_)
                        · skip
                          refine lv_iconst (v := iI 0) hx hb dX8_isHidden_78 rfl ?_
                          exact J79 0 (by first | exact zor_1 k2 c49 | exact zor_2 ⟨c54, c60, c71⟩ | exact zor_0 k2 c49 (fun z => z.1 c54) | exact zor_0 k2 c49 (fun z => z.2.1 c60) | exact zor_0 k2 c49 (fun z => c71 z.2.2) | fail) _ _ _ hP hD hS (lv_sub hl [0, 1, 2, 3, 4] rfl)
                        · skip
                          refine lv_iconst (v := iI 1) hx hb dX8_isHidden_74 rfl ?_
                          refine lv_goto (tgt := 79) hx hb dX8_isHidden_75 (by decide) ?_
                          exact J79 1 (by first | exact zor_1 k2 c49 | exact zor_2 ⟨c54, c60, c71⟩ | exact zor_0 k2 c49 (fun z => z.1 c54) | exact zor_0 k2 c49 (fun z => z.2.1 c60) | exact zor_0 k2 c49 (fun z => c71 z.2.2) | fail) _ _ _ hP hD hS (lv_sub hl [0, 1, 2, 3, 4] rfl)
            exact L39 (((N - i : Int)).toNat + 1) i b0 (by omega) (by omega) (by rw [h2]; exact bI_c zHm_0.symm) _ _ _ hP hD hS (lv_sub hl [1, 2, 3, 4, 0] rfl)
    exact L21 (((N - 0 : Int)).toNat + 1) 0 0 (by omega) (by omega) ((bI_f zHo_0).symm) _ _ _ hP hD hS (lv_sub hl [2, 3, 1, 0] rfl)
  refine lv_aload_n hx hb dX8_isHidden_0 rfl (lv_at hl 0 rfl) ?_
  refine lv_aload_n hx hb dX8_isHidden_1 rfl (lv_at hl 0 rfl) ?_
  refine lv_iload_n hx hb dX8_isHidden_2 rfl (lv_at hl 1 rfl) ?_
  refine zc_ri (As := [.int (iI k)]) (rest := [.ref (q 0)]) ⟨hx, hb, hml, hown, hts⟩ (c_X8_isSite l D _ tys cA hty q th N Xs Ys Wt Cp sh kp iu ax ay ri lT lL hT hL ig k gN (by omega)) (cwV 1 hts gX8_isHidden_X8_isSite rfl rfl rfl (by decide +kernel) ⟨(Nat.le_of_ble_eq_true rfl), (Nat.le_of_ble_eq_true rfl)⟩) hP hK hD hS hA [0, 1, 2, 3, 4, 5, 6] rfl rfl rfl rfl rfl hl.1 rfl (Nat.le_of_ble_eq_true rfl) dX8_isHidden_3 ⟨Nat.zero_le _, Nat.zero_le _⟩ (fun H locs hP hS => ?_)
  refine zb_if_eq (tgt := 13) hx hb dX8_isHidden_6 (by decide) (fun c6 => ?_) (fun c6 => ?_)
  · skip
    refine lv_iconst (v := iI 1) hx hb dX8_isHidden_13 rfl ?_
    exact J14 1 (by refine ⟨fun z => ?_, fun z => ?_⟩ <;> first | rfl | (exfalso; omega) | fail) (by omega) _ _ _ hP hD hS (lv_sub hl [0, 1] rfl)
  · skip
    refine lv_iconst (v := iI 0) hx hb dX8_isHidden_9 rfl ?_
    refine lv_goto (tgt := 14) hx hb dX8_isHidden_10 (by decide) ?_
    exact J14 0 (by refine ⟨fun z => ?_, fun z => ?_⟩ <;> first | rfl | (exfalso; omega) | fail) (by omega) _ _ _ hP hD hS (lv_sub hl [0, 1] rfl)
