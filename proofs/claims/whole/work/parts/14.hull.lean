theorem iz_X3_cross_X3 : ∀ w ∈ u_ws RX3 TX3 4, w ∈ wsX3_cross := by decide +kernel
set_option maxHeartbeats 4000000 in
set_option maxRecDepth 100000 in
/-- Hull.cross -/
theorem c_X3_cross (l : Launch) (D : va_G) (sz : Nat) (tys : List (ClassId × FieldType)) (cA : ClassId) (hty : tys[0]? = some (cA, .int)) (a : Nat → Nat) (N : Int) (Xs Ys Wt Cp : Int → Int) (dx dy dh : Int → Int) (a1 b1 : Int) (gN : 0 ≤ N ∧ N ≤ 12) (ga : 0 ≤ a1 ∧ a1 < N) (gb : 0 ≤ b1 ∧ b1 < N) : Met l yX3_cross wsX3_cross ({ frames := 1, cells := 0, slots := 0, locals := 21 }) (zP D [.ref (a 11), .int (iI a1), .int (iI b1)] sz [(a 11, .inr (4, [.ref (a 1), .ref (a 12), .ref (a 14), .ref (a 16)])), (a 12, .inr (6, [.ref (a 13)])), (a 13, .inl (cA, 12, .inl (zF dx))), (a 14, .inr (6, [.ref (a 15)])), (a 15, .inl (cA, 12, .inl (zF dy))), (a 16, .inr (6, [.ref (a 17)])), (a 17, .inl (cA, 12, .inl (zF dh))), (a 1, .inr (5, [.ref (a 2), .ref (a 4), .ref (a 6), .ref (a 8), .int (iI N)])), (a 2, .inr (6, [.ref (a 3)])), (a 3, .inl (cA, 12, .inl (zF Xs))), (a 4, .inr (6, [.ref (a 5)])), (a 5, .inl (cA, 12, .inl (zF Ys))), (a 6, .inr (6, [.ref (a 7)])), (a 7, .inl (cA, 12, .inl (zF Wt))), (a 8, .inr (6, [.ref (a 9)])), (a 9, .inl (cA, 12, .inl (zF Cp)))] tys) (zRi (zCr dx dy a1 b1) sz) 0 0 (zN sz) := by
  refine Met.ofW (cc := cX3_cross) (maxL := 3) (ret := (some .int)) (by decide +kernel) rfl ?_
  intro p e s m args below meth c s₁ B hml hv
  obtain ⟨rfl, hsz, hP, hK, hD0⟩ := hv
  have hx := B.exec
  have hb := B.bytes
  have hr := B.returns
  have hts := atoms_spec (ws := wsX3_cross) B.pre
  have hown : s.vm.findClass RX3 = some m.cls := findClass_of_methodNamed B.named
  have hlocks := B.notSynchronized
  subst hsz
  have hD := hD0
  have hS : va_S (zN s.heap.size) s.heap s.heap [] := va_S.rf
  have hA : ∀ q9 : Nat, s.heap.size ≤ q9 → (zN s.heap.size) q9 := fun q9 h => h
  have hl := lv_entry ([.ref (a 11), .int (iI a1), .int (iI b1)]) (n := 3) (Nat.le_of_ble_eq_true rfl)
  rw [lg_entry_eq]
  generalize (lg_sl ([.ref (a 11), .int (iI a1), .int (iI b1)]) ++ List.replicate (3 - (lg_sl ([.ref (a 11), .int (iI a1), .int (iI b1)])).length) Slot.unset).toArray = ls at hl ⊢
  have hl : lv_has ls 3 [(0, .ref (a 11)), (1, .int (iI a1)), (2, .int (iI b1))] := hl
  refine lv_aload_n hx hb dX3_cross_0 rfl (lv_at hl 0 rfl) ?_
  refine va_get (ci := 4) (v := .ref (a 12)) (C := RX3) (T := TX3) (N := 4) hx hb hts iz_X3_cross_X3 hown hK hP 0 rfl rfl 1 (by decide) (hts (.fieldLink RX3 10 "PowerPlot$Hull" "dxs" "LPowerPlot$Row;") (by decide +kernel)) (fun _ h9 => h9) rfl dX3_cross_1 ?_
  refine lv_iload_n hx hb dX3_cross_4 rfl (lv_at hl 1 rfl) ?_
  refine zc_ri (As := [.int (iI a1)]) (rest := []) ⟨hx, hb, hml, hown, hts⟩ (c_X5_at l D _ tys cA hty (a 12) (a 13) dx a1 (by omega)) (cwV 1 hts gX3_cross_X5_at rfl rfl rfl (by decide +kernel) ⟨(Nat.le_of_ble_eq_true rfl), (Nat.le_of_ble_eq_true rfl)⟩) hP hK hD hS hA [1, 2] rfl rfl rfl rfl rfl hl.1 rfl (Nat.le_of_ble_eq_true rfl) dX3_cross_5 ⟨Nat.zero_le _, Nat.zero_le _⟩ (fun H locs hP hS => ?_)
  refine lv_aload_n hx hb dX3_cross_8 rfl (lv_at hl 0 rfl) ?_
  refine va_get (ci := 4) (v := .ref (a 14)) (C := RX3) (T := TX3) (N := 4) hx hb hts iz_X3_cross_X3 hown hK hP 0 rfl rfl 2 (by decide) (hts (.fieldLink RX3 16 "PowerPlot$Hull" "dys" "LPowerPlot$Row;") (by decide +kernel)) (fun _ h9 => h9) rfl dX3_cross_9 ?_
  refine lv_iload_n hx hb dX3_cross_12 rfl (lv_at hl 2 rfl) ?_
  refine zc_ri (As := [.int (iI b1)]) (rest := [.int (iI (dx a1))]) ⟨hx, hb, hml, hown, hts⟩ (c_X5_at l D _ tys cA hty (a 14) (a 15) dy b1 (by omega)) (cwV 1 hts gX3_cross_X5_at rfl rfl rfl (by decide +kernel) ⟨(Nat.le_of_ble_eq_true rfl), (Nat.le_of_ble_eq_true rfl)⟩) hP hK hD hS hA [3, 4] rfl rfl rfl rfl rfl hl.1 rfl (Nat.le_of_ble_eq_true rfl) dX3_cross_13 ⟨Nat.zero_le _, Nat.zero_le _⟩ (fun H locs hP hS => ?_)
  refine zi_imul hx hb dX3_cross_16 ?_
  refine lv_aload_n hx hb dX3_cross_17 rfl (lv_at hl 0 rfl) ?_
  refine va_get (ci := 4) (v := .ref (a 12)) (C := RX3) (T := TX3) (N := 4) hx hb hts iz_X3_cross_X3 hown hK hP 0 rfl rfl 1 (by decide) (hts (.fieldLink RX3 10 "PowerPlot$Hull" "dxs" "LPowerPlot$Row;") (by decide +kernel)) (fun _ h9 => h9) rfl dX3_cross_18 ?_
  refine lv_iload_n hx hb dX3_cross_21 rfl (lv_at hl 2 rfl) ?_
  refine zc_ri (As := [.int (iI b1)]) (rest := [.int (iI ((dx a1) * (dy b1)))]) ⟨hx, hb, hml, hown, hts⟩ (c_X5_at l D _ tys cA hty (a 12) (a 13) dx b1 (by omega)) (cwV 1 hts gX3_cross_X5_at rfl rfl rfl (by decide +kernel) ⟨(Nat.le_of_ble_eq_true rfl), (Nat.le_of_ble_eq_true rfl)⟩) hP hK hD hS hA [1, 2] rfl rfl rfl rfl rfl hl.1 rfl (Nat.le_of_ble_eq_true rfl) dX3_cross_22 ⟨Nat.zero_le _, Nat.zero_le _⟩ (fun H locs hP hS => ?_)
  refine lv_aload_n hx hb dX3_cross_25 rfl (lv_at hl 0 rfl) ?_
  refine va_get (ci := 4) (v := .ref (a 14)) (C := RX3) (T := TX3) (N := 4) hx hb hts iz_X3_cross_X3 hown hK hP 0 rfl rfl 2 (by decide) (hts (.fieldLink RX3 16 "PowerPlot$Hull" "dys" "LPowerPlot$Row;") (by decide +kernel)) (fun _ h9 => h9) rfl dX3_cross_26 ?_
  refine lv_iload_n hx hb dX3_cross_29 rfl (lv_at hl 1 rfl) ?_
  refine zc_ri (As := [.int (iI a1)]) (rest := [.int (iI (dx b1)), .int (iI ((dx a1) * (dy b1)))]) ⟨hx, hb, hml, hown, hts⟩ (c_X5_at l D _ tys cA hty (a 14) (a 15) dy a1 (by omega)) (cwV 1 hts gX3_cross_X5_at rfl rfl rfl (by decide +kernel) ⟨(Nat.le_of_ble_eq_true rfl), (Nat.le_of_ble_eq_true rfl)⟩) hP hK hD hS hA [3, 4] rfl rfl rfl rfl rfl hl.1 rfl (Nat.le_of_ble_eq_true rfl) dX3_cross_30 ⟨Nat.zero_le _, Nat.zero_le _⟩ (fun H locs hP hS => ?_)
  refine zi_imul hx hb dX3_cross_33 ?_
  refine zi_isub hx hb dX3_cross_34 ?_
  exact W.iret (v := iI (((dx a1) * (dy b1)) - ((dx b1) * (dy a1)))) hx hb hr (fun t ht hW => ⟨⟨iI (((dx a1) * (dy b1)) - ((dx b1) * (dy a1))), (), rfl, congrArg iI (show ((dx a1) * (dy b1)) - ((dx b1) * (dy a1)) = zCr dx dy a1 b1 from by rfl), trivial⟩, hS.F ht⟩) hS.2.2 dX3_cross_35
theorem iz_X3_dot_X3 : ∀ w ∈ u_ws RX3 TX3 4, w ∈ wsX3_dot := by decide +kernel
set_option maxHeartbeats 4000000 in
set_option maxRecDepth 100000 in
/-- Hull.dot -/
theorem c_X3_dot (l : Launch) (D : va_G) (sz : Nat) (tys : List (ClassId × FieldType)) (cA : ClassId) (hty : tys[0]? = some (cA, .int)) (a : Nat → Nat) (N : Int) (Xs Ys Wt Cp : Int → Int) (dx dy dh : Int → Int) (a1 b1 : Int) (gN : 0 ≤ N ∧ N ≤ 12) (ga : 0 ≤ a1 ∧ a1 < N) (gb : 0 ≤ b1 ∧ b1 < N) : Met l yX3_dot wsX3_dot ({ frames := 1, cells := 0, slots := 0, locals := 21 }) (zP D [.ref (a 11), .int (iI a1), .int (iI b1)] sz [(a 11, .inr (4, [.ref (a 1), .ref (a 12), .ref (a 14), .ref (a 16)])), (a 12, .inr (6, [.ref (a 13)])), (a 13, .inl (cA, 12, .inl (zF dx))), (a 14, .inr (6, [.ref (a 15)])), (a 15, .inl (cA, 12, .inl (zF dy))), (a 16, .inr (6, [.ref (a 17)])), (a 17, .inl (cA, 12, .inl (zF dh))), (a 1, .inr (5, [.ref (a 2), .ref (a 4), .ref (a 6), .ref (a 8), .int (iI N)])), (a 2, .inr (6, [.ref (a 3)])), (a 3, .inl (cA, 12, .inl (zF Xs))), (a 4, .inr (6, [.ref (a 5)])), (a 5, .inl (cA, 12, .inl (zF Ys))), (a 6, .inr (6, [.ref (a 7)])), (a 7, .inl (cA, 12, .inl (zF Wt))), (a 8, .inr (6, [.ref (a 9)])), (a 9, .inl (cA, 12, .inl (zF Cp)))] tys) (zRi (zDo dx dy a1 b1) sz) 0 0 (zN sz) := by
  refine Met.ofW (cc := cX3_dot) (maxL := 3) (ret := (some .int)) (by decide +kernel) rfl ?_
  intro p e s m args below meth c s₁ B hml hv
  obtain ⟨rfl, hsz, hP, hK, hD0⟩ := hv
  have hx := B.exec
  have hb := B.bytes
  have hr := B.returns
  have hts := atoms_spec (ws := wsX3_dot) B.pre
  have hown : s.vm.findClass RX3 = some m.cls := findClass_of_methodNamed B.named
  have hlocks := B.notSynchronized
  subst hsz
  have hD := hD0
  have hS : va_S (zN s.heap.size) s.heap s.heap [] := va_S.rf
  have hA : ∀ q9 : Nat, s.heap.size ≤ q9 → (zN s.heap.size) q9 := fun q9 h => h
  have hl := lv_entry ([.ref (a 11), .int (iI a1), .int (iI b1)]) (n := 3) (Nat.le_of_ble_eq_true rfl)
  rw [lg_entry_eq]
  generalize (lg_sl ([.ref (a 11), .int (iI a1), .int (iI b1)]) ++ List.replicate (3 - (lg_sl ([.ref (a 11), .int (iI a1), .int (iI b1)])).length) Slot.unset).toArray = ls at hl ⊢
  have hl : lv_has ls 3 [(0, .ref (a 11)), (1, .int (iI a1)), (2, .int (iI b1))] := hl
  refine lv_aload_n hx hb dX3_dot_0 rfl (lv_at hl 0 rfl) ?_
  refine va_get (ci := 4) (v := .ref (a 12)) (C := RX3) (T := TX3) (N := 4) hx hb hts iz_X3_dot_X3 hown hK hP 0 rfl rfl 1 (by decide) (hts (.fieldLink RX3 10 "PowerPlot$Hull" "dxs" "LPowerPlot$Row;") (by decide +kernel)) (fun _ h9 => h9) rfl dX3_dot_1 ?_
  refine lv_iload_n hx hb dX3_dot_4 rfl (lv_at hl 1 rfl) ?_
  refine zc_ri (As := [.int (iI a1)]) (rest := []) ⟨hx, hb, hml, hown, hts⟩ (c_X5_at l D _ tys cA hty (a 12) (a 13) dx a1 (by omega)) (cwV 1 hts gX3_dot_X5_at rfl rfl rfl (by decide +kernel) ⟨(Nat.le_of_ble_eq_true rfl), (Nat.le_of_ble_eq_true rfl)⟩) hP hK hD hS hA [1, 2] rfl rfl rfl rfl rfl hl.1 rfl (Nat.le_of_ble_eq_true rfl) dX3_dot_5 ⟨Nat.zero_le _, Nat.zero_le _⟩ (fun H locs hP hS => ?_)
  refine lv_aload_n hx hb dX3_dot_8 rfl (lv_at hl 0 rfl) ?_
  refine va_get (ci := 4) (v := .ref (a 12)) (C := RX3) (T := TX3) (N := 4) hx hb hts iz_X3_dot_X3 hown hK hP 0 rfl rfl 1 (by decide) (hts (.fieldLink RX3 10 "PowerPlot$Hull" "dxs" "LPowerPlot$Row;") (by decide +kernel)) (fun _ h9 => h9) rfl dX3_dot_9 ?_
  refine lv_iload_n hx hb dX3_dot_12 rfl (lv_at hl 2 rfl) ?_
  refine zc_ri (As := [.int (iI b1)]) (rest := [.int (iI (dx a1))]) ⟨hx, hb, hml, hown, hts⟩ (c_X5_at l D _ tys cA hty (a 12) (a 13) dx b1 (by omega)) (cwV 1 hts gX3_dot_X5_at rfl rfl rfl (by decide +kernel) ⟨(Nat.le_of_ble_eq_true rfl), (Nat.le_of_ble_eq_true rfl)⟩) hP hK hD hS hA [1, 2] rfl rfl rfl rfl rfl hl.1 rfl (Nat.le_of_ble_eq_true rfl) dX3_dot_13 ⟨Nat.zero_le _, Nat.zero_le _⟩ (fun H locs hP hS => ?_)
  refine zi_imul hx hb dX3_dot_16 ?_
  refine lv_aload_n hx hb dX3_dot_17 rfl (lv_at hl 0 rfl) ?_
  refine va_get (ci := 4) (v := .ref (a 14)) (C := RX3) (T := TX3) (N := 4) hx hb hts iz_X3_dot_X3 hown hK hP 0 rfl rfl 2 (by decide) (hts (.fieldLink RX3 16 "PowerPlot$Hull" "dys" "LPowerPlot$Row;") (by decide +kernel)) (fun _ h9 => h9) rfl dX3_dot_18 ?_
  refine lv_iload_n hx hb dX3_dot_21 rfl (lv_at hl 1 rfl) ?_
  refine zc_ri (As := [.int (iI a1)]) (rest := [.int (iI ((dx a1) * (dx b1)))]) ⟨hx, hb, hml, hown, hts⟩ (c_X5_at l D _ tys cA hty (a 14) (a 15) dy a1 (by omega)) (cwV 1 hts gX3_dot_X5_at rfl rfl rfl (by decide +kernel) ⟨(Nat.le_of_ble_eq_true rfl), (Nat.le_of_ble_eq_true rfl)⟩) hP hK hD hS hA [3, 4] rfl rfl rfl rfl rfl hl.1 rfl (Nat.le_of_ble_eq_true rfl) dX3_dot_22 ⟨Nat.zero_le _, Nat.zero_le _⟩ (fun H locs hP hS => ?_)
  refine lv_aload_n hx hb dX3_dot_25 rfl (lv_at hl 0 rfl) ?_
  refine va_get (ci := 4) (v := .ref (a 14)) (C := RX3) (T := TX3) (N := 4) hx hb hts iz_X3_dot_X3 hown hK hP 0 rfl rfl 2 (by decide) (hts (.fieldLink RX3 16 "PowerPlot$Hull" "dys" "LPowerPlot$Row;") (by decide +kernel)) (fun _ h9 => h9) rfl dX3_dot_26 ?_
  refine lv_iload_n hx hb dX3_dot_29 rfl (lv_at hl 2 rfl) ?_
  refine zc_ri (As := [.int (iI b1)]) (rest := [.int (iI (dy a1)), .int (iI ((dx a1) * (dx b1)))]) ⟨hx, hb, hml, hown, hts⟩ (c_X5_at l D _ tys cA hty (a 14) (a 15) dy b1 (by omega)) (cwV 1 hts gX3_dot_X5_at rfl rfl rfl (by decide +kernel) ⟨(Nat.le_of_ble_eq_true rfl), (Nat.le_of_ble_eq_true rfl)⟩) hP hK hD hS hA [3, 4] rfl rfl rfl rfl rfl hl.1 rfl (Nat.le_of_ble_eq_true rfl) dX3_dot_30 ⟨Nat.zero_le _, Nat.zero_le _⟩ (fun H locs hP hS => ?_)
  refine zi_imul hx hb dX3_dot_33 ?_
  refine zi_iadd hx hb dX3_dot_34 ?_
  exact W.iret (v := iI (((dx a1) * (dx b1)) + ((dy a1) * (dy b1)))) hx hb hr (fun t ht hW => ⟨⟨iI (((dx a1) * (dx b1)) + ((dy a1) * (dy b1))), (), rfl, congrArg iI (show ((dx a1) * (dx b1)) + ((dy a1) * (dy b1)) = zDo dx dy a1 b1 from by rfl), trivial⟩, hS.F ht⟩) hS.2.2 dX3_dot_35
theorem iz_X3_isOnPoint_X3 : ∀ w ∈ u_ws RX3 TX3 4, w ∈ wsX3_isOnPoint := by decide +kernel
set_option maxHeartbeats 4000000 in
set_option maxRecDepth 100000 in
/-- Hull.isOnPoint -/
theorem c_X3_isOnPoint (l : Launch) (D : va_G) (sz : Nat) (tys : List (ClassId × FieldType)) (cA : ClassId) (hty : tys[0]? = some (cA, .int)) (a : Nat → Nat) (N : Int) (Xs Ys Wt Cp : Int → Int) (dx dy dh : Int → Int) (a1 : Int) (gH : zHb dx dy dh N) (gN : 0 ≤ N ∧ N ≤ 12) (ga : 0 ≤ a1 ∧ a1 < N) : Met l yX3_isOnPoint wsX3_isOnPoint ({ frames := 1, cells := 0, slots := 0, locals := 21 }) (zP D [.ref (a 11), .int (iI a1)] sz [(a 11, .inr (4, [.ref (a 1), .ref (a 12), .ref (a 14), .ref (a 16)])), (a 12, .inr (6, [.ref (a 13)])), (a 13, .inl (cA, 12, .inl (zF dx))), (a 14, .inr (6, [.ref (a 15)])), (a 15, .inl (cA, 12, .inl (zF dy))), (a 16, .inr (6, [.ref (a 17)])), (a 17, .inl (cA, 12, .inl (zF dh))), (a 1, .inr (5, [.ref (a 2), .ref (a 4), .ref (a 6), .ref (a 8), .int (iI N)])), (a 2, .inr (6, [.ref (a 3)])), (a 3, .inl (cA, 12, .inl (zF Xs))), (a 4, .inr (6, [.ref (a 5)])), (a 5, .inl (cA, 12, .inl (zF Ys))), (a 6, .inr (6, [.ref (a 7)])), (a 7, .inl (cA, 12, .inl (zF Wt))), (a 8, .inr (6, [.ref (a 9)])), (a 9, .inl (cA, 12, .inl (zF Cp)))] tys) (zRi (bI (zPt dx dy dh a1)) sz) 0 0 (zN sz) := by
  refine Met.ofW (cc := cX3_isOnPoint) (maxL := 2) (ret := (some .boolean)) (by decide +kernel) rfl ?_
  intro p e s m args below meth c s₁ B hml hv
  obtain ⟨rfl, hsz, hP, hK, hD0⟩ := hv
  have hx := B.exec
  have hb := B.bytes
  have hr := B.returns
  have hts := atoms_spec (ws := wsX3_isOnPoint) B.pre
  have hown : s.vm.findClass RX3 = some m.cls := findClass_of_methodNamed B.named
  have hlocks := B.notSynchronized
  subst hsz
  have hD := hD0
  have hS : va_S (zN s.heap.size) s.heap s.heap [] := va_S.rf
  have hA : ∀ q9 : Nat, s.heap.size ≤ q9 → (zN s.heap.size) q9 := fun q9 h => h
  have hl := lv_entry ([.ref (a 11), .int (iI a1)]) (n := 2) (Nat.le_of_ble_eq_true rfl)
  rw [lg_entry_eq]
  generalize (lg_sl ([.ref (a 11), .int (iI a1)]) ++ List.replicate (2 - (lg_sl ([.ref (a 11), .int (iI a1)])).length) Slot.unset).toArray = ls at hl ⊢
  have hl : lv_has ls 2 [(0, .ref (a 11)), (1, .int (iI a1))] := hl
  have z1 := gH a1 ga.1 ga.2
  refine lv_aload_n hx hb dX3_isOnPoint_0 rfl (lv_at hl 0 rfl) ?_
  refine va_get (ci := 4) (v := .ref (a 12)) (C := RX3) (T := TX3) (N := 4) hx hb hts iz_X3_isOnPoint_X3 hown hK hP 0 rfl rfl 1 (by decide) (hts (.fieldLink RX3 10 "PowerPlot$Hull" "dxs" "LPowerPlot$Row;") (by decide +kernel)) (fun _ h9 => h9) rfl dX3_isOnPoint_1 ?_
  refine lv_iload_n hx hb dX3_isOnPoint_4 rfl (lv_at hl 1 rfl) ?_
  refine zc_ri (As := [.int (iI a1)]) (rest := []) ⟨hx, hb, hml, hown, hts⟩ (c_X5_at l D _ tys cA hty (a 12) (a 13) dx a1 (by omega)) (cwV 1 hts gX3_isOnPoint_X5_at rfl rfl rfl (by decide +kernel) ⟨(Nat.le_of_ble_eq_true rfl), (Nat.le_of_ble_eq_true rfl)⟩) hP hK hD hS hA [1, 2] rfl rfl rfl rfl rfl hl.1 rfl (Nat.le_of_ble_eq_true rfl) dX3_isOnPoint_5 ⟨Nat.zero_le _, Nat.zero_le _⟩ (fun H locs hP hS => ?_)
  refine zi_if_ne (tgt := 37) hx hb dX3_isOnPoint_8 (by decide) (by omega) (fun c8 => ?_) (fun c8 => ?_)
  · skip
    refine lv_iconst (v := iI 0) hx hb dX3_isOnPoint_37 rfl ?_
    exact W.zret (v := iI 0) (ty := .boolean) hx hb hr (by decide) (fun t ht hW => ⟨⟨iI 0, (), rfl, congrArg iI (show 0 = bI (zPt dx dy dh a1) from by first | exact (bI_t (by unfold zPt; omega)).symm | exact (bI_f (by unfold zPt; omega)).symm), trivial⟩, hS.F ht⟩) hS.2.2 dX3_isOnPoint_38
  · skip
    refine lv_aload_n hx hb dX3_isOnPoint_11 rfl (lv_at hl 0 rfl) ?_
    refine va_get (ci := 4) (v := .ref (a 14)) (C := RX3) (T := TX3) (N := 4) hx hb hts iz_X3_isOnPoint_X3 hown hK hP 0 rfl rfl 2 (by decide) (hts (.fieldLink RX3 16 "PowerPlot$Hull" "dys" "LPowerPlot$Row;") (by decide +kernel)) (fun _ h9 => h9) rfl dX3_isOnPoint_12 ?_
    refine lv_iload_n hx hb dX3_isOnPoint_15 rfl (lv_at hl 1 rfl) ?_
    refine zc_ri (As := [.int (iI a1)]) (rest := []) ⟨hx, hb, hml, hown, hts⟩ (c_X5_at l D _ tys cA hty (a 14) (a 15) dy a1 (by omega)) (cwV 1 hts gX3_isOnPoint_X5_at rfl rfl rfl (by decide +kernel) ⟨(Nat.le_of_ble_eq_true rfl), (Nat.le_of_ble_eq_true rfl)⟩) hP hK hD hS hA [3, 4] rfl rfl rfl rfl rfl hl.1 rfl (Nat.le_of_ble_eq_true rfl) dX3_isOnPoint_16 ⟨Nat.zero_le _, Nat.zero_le _⟩ (fun H locs hP hS => ?_)
    refine zi_if_ne (tgt := 37) hx hb dX3_isOnPoint_19 (by decide) (by omega) (fun c19 => ?_) (fun c19 => ?_)
    · skip
      refine lv_iconst (v := iI 0) hx hb dX3_isOnPoint_37 rfl ?_
      exact W.zret (v := iI 0) (ty := .boolean) hx hb hr (by decide) (fun t ht hW => ⟨⟨iI 0, (), rfl, congrArg iI (show 0 = bI (zPt dx dy dh a1) from by first | exact (bI_t (by unfold zPt; omega)).symm | exact (bI_f (by unfold zPt; omega)).symm), trivial⟩, hS.F ht⟩) hS.2.2 dX3_isOnPoint_38
    · skip
      refine lv_aload_n hx hb dX3_isOnPoint_22 rfl (lv_at hl 0 rfl) ?_
      refine va_get (ci := 4) (v := .ref (a 16)) (C := RX3) (T := TX3) (N := 4) hx hb hts iz_X3_isOnPoint_X3 hown hK hP 0 rfl rfl 3 (by decide) (hts (.fieldLink RX3 19 "PowerPlot$Hull" "heights" "LPowerPlot$Row;") (by decide +kernel)) (fun _ h9 => h9) rfl dX3_isOnPoint_23 ?_
      refine lv_iload_n hx hb dX3_isOnPoint_26 rfl (lv_at hl 1 rfl) ?_
      refine zc_ri (As := [.int (iI a1)]) (rest := []) ⟨hx, hb, hml, hown, hts⟩ (c_X5_at l D _ tys cA hty (a 16) (a 17) dh a1 (by omega)) (cwV 1 hts gX3_isOnPoint_X5_at rfl rfl rfl (by decide +kernel) ⟨(Nat.le_of_ble_eq_true rfl), (Nat.le_of_ble_eq_true rfl)⟩) hP hK hD hS hA [5, 6] rfl rfl rfl rfl rfl hl.1 rfl (Nat.le_of_ble_eq_true rfl) dX3_isOnPoint_27 ⟨Nat.zero_le _, Nat.zero_le _⟩ (fun H locs hP hS => ?_)
      refine zi_if_gt (tgt := 37) hx hb dX3_isOnPoint_30 (by decide) (by omega) (fun c30 => ?_) (fun c30 => ?_)
      · skip
        refine lv_iconst (v := iI 0) hx hb dX3_isOnPoint_37 rfl ?_
        exact W.zret (v := iI 0) (ty := .boolean) hx hb hr (by decide) (fun t ht hW => ⟨⟨iI 0, (), rfl, congrArg iI (show 0 = bI (zPt dx dy dh a1) from by first | exact (bI_t (by unfold zPt; omega)).symm | exact (bI_f (by unfold zPt; omega)).symm), trivial⟩, hS.F ht⟩) hS.2.2 dX3_isOnPoint_38
      · skip
        refine lv_iconst (v := iI 1) hx hb dX3_isOnPoint_33 rfl ?_
        refine lv_goto (tgt := 38) hx hb dX3_isOnPoint_34 (by decide) ?_
        exact W.zret (v := iI 1) (ty := .boolean) hx hb hr (by decide) (fun t ht hW => ⟨⟨iI 1, (), rfl, congrArg iI (show 1 = bI (zPt dx dy dh a1) from by first | exact (bI_t (by unfold zPt; omega)).symm | exact (bI_f (by unfold zPt; omega)).symm), trivial⟩, hS.F ht⟩) hS.2.2 dX3_isOnPoint_38
theorem iz_X3_isOnSegment_X3 : ∀ w ∈ u_ws RX3 TX3 4, w ∈ wsX3_isOnSegment := by decide +kernel
set_option maxHeartbeats 4000000 in
set_option maxRecDepth 100000 in
/-- Hull.isOnSegment -/
theorem c_X3_isOnSegment (l : Launch) (D : va_G) (sz : Nat) (tys : List (ClassId × FieldType)) (cA : ClassId) (hty : tys[0]? = some (cA, .int)) (a : Nat → Nat) (N : Int) (Xs Ys Wt Cp : Int → Int) (dx dy dh : Int → Int) (a1 b1 : Int) (gH : zHb dx dy dh N) (gN : 0 ≤ N ∧ N ≤ 12) (ga : 0 ≤ a1 ∧ a1 < N) (gb : 0 ≤ b1 ∧ b1 < N) : Met l yX3_isOnSegment wsX3_isOnSegment ({ frames := 2, cells := 0, slots := 0, locals := 43 }) (zP D [.ref (a 11), .int (iI a1), .int (iI b1)] sz [(a 11, .inr (4, [.ref (a 1), .ref (a 12), .ref (a 14), .ref (a 16)])), (a 12, .inr (6, [.ref (a 13)])), (a 13, .inl (cA, 12, .inl (zF dx))), (a 14, .inr (6, [.ref (a 15)])), (a 15, .inl (cA, 12, .inl (zF dy))), (a 16, .inr (6, [.ref (a 17)])), (a 17, .inl (cA, 12, .inl (zF dh))), (a 1, .inr (5, [.ref (a 2), .ref (a 4), .ref (a 6), .ref (a 8), .int (iI N)])), (a 2, .inr (6, [.ref (a 3)])), (a 3, .inl (cA, 12, .inl (zF Xs))), (a 4, .inr (6, [.ref (a 5)])), (a 5, .inl (cA, 12, .inl (zF Ys))), (a 6, .inr (6, [.ref (a 7)])), (a 7, .inl (cA, 12, .inl (zF Wt))), (a 8, .inr (6, [.ref (a 9)])), (a 9, .inl (cA, 12, .inl (zF Cp)))] tys) (zRi (bI (zSg dx dy dh a1 b1)) sz) 0 0 (zN sz) := by
  refine Met.ofW (cc := cX3_isOnSegment) (maxL := 6) (ret := (some .boolean)) (by decide +kernel) rfl ?_
  intro p e s m args below meth c s₁ B hml hv
  obtain ⟨rfl, hsz, hP, hK, hD0⟩ := hv
  have hx := B.exec
  have hb := B.bytes
  have hr := B.returns
  have hts := atoms_spec (ws := wsX3_isOnSegment) B.pre
  have hown : s.vm.findClass RX3 = some m.cls := findClass_of_methodNamed B.named
  have hlocks := B.notSynchronized
  subst hsz
  have hD := hD0
  have hS : va_S (zN s.heap.size) s.heap s.heap [] := va_S.rf
  have hA : ∀ q9 : Nat, s.heap.size ≤ q9 → (zN s.heap.size) q9 := fun q9 h => h
  have hl := lv_entry ([.ref (a 11), .int (iI a1), .int (iI b1)]) (n := 6) (Nat.le_of_ble_eq_true rfl)
  rw [lg_entry_eq]
  generalize (lg_sl ([.ref (a 11), .int (iI a1), .int (iI b1)]) ++ List.replicate (6 - (lg_sl ([.ref (a 11), .int (iI a1), .int (iI b1)])).length) Slot.unset).toArray = ls at hl ⊢
  have hl : lv_has ls 6 [(0, .ref (a 11)), (1, .int (iI a1)), (2, .int (iI b1))] := hl
  have z1 := zDo_rg gH ga gb
  have z2 := zCr_rg gH ga gb
  have z3 := zDo_rg gH ga ga
  have z4 := zDo_rg gH gb gb
  have z5 := gH a1 ga.1 ga.2
  have z6 := gH b1 gb.1 gb.2
  have z7 := zm_le (a := zDo dx dy b1 b1 - zDo dx dy a1 b1) (b := dh a1) (A := 6400) (B := 5198) (by omega) z5.2.2
  have z8 := zm_le (a := zDo dx dy a1 a1 - zDo dx dy a1 b1) (b := dh b1) (A := 6400) (B := 5198) (by omega) z6.2.2
  refine lv_aload_n hx hb dX3_isOnSegment_0 rfl (lv_at hl 0 rfl) ?_
  refine lv_iload_n hx hb dX3_isOnSegment_1 rfl (lv_at hl 1 rfl) ?_
  refine lv_iload_n hx hb dX3_isOnSegment_2 rfl (lv_at hl 2 rfl) ?_
  refine zc_ri (As := [.int (iI a1), .int (iI b1)]) (rest := []) ⟨hx, hb, hml, hown, hts⟩ (c_X3_dot l D _ tys cA hty a N Xs Ys Wt Cp dx dy dh a1 b1 gN (by omega) (by omega)) (cwV 2 hts gX3_isOnSegment_X3_dot rfl rfl rfl (by decide +kernel) ⟨(Nat.le_of_ble_eq_true rfl), (Nat.le_of_ble_eq_true rfl)⟩) hP hK hD hS hA [0, 1, 2, 3, 4, 5, 6, 7, 8, 9, 10, 11, 12, 13, 14, 15] rfl rfl rfl rfl rfl hl.1 rfl (Nat.le_of_ble_eq_true rfl) dX3_isOnSegment_3 ⟨Nat.zero_le _, Nat.zero_le _⟩ (fun H locs hP hS => ?_)
  refine lv_istore_n (lv' := [(3, .int (iI (zDo dx dy a1 b1))), (0, .ref (a 11)), (1, .int (iI a1)), (2, .int (iI b1))]) hx hb dX3_isOnSegment_6 rfl hl (by decide) rfl (fun ls hl => ?_)
  refine lv_aload_n hx hb dX3_isOnSegment_7 rfl (lv_at hl 1 rfl) ?_
  refine lv_iload_n hx hb dX3_isOnSegment_8 rfl (lv_at hl 2 rfl) ?_
  refine lv_iload_n hx hb dX3_isOnSegment_9 rfl (lv_at hl 3 rfl) ?_
  refine zc_ri (As := [.int (iI a1), .int (iI b1)]) (rest := []) ⟨hx, hb, hml, hown, hts⟩ (c_X3_cross l D _ tys cA hty a N Xs Ys Wt Cp dx dy dh a1 b1 gN (by omega) (by omega)) (cwV 2 hts gX3_isOnSegment_X3_cross rfl rfl rfl (by decide +kernel) ⟨(Nat.le_of_ble_eq_true rfl), (Nat.le_of_ble_eq_true rfl)⟩) hP hK hD hS hA [0, 1, 2, 3, 4, 5, 6, 7, 8, 9, 10, 11, 12, 13, 14, 15] rfl rfl rfl rfl rfl hl.1 rfl (Nat.le_of_ble_eq_true rfl) dX3_isOnSegment_10 ⟨Nat.zero_le _, Nat.zero_le _⟩ (fun H locs hP hS => ?_)
  refine zi_if_ne (tgt := 20) hx hb dX3_isOnSegment_13 (by decide) (by omega) (fun c13 => ?_) (fun c13 => ?_)
  · skip
    refine lv_iconst (v := iI 0) hx hb dX3_isOnSegment_20 rfl ?_
    exact W.zret (v := iI 0) (ty := .boolean) hx hb hr (by decide) (fun t ht hW => ⟨⟨iI 0, (), rfl, congrArg iI (show 0 = bI (zSg dx dy dh a1 b1) from by first | exact (bI_t (by unfold zSg; omega)).symm | exact (bI_f (by unfold zSg; omega)).symm), trivial⟩, hS.F ht⟩) hS.2.2 dX3_isOnSegment_21
  · skip
    refine lv_iload_n hx hb dX3_isOnSegment_16 rfl (lv_at hl 0 rfl) ?_
    refine zi_if_le (tgt := 22) hx hb dX3_isOnSegment_17 (by decide) (by omega) (fun c17 => ?_) (fun c17 => ?_)
    · skip
      refine lv_aload_n hx hb dX3_isOnSegment_22 rfl (lv_at hl 1 rfl) ?_
      refine lv_iload_n hx hb dX3_isOnSegment_23 rfl (lv_at hl 3 rfl) ?_
      refine lv_iload_n hx hb dX3_isOnSegment_24 rfl (lv_at hl 3 rfl) ?_
      refine zc_ri (As := [.int (iI b1), .int (iI b1)]) (rest := []) ⟨hx, hb, hml, hown, hts⟩ (c_X3_dot l D _ tys cA hty a N Xs Ys Wt Cp dx dy dh b1 b1 gN (by omega) (by omega)) (cwV 2 hts gX3_isOnSegment_X3_dot rfl rfl rfl (by decide +kernel) ⟨(Nat.le_of_ble_eq_true rfl), (Nat.le_of_ble_eq_true rfl)⟩) hP hK hD hS hA [0, 1, 2, 3, 4, 5, 6, 7, 8, 9, 10, 11, 12, 13, 14, 15] rfl rfl rfl rfl rfl hl.1 rfl (Nat.le_of_ble_eq_true rfl) dX3_isOnSegment_25 ⟨Nat.zero_le _, Nat.zero_le _⟩ (fun H locs hP hS => ?_)
      refine lv_iload_n hx hb dX3_isOnSegment_28 rfl (lv_at hl 0 rfl) ?_
      refine zi_isub hx hb dX3_isOnSegment_29 ?_
      refine lv_istore (lv' := [(4, .int (iI ((zDo dx dy b1 b1) - (zDo dx dy a1 b1)))), (3, .int (iI (zDo dx dy a1 b1))), (0, .ref (a 11)), (1, .int (iI a1)), (2, .int (iI b1))]) hx hb dX3_isOnSegment_30 hl (by decide) rfl (fun ls hl => ?_)
      refine lv_aload_n hx hb dX3_isOnSegment_32 rfl (lv_at hl 2 rfl) ?_
      refine lv_iload_n hx hb dX3_isOnSegment_33 rfl (lv_at hl 3 rfl) ?_
      refine lv_iload_n hx hb dX3_isOnSegment_34 rfl (lv_at hl 3 rfl) ?_
      refine zc_ri (As := [.int (iI a1), .int (iI a1)]) (rest := []) ⟨hx, hb, hml, hown, hts⟩ (c_X3_dot l D _ tys cA hty a N Xs Ys Wt Cp dx dy dh a1 a1 gN (by omega) (by omega)) (cwV 2 hts gX3_isOnSegment_X3_dot rfl rfl rfl (by decide +kernel) ⟨(Nat.le_of_ble_eq_true rfl), (Nat.le_of_ble_eq_true rfl)⟩) hP hK hD hS hA [0, 1, 2, 3, 4, 5, 6, 7, 8, 9, 10, 11, 12, 13, 14, 15] rfl rfl rfl rfl rfl hl.1 rfl (Nat.le_of_ble_eq_true rfl) dX3_isOnSegment_35 ⟨Nat.zero_le _, Nat.zero_le _⟩ (fun H locs hP hS => ?_)
      refine lv_iload_n hx hb dX3_isOnSegment_38 rfl (lv_at hl 1 rfl) ?_
      refine zi_isub hx hb dX3_isOnSegment_39 ?_
      refine lv_istore (lv' := [(5, .int (iI ((zDo dx dy a1 a1) - (zDo dx dy a1 b1)))), (4, .int (iI ((zDo dx dy b1 b1) - (zDo dx dy a1 b1)))), (3, .int (iI (zDo dx dy a1 b1))), (0, .ref (a 11)), (1, .int (iI a1)), (2, .int (iI b1))]) hx hb dX3_isOnSegment_40 hl (by decide) rfl (fun ls hl => ?_)
      refine lv_iload hx hb dX3_isOnSegment_42 (lv_at hl 1 rfl) ?_
      refine lv_iload hx hb dX3_isOnSegment_44 (lv_at hl 0 rfl) ?_
      refine zi_iadd hx hb dX3_isOnSegment_46 ?_
      refine zi_if_le (tgt := 80) hx hb dX3_isOnSegment_47 (by decide) (by omega) (fun c47 => ?_) (fun c47 => ?_)
      · skip
        refine lv_iconst (v := iI 0) hx hb dX3_isOnSegment_80 rfl ?_
        exact W.zret (v := iI 0) (ty := .boolean) hx hb hr (by decide) (fun t ht hW => ⟨⟨iI 0, (), rfl, congrArg iI (show 0 = bI (zSg dx dy dh a1 b1) from by first | exact (bI_t (by unfold zSg; omega)).symm | exact (bI_f (by unfold zSg; omega)).symm), trivial⟩, hS.F ht⟩) hS.2.2 dX3_isOnSegment_81
      · skip
        refine lv_iload hx hb dX3_isOnSegment_50 (lv_at hl 1 rfl) ?_
        refine lv_aload_n hx hb dX3_isOnSegment_52 rfl (lv_at hl 3 rfl) ?_
        refine va_get (ci := 4) (v := .ref (a 16)) (C := RX3) (T := TX3) (N := 4) hx hb hts iz_X3_isOnSegment_X3 hown hK hP 0 rfl rfl 3 (by decide) (hts (.fieldLink RX3 19 "PowerPlot$Hull" "heights" "LPowerPlot$Row;") (by decide +kernel)) (fun _ h9 => h9) rfl dX3_isOnSegment_53 ?_
        refine lv_iload_n hx hb dX3_isOnSegment_56 rfl (lv_at hl 4 rfl) ?_
        refine zc_ri (As := [.int (iI a1)]) (rest := [.int (iI ((zDo dx dy b1 b1) - (zDo dx dy a1 b1)))]) ⟨hx, hb, hml, hown, hts⟩ (c_X5_at l D _ tys cA hty (a 16) (a 17) dh a1 (by omega)) (cwV 1 hts gX3_isOnSegment_X5_at rfl rfl rfl (by decide +kernel) ⟨(Nat.le_of_ble_eq_true rfl), (Nat.le_of_ble_eq_true rfl)⟩) hP hK hD hS hA [5, 6] rfl rfl rfl rfl rfl hl.1 rfl (Nat.le_of_ble_eq_true rfl) dX3_isOnSegment_57 ⟨Nat.zero_le _, Nat.zero_le _⟩ (fun H locs hP hS => ?_)
        refine zi_imul hx hb dX3_isOnSegment_60 ?_
        refine lv_iload hx hb dX3_isOnSegment_61 (lv_at hl 0 rfl) ?_
        refine lv_aload_n hx hb dX3_isOnSegment_63 rfl (lv_at hl 3 rfl) ?_
        refine va_get (ci := 4) (v := .ref (a 16)) (C := RX3) (T := TX3) (N := 4) hx hb hts iz_X3_isOnSegment_X3 hown hK hP 0 rfl rfl 3 (by decide) (hts (.fieldLink RX3 19 "PowerPlot$Hull" "heights" "LPowerPlot$Row;") (by decide +kernel)) (fun _ h9 => h9) rfl dX3_isOnSegment_64 ?_
        refine lv_iload_n hx hb dX3_isOnSegment_67 rfl (lv_at hl 5 rfl) ?_
        refine zc_ri (As := [.int (iI b1)]) (rest := [.int (iI ((zDo dx dy a1 a1) - (zDo dx dy a1 b1))), .int (iI (((zDo dx dy b1 b1) - (zDo dx dy a1 b1)) * (dh a1)))]) ⟨hx, hb, hml, hown, hts⟩ (c_X5_at l D _ tys cA hty (a 16) (a 17) dh b1 (by omega)) (cwV 1 hts gX3_isOnSegment_X5_at rfl rfl rfl (by decide +kernel) ⟨(Nat.le_of_ble_eq_true rfl), (Nat.le_of_ble_eq_true rfl)⟩) hP hK hD hS hA [5, 6] rfl rfl rfl rfl rfl hl.1 rfl (Nat.le_of_ble_eq_true rfl) dX3_isOnSegment_68 ⟨Nat.zero_le _, Nat.zero_le _⟩ (fun H locs hP hS => ?_)
        refine zi_imul hx hb dX3_isOnSegment_71 ?_
        refine zi_iadd hx hb dX3_isOnSegment_72 ?_
        refine zi_if_gt (tgt := 80) hx hb dX3_isOnSegment_73 (by decide) (by omega) (fun c73 => ?_) (fun c73 => ?_)
        · skip
          refine lv_iconst (v := iI 0) hx hb dX3_isOnSegment_80 rfl ?_
          exact W.zret (v := iI 0) (ty := .boolean) hx hb hr (by decide) (fun t ht hW => ⟨⟨iI 0, (), rfl, congrArg iI (show 0 = bI (zSg dx dy dh a1 b1) from by first | exact (bI_t (by unfold zSg; omega)).symm | exact (bI_f (by unfold zSg; omega)).symm), trivial⟩, hS.F ht⟩) hS.2.2 dX3_isOnSegment_81
        · skip
          refine lv_iconst (v := iI 1) hx hb dX3_isOnSegment_76 rfl ?_
          refine lv_goto (tgt := 81) hx hb dX3_isOnSegment_77 (by decide) ?_
          exact W.zret (v := iI 1) (ty := .boolean) hx hb hr (by decide) (fun t ht hW => ⟨⟨iI 1, (), rfl, congrArg iI (show 1 = bI (zSg dx dy dh a1 b1) from by first | exact (bI_t (by unfold zSg; omega)).symm | exact (bI_f (by unfold zSg; omega)).symm), trivial⟩, hS.F ht⟩) hS.2.2 dX3_isOnSegment_81
    · skip
      refine lv_iconst (v := iI 0) hx hb dX3_isOnSegment_20 rfl ?_
      exact W.zret (v := iI 0) (ty := .boolean) hx hb hr (by decide) (fun t ht hW => ⟨⟨iI 0, (), rfl, congrArg iI (show 0 = bI (zSg dx dy dh a1 b1) from by first | exact (bI_t (by unfold zSg; omega)).symm | exact (bI_f (by unfold zSg; omega)).symm), trivial⟩, hS.F ht⟩) hS.2.2 dX3_isOnSegment_21
theorem iz_X3_isOnTriangle_X3 : ∀ w ∈ u_ws RX3 TX3 4, w ∈ wsX3_isOnTriangle := by decide +kernel
set_option maxHeartbeats 4000000 in
set_option maxRecDepth 100000 in
/-- Hull.isOnTriangle -/
theorem c_X3_isOnTriangle (l : Launch) (D : va_G) (sz : Nat) (tys : List (ClassId × FieldType)) (cA : ClassId) (hty : tys[0]? = some (cA, .int)) (a : Nat → Nat) (N : Int) (Xs Ys Wt Cp : Int → Int) (dx dy dh : Int → Int) (a1 b1 c1 : Int) (gH : zHb dx dy dh N) (gN : 0 ≤ N ∧ N ≤ 12) (ga : 0 ≤ a1 ∧ a1 < N) (gb : 0 ≤ b1 ∧ b1 < N) (gc : 0 ≤ c1 ∧ c1 < N) : Met l yX3_isOnTriangle wsX3_isOnTriangle ({ frames := 2, cells := 0, slots := 0, locals := 43 }) (zP D [.ref (a 11), .int (iI a1), .int (iI b1), .int (iI c1)] sz [(a 11, .inr (4, [.ref (a 1), .ref (a 12), .ref (a 14), .ref (a 16)])), (a 12, .inr (6, [.ref (a 13)])), (a 13, .inl (cA, 12, .inl (zF dx))), (a 14, .inr (6, [.ref (a 15)])), (a 15, .inl (cA, 12, .inl (zF dy))), (a 16, .inr (6, [.ref (a 17)])), (a 17, .inl (cA, 12, .inl (zF dh))), (a 1, .inr (5, [.ref (a 2), .ref (a 4), .ref (a 6), .ref (a 8), .int (iI N)])), (a 2, .inr (6, [.ref (a 3)])), (a 3, .inl (cA, 12, .inl (zF Xs))), (a 4, .inr (6, [.ref (a 5)])), (a 5, .inl (cA, 12, .inl (zF Ys))), (a 6, .inr (6, [.ref (a 7)])), (a 7, .inl (cA, 12, .inl (zF Wt))), (a 8, .inr (6, [.ref (a 9)])), (a 9, .inl (cA, 12, .inl (zF Cp)))] tys) (zRi (bI (zT3 dx dy dh a1 b1 c1)) sz) 0 0 (zN sz) := by
  refine Met.ofW (cc := cX3_isOnTriangle) (maxL := 9) (ret := (some .boolean)) (by decide +kernel) rfl ?_
  intro p e s m args below meth c s₁ B hml hv
  obtain ⟨rfl, hsz, hP, hK, hD0⟩ := hv
  have hx := B.exec
  have hb := B.bytes
  have hr := B.returns
  have hts := atoms_spec (ws := wsX3_isOnTriangle) B.pre
  have hown : s.vm.findClass RX3 = some m.cls := findClass_of_methodNamed B.named
  have hlocks := B.notSynchronized
  subst hsz
  have hD := hD0
  have hS : va_S (zN s.heap.size) s.heap s.heap [] := va_S.rf
  have hA : ∀ q9 : Nat, s.heap.size ≤ q9 → (zN s.heap.size) q9 := fun q9 h => h
  have hl := lv_entry ([.ref (a 11), .int (iI a1), .int (iI b1), .int (iI c1)]) (n := 9) (Nat.le_of_ble_eq_true rfl)
  rw [lg_entry_eq]
  generalize (lg_sl ([.ref (a 11), .int (iI a1), .int (iI b1), .int (iI c1)]) ++ List.replicate (9 - (lg_sl ([.ref (a 11), .int (iI a1), .int (iI b1), .int (iI c1)])).length) Slot.unset).toArray = ls at hl ⊢
  have hl : lv_has ls 9 [(0, .ref (a 11)), (1, .int (iI a1)), (2, .int (iI b1)), (3, .int (iI c1))] := hl
  have z1 := zCr_rg gH gb gc
  have z2 := zCr_rg gH gc ga
  have z3 := zCr_rg gH ga gb
  have z5 := gH a1 ga.1 ga.2
  have z6 := gH b1 gb.1 gb.2
  have z7 := gH c1 gc.1 gc.2
  refine lv_aload_n hx hb dX3_isOnTriangle_0 rfl (lv_at hl 0 rfl) ?_
  refine lv_iload_n hx hb dX3_isOnTriangle_1 rfl (lv_at hl 2 rfl) ?_
  refine lv_iload_n hx hb dX3_isOnTriangle_2 rfl (lv_at hl 3 rfl) ?_
  refine zc_ri (As := [.int (iI b1), .int (iI c1)]) (rest := []) ⟨hx, hb, hml, hown, hts⟩ (c_X3_cross l D _ tys cA hty a N Xs Ys Wt Cp dx dy dh b1 c1 gN (by omega) (by omega)) (cwV 2 hts gX3_isOnTriangle_X3_cross rfl rfl rfl (by decide +kernel) ⟨(Nat.le_of_ble_eq_true rfl), (Nat.le_of_ble_eq_true rfl)⟩) hP hK hD hS hA [0, 1, 2, 3, 4, 5, 6, 7, 8, 9, 10, 11, 12, 13, 14, 15] rfl rfl rfl rfl rfl hl.1 rfl (Nat.le_of_ble_eq_true rfl) dX3_isOnTriangle_3 ⟨Nat.zero_le _, Nat.zero_le _⟩ (fun H locs hP hS => ?_)
  refine lv_istore (lv' := [(4, .int (iI (zCr dx dy b1 c1))), (0, .ref (a 11)), (1, .int (iI a1)), (2, .int (iI b1)), (3, .int (iI c1))]) hx hb dX3_isOnTriangle_6 hl (by decide) rfl (fun ls hl => ?_)
  refine lv_aload_n hx hb dX3_isOnTriangle_8 rfl (lv_at hl 1 rfl) ?_
  refine lv_iload_n hx hb dX3_isOnTriangle_9 rfl (lv_at hl 4 rfl) ?_
  refine lv_iload_n hx hb dX3_isOnTriangle_10 rfl (lv_at hl 2 rfl) ?_
  refine zc_ri (As := [.int (iI c1), .int (iI a1)]) (rest := []) ⟨hx, hb, hml, hown, hts⟩ (c_X3_cross l D _ tys cA hty a N Xs Ys Wt Cp dx dy dh c1 a1 gN (by omega) (by omega)) (cwV 2 hts gX3_isOnTriangle_X3_cross rfl rfl rfl (by decide +kernel) ⟨(Nat.le_of_ble_eq_true rfl), (Nat.le_of_ble_eq_true rfl)⟩) hP hK hD hS hA [0, 1, 2, 3, 4, 5, 6, 7, 8, 9, 10, 11, 12, 13, 14, 15] rfl rfl rfl rfl rfl hl.1 rfl (Nat.le_of_ble_eq_true rfl) dX3_isOnTriangle_11 ⟨Nat.zero_le _, Nat.zero_le _⟩ (fun H locs hP hS => ?_)
  refine lv_istore (lv' := [(5, .int (iI (zCr dx dy c1 a1))), (4, .int (iI (zCr dx dy b1 c1))), (0, .ref (a 11)), (1, .int (iI a1)), (2, .int (iI b1)), (3, .int (iI c1))]) hx hb dX3_isOnTriangle_14 hl (by decide) rfl (fun ls hl => ?_)
  refine lv_aload_n hx hb dX3_isOnTriangle_16 rfl (lv_at hl 2 rfl) ?_
  refine lv_iload_n hx hb dX3_isOnTriangle_17 rfl (lv_at hl 3 rfl) ?_
  refine lv_iload_n hx hb dX3_isOnTriangle_18 rfl (lv_at hl 4 rfl) ?_
  refine zc_ri (As := [.int (iI a1), .int (iI b1)]) (rest := []) ⟨hx, hb, hml, hown, hts⟩ (c_X3_cross l D _ tys cA hty a N Xs Ys Wt Cp dx dy dh a1 b1 gN (by omega) (by omega)) (cwV 2 hts gX3_isOnTriangle_X3_cross rfl rfl rfl (by decide +kernel) ⟨(Nat.le_of_ble_eq_true rfl), (Nat.le_of_ble_eq_true rfl)⟩) hP hK hD hS hA [0, 1, 2, 3, 4, 5, 6, 7, 8, 9, 10, 11, 12, 13, 14, 15] rfl rfl rfl rfl rfl hl.1 rfl (Nat.le_of_ble_eq_true rfl) dX3_isOnTriangle_19 ⟨Nat.zero_le _, Nat.zero_le _⟩ (fun H locs hP hS => ?_)
  refine lv_istore (lv' := [(6, .int (iI (zCr dx dy a1 b1))), (5, .int (iI (zCr dx dy c1 a1))), (4, .int (iI (zCr dx dy b1 c1))), (0, .ref (a 11)), (1, .int (iI a1)), (2, .int (iI b1)), (3, .int (iI c1))]) hx hb dX3_isOnTriangle_22 hl (by decide) rfl (fun ls hl => ?_)
  refine lv_iload hx hb dX3_isOnTriangle_24 (lv_at hl 2 rfl) ?_
  refine lv_iload hx hb dX3_isOnTriangle_26 (lv_at hl 1 rfl) ?_
  refine zi_iadd hx hb dX3_isOnTriangle_28 ?_
  refine lv_iload hx hb dX3_isOnTriangle_29 (lv_at hl 0 rfl) ?_
  refine zi_iadd hx hb dX3_isOnTriangle_31 ?_
  refine lv_istore (lv' := [(7, .int (iI (((zCr dx dy b1 c1) + (zCr dx dy c1 a1)) + (zCr dx dy a1 b1)))), (6, .int (iI (zCr dx dy a1 b1))), (5, .int (iI (zCr dx dy c1 a1))), (4, .int (iI (zCr dx dy b1 c1))), (0, .ref (a 11)), (1, .int (iI a1)), (2, .int (iI b1)), (3, .int (iI c1))]) hx hb dX3_isOnTriangle_32 hl (by decide) rfl (fun ls hl => ?_)
  have J44 : ∀ (t1 : Int), (t1 = zTn dx dy a1 b1 c1) → ∀ (H : Heap) (locs : List Loc) (ls : Array Slot), va_P D vwCl [(a 11, .inr (4, [.ref (a 1), .ref (a 12), .ref (a 14), .ref (a 16)])), (a 12, .inr (6, [.ref (a 13)])), (a 13, .inl (cA, 12, .inl (zF dx))), (a 14, .inr (6, [.ref (a 15)])), (a 15, .inl (cA, 12, .inl (zF dy))), (a 16, .inr (6, [.ref (a 17)])), (a 17, .inl (cA, 12, .inl (zF dh))), (a 1, .inr (5, [.ref (a 2), .ref (a 4), .ref (a 6), .ref (a 8), .int (iI N)])), (a 2, .inr (6, [.ref (a 3)])), (a 3, .inl (cA, 12, .inl (zF Xs))), (a 4, .inr (6, [.ref (a 5)])), (a 5, .inl (cA, 12, .inl (zF Ys))), (a 6, .inr (6, [.ref (a 7)])), (a 7, .inl (cA, 12, .inl (zF Wt))), (a 8, .inr (6, [.ref (a 9)])), (a 9, .inl (cA, 12, .inl (zF Cp)))] H → va_S (zN s.heap.size) s.heap H locs → lv_has ls 9 [(0, .ref (a 11)), (1, .int (iI a1)), (2, .int (iI b1)), (3, .int (iI c1)), (4, .int (iI (zCr dx dy b1 c1))), (5, .int (iI (zCr dx dy c1 a1))), (6, .int (iI (zCr dx dy a1 b1))), (7, .int (iI (((zCr dx dy b1 c1) + (zCr dx dy c1 a1)) + (zCr dx dy a1 b1))))] → W p l e (headSpec wsX3_isOnTriangle ({ frames := 2, cells := 0, slots := 0, locals := 43 })).room s m ([.ref (a 11), .int (iI a1), .int (iI b1), .int (iI c1)] : List Value).toArray below meth c H locs 0 0 (MQ below (zRi (bI (zT3 dx dy dh a1 b1 c1)) s.heap.size) ([.ref (a 11), .int (iI a1), .int (iI b1), .int (iI c1)] : List Value).toArray s 0 0 (zN s.heap.size)) (F0 m 44 ls [.int (iI t1)]) := by
    intro t1 g1 H locs ls hP hS hl
    have g2 : t1 = -1 ∨ t1 = 1 := by rw [g1]; exact zTn_ne dx dy a1 b1 c1
    have y1 := zm_le (a := t1) (b := zCr dx dy b1 c1) (A := 1) (B := 3200) (by omega) z1
    have y2 := zm_le (a := t1) (b := zCr dx dy c1 a1) (A := 1) (B := 3200) (by omega) z2
    have y3 := zm_le (a := t1) (b := zCr dx dy a1 b1) (A := 1) (B := 3200) (by omega) z3
    have y4 := zm_le z1 z5.2.2
    have y5 := zm_le z2 z6.2.2
    have y6 := zm_le z3 z7.2.2
    have y7 := zm_le (a := t1) (b := zCr dx dy b1 c1 * dh a1 + zCr dx dy c1 a1 * dh b1 + zCr dx dy a1 b1 * dh c1) (A := 1) (B := 60000000) (by omega) (by omega)
    refine lv_istore (lv' := [(8, .int (iI t1)), (0, .ref (a 11)), (1, .int (iI a1)), (2, .int (iI b1)), (3, .int (iI c1)), (4, .int (iI (zCr dx dy b1 c1))), (5, .int (iI (zCr dx dy c1 a1))), (6, .int (iI (zCr dx dy a1 b1))), (7, .int (iI (((zCr dx dy b1 c1) + (zCr dx dy c1 a1)) + (zCr dx dy a1 b1))))]) hx hb dX3_isOnTriangle_44 hl (by decide) rfl (fun ls hl => ?_)
    refine lv_iload hx hb dX3_isOnTriangle_46 (lv_at hl 8 rfl) ?_
    refine zi_if_eq (tgt := 75) hx hb dX3_isOnTriangle_48 (by decide) (by omega) (fun c48 => ?_) (fun c48 => ?_)
    · skip
      refine lv_iconst (v := iI 0) hx hb dX3_isOnTriangle_75 rfl ?_
      exact W.zret (v := iI 0) (ty := .boolean) hx hb hr (by decide) (fun t ht hW => ⟨⟨iI 0, (), rfl, congrArg iI (show 0 = bI (zT3 dx dy dh a1 b1 c1) from by first | exact (bI_t (by unfold zT3 zTr; rw [← g1]; omega)).symm | exact (bI_f (by unfold zT3 zTr; rw [← g1]; omega)).symm), trivial⟩, hS.F ht⟩) hS.2.2 dX3_isOnTriangle_76
    · skip
      refine lv_iload hx hb dX3_isOnTriangle_51 (lv_at hl 0 rfl) ?_
      refine lv_iload hx hb dX3_isOnTriangle_53 (lv_at hl 5 rfl) ?_
      refine zi_imul hx hb dX3_isOnTriangle_55 ?_
      refine zi_if_lt (tgt := 75) hx hb dX3_isOnTriangle_56 (by decide) (by omega) (fun c56 => ?_) (fun c56 => ?_)
      · skip
        refine lv_iconst (v := iI 0) hx hb dX3_isOnTriangle_75 rfl ?_
        exact W.zret (v := iI 0) (ty := .boolean) hx hb hr (by decide) (fun t ht hW => ⟨⟨iI 0, (), rfl, congrArg iI (show 0 = bI (zT3 dx dy dh a1 b1 c1) from by first | exact (bI_t (by unfold zT3 zTr; rw [← g1]; omega)).symm | exact (bI_f (by unfold zT3 zTr; rw [← g1]; omega)).symm), trivial⟩, hS.F ht⟩) hS.2.2 dX3_isOnTriangle_76
      · skip
        refine lv_iload hx hb dX3_isOnTriangle_59 (lv_at hl 0 rfl) ?_
        refine lv_iload hx hb dX3_isOnTriangle_61 (lv_at hl 6 rfl) ?_
        refine zi_imul hx hb dX3_isOnTriangle_63 ?_
        refine zi_if_lt (tgt := 75) hx hb dX3_isOnTriangle_64 (by decide) (by omega) (fun c64 => ?_) (fun c64 => ?_)
        · skip
          refine lv_iconst (v := iI 0) hx hb dX3_isOnTriangle_75 rfl ?_
          exact W.zret (v := iI 0) (ty := .boolean) hx hb hr (by decide) (fun t ht hW => ⟨⟨iI 0, (), rfl, congrArg iI (show 0 = bI (zT3 dx dy dh a1 b1 c1) from by first | exact (bI_t (by unfold zT3 zTr; rw [← g1]; omega)).symm | exact (bI_f (by unfold zT3 zTr; rw [← g1]; omega)).symm), trivial⟩, hS.F ht⟩) hS.2.2 dX3_isOnTriangle_76
        · skip
          refine lv_iload hx hb dX3_isOnTriangle_67 (lv_at hl 0 rfl) ?_
          refine lv_iload hx hb dX3_isOnTriangle_69 (lv_at hl 7 rfl) ?_
          refine zi_imul hx hb dX3_isOnTriangle_71 ?_
          refine zi_if_ge (tgt := 77) hx hb dX3_isOnTriangle_72 (by decide) (by omega) (fun c72 => ?_) (fun c72 => ?_)
          · skip
            refine lv_iload hx hb dX3_isOnTriangle_77 (lv_at hl 0 rfl) ?_
            refine lv_iload hx hb dX3_isOnTriangle_79 (lv_at hl 5 rfl) ?_
            refine lv_aload_n hx hb dX3_isOnTriangle_81 rfl (lv_at hl 1 rfl) ?_
            refine va_get (ci := 4) (v := .ref (a 16)) (C := RX3) (T := TX3) (N := 4) hx hb hts iz_X3_isOnTriangle_X3 hown hK hP 0 rfl rfl 3 (by decide) (hts (.fieldLink RX3 19 "PowerPlot$Hull" "heights" "LPowerPlot$Row;") (by decide +kernel)) (fun _ h9 => h9) rfl dX3_isOnTriangle_82 ?_
            refine lv_iload_n hx hb dX3_isOnTriangle_85 rfl (lv_at hl 2 rfl) ?_
            refine zc_ri (As := [.int (iI a1)]) (rest := [.int (iI (zCr dx dy b1 c1)), .int (iI t1)]) ⟨hx, hb, hml, hown, hts⟩ (c_X5_at l D _ tys cA hty (a 16) (a 17) dh a1 (by omega)) (cwV 1 hts gX3_isOnTriangle_X5_at rfl rfl rfl (by decide +kernel) ⟨(Nat.le_of_ble_eq_true rfl), (Nat.le_of_ble_eq_true rfl)⟩) hP hK hD hS hA [5, 6] rfl rfl rfl rfl rfl hl.1 rfl (Nat.le_of_ble_eq_true rfl) dX3_isOnTriangle_86 ⟨Nat.zero_le _, Nat.zero_le _⟩ (fun H locs hP hS => ?_)
            refine zi_imul hx hb dX3_isOnTriangle_89 ?_
            refine lv_iload hx hb dX3_isOnTriangle_90 (lv_at hl 6 rfl) ?_
            refine lv_aload_n hx hb dX3_isOnTriangle_92 rfl (lv_at hl 1 rfl) ?_
            refine va_get (ci := 4) (v := .ref (a 16)) (C := RX3) (T := TX3) (N := 4) hx hb hts iz_X3_isOnTriangle_X3 hown hK hP 0 rfl rfl 3 (by decide) (hts (.fieldLink RX3 19 "PowerPlot$Hull" "heights" "LPowerPlot$Row;") (by decide +kernel)) (fun _ h9 => h9) rfl dX3_isOnTriangle_93 ?_
            refine lv_iload_n hx hb dX3_isOnTriangle_96 rfl (lv_at hl 3 rfl) ?_
            refine zc_ri (As := [.int (iI b1)]) (rest := [.int (iI (zCr dx dy c1 a1)), .int (iI ((zCr dx dy b1 c1) * (dh a1))), .int (iI t1)]) ⟨hx, hb, hml, hown, hts⟩ (c_X5_at l D _ tys cA hty (a 16) (a 17) dh b1 (by omega)) (cwV 1 hts gX3_isOnTriangle_X5_at rfl rfl rfl (by decide +kernel) ⟨(Nat.le_of_ble_eq_true rfl), (Nat.le_of_ble_eq_true rfl)⟩) hP hK hD hS hA [5, 6] rfl rfl rfl rfl rfl hl.1 rfl (Nat.le_of_ble_eq_true rfl) dX3_isOnTriangle_97 ⟨Nat.zero_le _, Nat.zero_le _⟩ (fun H locs hP hS => ?_)
            refine zi_imul hx hb dX3_isOnTriangle_100 ?_
            refine zi_iadd hx hb dX3_isOnTriangle_101 ?_
            refine lv_iload hx hb dX3_isOnTriangle_102 (lv_at hl 7 rfl) ?_
            refine lv_aload_n hx hb dX3_isOnTriangle_104 rfl (lv_at hl 1 rfl) ?_
            refine va_get (ci := 4) (v := .ref (a 16)) (C := RX3) (T := TX3) (N := 4) hx hb hts iz_X3_isOnTriangle_X3 hown hK hP 0 rfl rfl 3 (by decide) (hts (.fieldLink RX3 19 "PowerPlot$Hull" "heights" "LPowerPlot$Row;") (by decide +kernel)) (fun _ h9 => h9) rfl dX3_isOnTriangle_105 ?_
            refine lv_iload_n hx hb dX3_isOnTriangle_108 rfl (lv_at hl 4 rfl) ?_
            refine zc_ri (As := [.int (iI c1)]) (rest := [.int (iI (zCr dx dy a1 b1)), .int (iI (((zCr dx dy b1 c1) * (dh a1)) + ((zCr dx dy c1 a1) * (dh b1)))), .int (iI t1)]) ⟨hx, hb, hml, hown, hts⟩ (c_X5_at l D _ tys cA hty (a 16) (a 17) dh c1 (by omega)) (cwV 1 hts gX3_isOnTriangle_X5_at rfl rfl rfl (by decide +kernel) ⟨(Nat.le_of_ble_eq_true rfl), (Nat.le_of_ble_eq_true rfl)⟩) hP hK hD hS hA [5, 6] rfl rfl rfl rfl rfl hl.1 rfl (Nat.le_of_ble_eq_true rfl) dX3_isOnTriangle_109 ⟨Nat.zero_le _, Nat.zero_le _⟩ (fun H locs hP hS => ?_)
            refine zi_imul hx hb dX3_isOnTriangle_112 ?_
            refine zi_iadd hx hb dX3_isOnTriangle_113 ?_
            refine zi_imul hx hb dX3_isOnTriangle_114 ?_
            refine zi_if_gt (tgt := 122) hx hb dX3_isOnTriangle_115 (by decide) (by omega) (fun c115 => ?_) (fun c115 => ?_)
            · skip
              refine lv_iconst (v := iI 0) hx hb dX3_isOnTriangle_122 rfl ?_
              exact W.zret (v := iI 0) (ty := .boolean) hx hb hr (by decide) (fun t ht hW => ⟨⟨iI 0, (), rfl, congrArg iI (show 0 = bI (zT3 dx dy dh a1 b1 c1) from by first | exact (bI_t (by unfold zT3 zTr; rw [← g1]; omega)).symm | exact (bI_f (by unfold zT3 zTr; rw [← g1]; omega)).symm), trivial⟩, hS.F ht⟩) hS.2.2 dX3_isOnTriangle_123
            · skip
              refine lv_iconst (v := iI 1) hx hb dX3_isOnTriangle_118 rfl ?_
              refine lv_goto (tgt := 123) hx hb dX3_isOnTriangle_119 (by decide) ?_
              exact W.zret (v := iI 1) (ty := .boolean) hx hb hr (by decide) (fun t ht hW => ⟨⟨iI 1, (), rfl, congrArg iI (show 1 = bI (zT3 dx dy dh a1 b1 c1) from by first | exact (bI_t (by unfold zT3 zTr; rw [← g1]; omega)).symm | exact (bI_f (by unfold zT3 zTr; rw [← g1]; omega)).symm), trivial⟩, hS.F ht⟩) hS.2.2 dX3_isOnTriangle_123
          · skip
            refine lv_iconst (v := iI 0) hx hb dX3_isOnTriangle_75 rfl ?_
            exact W.zret (v := iI 0) (ty := .boolean) hx hb hr (by decide) (fun t ht hW => ⟨⟨iI 0, (), rfl, congrArg iI (show 0 = bI (zT3 dx dy dh a1 b1 c1) from by first | exact (bI_t (by unfold zT3 zTr; rw [← g1]; omega)).symm | exact (bI_f (by unfold zT3 zTr; rw [← g1]; omega)).symm), trivial⟩, hS.F ht⟩) hS.2.2 dX3_isOnTriangle_76
  refine lv_iload hx hb dX3_isOnTriangle_34 (lv_at hl 0 rfl) ?_
  refine zi_if_ge (tgt := 43) hx hb dX3_isOnTriangle_36 (by decide) (by omega) (fun c36 => ?_) (fun c36 => ?_)
  · skip
    refine lv_iconst (v := iI 1) hx hb dX3_isOnTriangle_43 rfl ?_
    exact J44 1 (by first | exact (if_pos (by omega)).symm | exact (if_neg (by omega)).symm) _ _ _ hP hS (lv_sub hl [4, 5, 6, 7, 3, 2, 1, 0] rfl)
  · skip
    refine lv_iconst (v := iI (-1)) hx hb dX3_isOnTriangle_39 rfl ?_
    refine lv_goto (tgt := 44) hx hb dX3_isOnTriangle_40 (by decide) ?_
    exact J44 (-1) (by first | exact (if_pos (by omega)).symm | exact (if_neg (by omega)).symm) _ _ _ hP hS (lv_sub hl [4, 5, 6, 7, 3, 2, 1, 0] rfl)
theorem iz_X3_isAboveAnyTriangle_X3 : ∀ w ∈ u_ws RX3 TX3 4, w ∈ wsX3_isAboveAnyTriangle := by decide +kernel
theorem iz_X3_isAboveAnyTriangle_X4 : ∀ w ∈ u_ws RX4 TX4 5, w ∈ wsX3_isAboveAnyTriangle := by decide +kernel
set_option maxHeartbeats 4000000 in
set_option maxRecDepth 100000 in
/-- Hull.isAboveAnyTriangle -/
theorem c_X3_isAboveAnyTriangle (l : Launch) (D : va_G) (sz : Nat) (tys : List (ClassId × FieldType)) (cA : ClassId) (hty : tys[0]? = some (cA, .int)) (a : Nat → Nat) (N : Int) (Xs Ys Wt Cp : Int → Int) (dx dy dh : Int → Int) (k a1 b1 : Int) (gH : zHb dx dy dh N) (gN : 0 ≤ N ∧ N ≤ 12) (ga : 0 ≤ a1 ∧ a1 < N) (gb : 0 ≤ b1 ∧ b1 < N) (gk : 0 ≤ k ∧ k < N) : Met l yX3_isAboveAnyTriangle wsX3_isAboveAnyTriangle ({ frames := 3, cells := 0, slots := 0, locals := 71 }) (zP D [.ref (a 11), .int (iI k), .int (iI a1), .int (iI b1)] sz [(a 11, .inr (4, [.ref (a 1), .ref (a 12), .ref (a 14), .ref (a 16)])), (a 12, .inr (6, [.ref (a 13)])), (a 13, .inl (cA, 12, .inl (zF dx))), (a 14, .inr (6, [.ref (a 15)])), (a 15, .inl (cA, 12, .inl (zF dy))), (a 16, .inr (6, [.ref (a 17)])), (a 17, .inl (cA, 12, .inl (zF dh))), (a 1, .inr (5, [.ref (a 2), .ref (a 4), .ref (a 6), .ref (a 8), .int (iI N)])), (a 2, .inr (6, [.ref (a 3)])), (a 3, .inl (cA, 12, .inl (zF Xs))), (a 4, .inr (6, [.ref (a 5)])), (a 5, .inl (cA, 12, .inl (zF Ys))), (a 6, .inr (6, [.ref (a 7)])), (a 7, .inl (cA, 12, .inl (zF Wt))), (a 8, .inr (6, [.ref (a 9)])), (a 9, .inl (cA, 12, .inl (zF Cp)))] tys) (zRi (bI (zTs dx dy dh N k a1 b1)) sz) 0 0 (zN sz) := by
  refine Met.ofW (cc := cX3_isAboveAnyTriangle) (maxL := 5) (ret := (some .boolean)) (by decide +kernel) rfl ?_
  intro p e s m args below meth c s₁ B hml hv
  obtain ⟨rfl, hsz, hP, hK, hD0⟩ := hv
  have hx := B.exec
  have hb := B.bytes
  have hr := B.returns
  have hts := atoms_spec (ws := wsX3_isAboveAnyTriangle) B.pre
  have hown : s.vm.findClass RX3 = some m.cls := findClass_of_methodNamed B.named
  have hlocks := B.notSynchronized
  subst hsz
  have hD := hD0
  have hS : va_S (zN s.heap.size) s.heap s.heap [] := va_S.rf
  have hA : ∀ q9 : Nat, s.heap.size ≤ q9 → (zN s.heap.size) q9 := fun q9 h => h
  have hl := lv_entry ([.ref (a 11), .int (iI k), .int (iI a1), .int (iI b1)]) (n := 5) (Nat.le_of_ble_eq_true rfl)
  rw [lg_entry_eq]
  generalize (lg_sl ([.ref (a 11), .int (iI k), .int (iI a1), .int (iI b1)]) ++ List.replicate (5 - (lg_sl ([.ref (a 11), .int (iI k), .int (iI a1), .int (iI b1)])).length) Slot.unset).toArray = ls at hl ⊢
  have hl : lv_has ls 5 [(0, .ref (a 11)), (1, .int (iI k)), (2, .int (iI a1)), (3, .int (iI b1))] := hl
  refine lv_iload_n hx hb dX3_isAboveAnyTriangle_0 rfl (lv_at hl 3 rfl) ?_
  refine lv_iconst (v := iI 1) hx hb dX3_isAboveAnyTriangle_1 rfl ?_
  refine zi_iadd hx hb dX3_isAboveAnyTriangle_2 ?_
  refine lv_istore (lv' := [(4, .int (iI (b1 + 1))), (0, .ref (a 11)), (1, .int (iI k)), (2, .int (iI a1)), (3, .int (iI b1))]) hx hb dX3_isAboveAnyTriangle_3 hl (by decide) rfl (fun ls hl => ?_)
  have L5 : ∀ (n : Nat) (i : Int), (N - i < (n : Int)) → (b1 + 1 ≤ i ∧ i ≤ N) → (∀ c : Int, b1 < c → c < i → ¬ c = k → ¬ zT3 dx dy dh a1 b1 c) → ∀ (H : Heap) (locs : List Loc) (ls : Array Slot), va_P D vwCl [(a 11, .inr (4, [.ref (a 1), .ref (a 12), .ref (a 14), .ref (a 16)])), (a 12, .inr (6, [.ref (a 13)])), (a 13, .inl (cA, 12, .inl (zF dx))), (a 14, .inr (6, [.ref (a 15)])), (a 15, .inl (cA, 12, .inl (zF dy))), (a 16, .inr (6, [.ref (a 17)])), (a 17, .inl (cA, 12, .inl (zF dh))), (a 1, .inr (5, [.ref (a 2), .ref (a 4), .ref (a 6), .ref (a 8), .int (iI N)])), (a 2, .inr (6, [.ref (a 3)])), (a 3, .inl (cA, 12, .inl (zF Xs))), (a 4, .inr (6, [.ref (a 5)])), (a 5, .inl (cA, 12, .inl (zF Ys))), (a 6, .inr (6, [.ref (a 7)])), (a 7, .inl (cA, 12, .inl (zF Wt))), (a 8, .inr (6, [.ref (a 9)])), (a 9, .inl (cA, 12, .inl (zF Cp)))] H → va_S (zN s.heap.size) s.heap H locs → lv_has ls 5 [(0, .ref (a 11)), (1, .int (iI k)), (2, .int (iI a1)), (3, .int (iI b1)), (4, .int (iI i))] → W p l e (headSpec wsX3_isAboveAnyTriangle ({ frames := 3, cells := 0, slots := 0, locals := 71 })).room s m ([.ref (a 11), .int (iI k), .int (iI a1), .int (iI b1)] : List Value).toArray below meth c H locs 0 0 (MQ below (zRi (bI (zTs dx dy dh N k a1 b1)) s.heap.size) ([.ref (a 11), .int (iI k), .int (iI a1), .int (iI b1)] : List Value).toArray s 0 0 (zN s.heap.size)) (F0 m 5 ls []) := by
    intro n
    induction n with
    | zero =>
      intro i hn9 h1 h2 H locs ls hP hS hl
      exact absurd hn9 (by omega)
    | succ n ih5 =>
      intro i hn9 h1 h2 H locs ls hP hS hl
      refine lv_iload hx hb dX3_isAboveAnyTriangle_5 (lv_at hl 4 rfl) ?_
      refine lv_aload_n hx hb dX3_isAboveAnyTriangle_7 rfl (lv_at hl 0 rfl) ?_
      refine va_get (ci := 4) (v := .ref (a 1)) (C := RX3) (T := TX3) (N := 4) hx hb hts iz_X3_isAboveAnyTriangle_X3 hown hK hP 0 rfl rfl 0 (by decide) (hts (.fieldLink RX3 22 "PowerPlot$Hull" "places" "LPowerPlot$Places;") (by decide +kernel)) (fun _ h9 => h9) rfl dX3_isAboveAnyTriangle_8 ?_
      refine va_get (ci := 5) (v := .int (iI N)) (C := RX4) (T := TX4) (N := 5) hx hb hts iz_X3_isAboveAnyTriangle_X4 hown hK hP 7 rfl rfl 4 (by decide) (hts (.fieldLink RX3 30 "PowerPlot$Places" "count" "I") (by decide +kernel)) (fun _ h9 => h9) rfl dX3_isAboveAnyTriangle_11 ?_
      refine zi_icmp_ge (tgt := 42) hx hb dX3_isAboveAnyTriangle_14 (by decide) (by omega) (by omega) (fun c14 => ?_) (fun c14 => ?_)
      · skip
        refine lv_iconst (v := iI 0) hx hb dX3_isAboveAnyTriangle_42 rfl ?_
        exact W.zret (v := iI 0) (ty := .boolean) hx hb hr (by decide) (fun t ht hW => ⟨⟨iI 0, (), rfl, congrArg iI (show 0 = bI (zTs dx dy dh N k a1 b1) from by exact (bI_f (fun ⟨c, p, q, r, z⟩ => h2 c p (by omega) r z)).symm), trivial⟩, hS.F ht⟩) hS.2.2 dX3_isAboveAnyTriangle_43
      · skip
        refine lv_iload hx hb dX3_isAboveAnyTriangle_17 (lv_at hl 4 rfl) ?_
        refine lv_iload_n hx hb dX3_isAboveAnyTriangle_19 rfl (lv_at hl 1 rfl) ?_
        refine zi_icmp_eq (tgt := 36) hx hb dX3_isAboveAnyTriangle_20 (by decide) (by omega) (by omega) (fun c20 => ?_) (fun c20 => ?_)
        · skip
          refine lv_iinc (v := iI (i + 1)) (lv' := [(4, .int (iI (i + 1))), (0, .ref (a 11)), (1, .int (iI k)), (2, .int (iI a1)), (3, .int (iI b1))]) hx hb dX3_isAboveAnyTriangle_36 hl (k := 4) rfl (iI_add i 1) (by decide) rfl (fun ls hl => ?_)
          refine lv_goto (tgt := 5) hx hb dX3_isAboveAnyTriangle_39 (by decide) ?_
          exact ih5 (i + 1) (by omega) (by omega) (by first | exact zfa_st h2 (Or.inl c20) | exact zfa_st h2 (Or.inr c31)) _ _ _ hP hS (lv_sub hl [1, 2, 3, 4, 0] rfl)
        · skip
          refine lv_aload_n hx hb dX3_isAboveAnyTriangle_23 rfl (lv_at hl 0 rfl) ?_
          refine lv_iload_n hx hb dX3_isAboveAnyTriangle_24 rfl (lv_at hl 2 rfl) ?_
          refine lv_iload_n hx hb dX3_isAboveAnyTriangle_25 rfl (lv_at hl 3 rfl) ?_
          refine lv_iload hx hb dX3_isAboveAnyTriangle_26 (lv_at hl 4 rfl) ?_
          refine zc_ri (As := [.int (iI a1), .int (iI b1), .int (iI i)]) (rest := []) ⟨hx, hb, hml, hown, hts⟩ (c_X3_isOnTriangle l D _ tys cA hty a N Xs Ys Wt Cp dx dy dh a1 b1 i gH gN (by omega) (by omega) (by omega)) (cwV 3 hts gX3_isAboveAnyTriangle_X3_isOnTriangle rfl rfl rfl (by decide +kernel) ⟨(Nat.le_of_ble_eq_true rfl), (Nat.le_of_ble_eq_true rfl)⟩) hP hK hD hS hA [0, 1, 2, 3, 4, 5, 6, 7, 8, 9, 10, 11, 12, 13, 14, 15] rfl rfl rfl rfl rfl hl.1 rfl (Nat.le_of_ble_eq_true rfl) dX3_isAboveAnyTriangle_28 ⟨Nat.zero_le _, Nat.zero_le _⟩ (fun H locs hP hS => ?_)
          refine zb_if_eq (tgt := 36) hx hb dX3_isAboveAnyTriangle_31 (by decide) (fun c31 => ?_) (fun c31 => ?_)
          · skip
            refine lv_iinc (v := iI (i + 1)) (lv' := [(4, .int (iI (i + 1))), (0, .ref (a 11)), (1, .int (iI k)), (2, .int (iI a1)), (3, .int (iI b1))]) hx hb dX3_isAboveAnyTriangle_36 hl (k := 4) rfl (iI_add i 1) (by decide) rfl (fun ls hl => ?_)
            refine lv_goto (tgt := 5) hx hb dX3_isAboveAnyTriangle_39 (by decide) ?_
            exact ih5 (i + 1) (by omega) (by omega) (by first | exact zfa_st h2 (Or.inl c20) | exact zfa_st h2 (Or.inr c31)) _ _ _ hP hS (lv_sub hl [1, 2, 3, 4, 0] rfl)
          · skip
            refine lv_iconst (v := iI 1) hx hb dX3_isAboveAnyTriangle_34 rfl ?_
            exact W.zret (v := iI 1) (ty := .boolean) hx hb hr (by decide) (fun t ht hW => ⟨⟨iI 1, (), rfl, congrArg iI (show 1 = bI (zTs dx dy dh N k a1 b1) from by exact (bI_t ⟨i, by omega, by omega, c20, c31⟩).symm), trivial⟩, hS.F ht⟩) hS.2.2 dX3_isAboveAnyTriangle_35
  exact L5 (((N - (b1 + 1) : Int)).toNat + 1) (b1 + 1) (by omega) (by omega) (fun c p q => absurd q (by omega)) _ _ _ hP hS (lv_sub hl [1, 2, 3, 4, 0] rfl)
theorem iz_X3_isAboveAny_X3 : ∀ w ∈ u_ws RX3 TX3 4, w ∈ wsX3_isAboveAny := by decide +kernel
theorem iz_X3_isAboveAny_X4 : ∀ w ∈ u_ws RX4 TX4 5, w ∈ wsX3_isAboveAny := by decide +kernel
set_option maxHeartbeats 4000000 in
set_option maxRecDepth 100000 in
/-- Hull.isAboveAny -/
theorem c_X3_isAboveAny (l : Launch) (D : va_G) (sz : Nat) (tys : List (ClassId × FieldType)) (cA : ClassId) (hty : tys[0]? = some (cA, .int)) (a : Nat → Nat) (N : Int) (Xs Ys Wt Cp : Int → Int) (dx dy dh : Int → Int) (k a1 : Int) (gH : zHb dx dy dh N) (gN : 0 ≤ N ∧ N ≤ 12) (ga : 0 ≤ a1 ∧ a1 < N) (gk : 0 ≤ k ∧ k < N) : Met l yX3_isAboveAny wsX3_isAboveAny ({ frames := 4, cells := 0, slots := 0, locals := 95 }) (zP D [.ref (a 11), .int (iI k), .int (iI a1)] sz [(a 11, .inr (4, [.ref (a 1), .ref (a 12), .ref (a 14), .ref (a 16)])), (a 12, .inr (6, [.ref (a 13)])), (a 13, .inl (cA, 12, .inl (zF dx))), (a 14, .inr (6, [.ref (a 15)])), (a 15, .inl (cA, 12, .inl (zF dy))), (a 16, .inr (6, [.ref (a 17)])), (a 17, .inl (cA, 12, .inl (zF dh))), (a 1, .inr (5, [.ref (a 2), .ref (a 4), .ref (a 6), .ref (a 8), .int (iI N)])), (a 2, .inr (6, [.ref (a 3)])), (a 3, .inl (cA, 12, .inl (zF Xs))), (a 4, .inr (6, [.ref (a 5)])), (a 5, .inl (cA, 12, .inl (zF Ys))), (a 6, .inr (6, [.ref (a 7)])), (a 7, .inl (cA, 12, .inl (zF Wt))), (a 8, .inr (6, [.ref (a 9)])), (a 9, .inl (cA, 12, .inl (zF Cp)))] tys) (zRi (bI (zAn dx dy dh N k a1)) sz) 0 0 (zN sz) := by
  refine Met.ofW (cc := cX3_isAboveAny) (maxL := 4) (ret := (some .boolean)) (by decide +kernel) rfl ?_
  intro p e s m args below meth c s₁ B hml hv
  obtain ⟨rfl, hsz, hP, hK, hD0⟩ := hv
  have hx := B.exec
  have hb := B.bytes
  have hr := B.returns
  have hts := atoms_spec (ws := wsX3_isAboveAny) B.pre
  have hown : s.vm.findClass RX3 = some m.cls := findClass_of_methodNamed B.named
  have hlocks := B.notSynchronized
  subst hsz
  have hD := hD0
  have hS : va_S (zN s.heap.size) s.heap s.heap [] := va_S.rf
  have hA : ∀ q9 : Nat, s.heap.size ≤ q9 → (zN s.heap.size) q9 := fun q9 h => h
  have hl := lv_entry ([.ref (a 11), .int (iI k), .int (iI a1)]) (n := 4) (Nat.le_of_ble_eq_true rfl)
  rw [lg_entry_eq]
  generalize (lg_sl ([.ref (a 11), .int (iI k), .int (iI a1)]) ++ List.replicate (4 - (lg_sl ([.ref (a 11), .int (iI k), .int (iI a1)])).length) Slot.unset).toArray = ls at hl ⊢
  have hl : lv_has ls 4 [(0, .ref (a 11)), (1, .int (iI k)), (2, .int (iI a1))] := hl
  refine lv_iload_n hx hb dX3_isAboveAny_0 rfl (lv_at hl 2 rfl) ?_
  refine lv_iconst (v := iI 1) hx hb dX3_isAboveAny_1 rfl ?_
  refine zi_iadd hx hb dX3_isAboveAny_2 ?_
  refine lv_istore_n (lv' := [(3, .int (iI (a1 + 1))), (0, .ref (a 11)), (1, .int (iI k)), (2, .int (iI a1))]) hx hb dX3_isAboveAny_3 rfl hl (by decide) rfl (fun ls hl => ?_)
  have L4 : ∀ (n : Nat) (i : Int), (N - i < (n : Int)) → (a1 + 1 ≤ i ∧ i ≤ N) → (∀ c : Int, a1 < c → c < i → ¬ c = k → ¬ (zSg dx dy dh a1 c ∨ zTs dx dy dh N k a1 c)) → ∀ (H : Heap) (locs : List Loc) (ls : Array Slot), va_P D vwCl [(a 11, .inr (4, [.ref (a 1), .ref (a 12), .ref (a 14), .ref (a 16)])), (a 12, .inr (6, [.ref (a 13)])), (a 13, .inl (cA, 12, .inl (zF dx))), (a 14, .inr (6, [.ref (a 15)])), (a 15, .inl (cA, 12, .inl (zF dy))), (a 16, .inr (6, [.ref (a 17)])), (a 17, .inl (cA, 12, .inl (zF dh))), (a 1, .inr (5, [.ref (a 2), .ref (a 4), .ref (a 6), .ref (a 8), .int (iI N)])), (a 2, .inr (6, [.ref (a 3)])), (a 3, .inl (cA, 12, .inl (zF Xs))), (a 4, .inr (6, [.ref (a 5)])), (a 5, .inl (cA, 12, .inl (zF Ys))), (a 6, .inr (6, [.ref (a 7)])), (a 7, .inl (cA, 12, .inl (zF Wt))), (a 8, .inr (6, [.ref (a 9)])), (a 9, .inl (cA, 12, .inl (zF Cp)))] H → va_S (zN s.heap.size) s.heap H locs → lv_has ls 4 [(0, .ref (a 11)), (1, .int (iI k)), (2, .int (iI a1)), (3, .int (iI i))] → W p l e (headSpec wsX3_isAboveAny ({ frames := 4, cells := 0, slots := 0, locals := 95 })).room s m ([.ref (a 11), .int (iI k), .int (iI a1)] : List Value).toArray below meth c H locs 0 0 (MQ below (zRi (bI (zAn dx dy dh N k a1)) s.heap.size) ([.ref (a 11), .int (iI k), .int (iI a1)] : List Value).toArray s 0 0 (zN s.heap.size)) (F0 m 4 ls []) := by
    intro n
    induction n with
    | zero =>
      intro i hn9 h1 h2 H locs ls hP hS hl
      exact absurd hn9 (by omega)
    | succ n ih4 =>
      intro i hn9 h1 h2 H locs ls hP hS hl
      refine lv_iload_n hx hb dX3_isAboveAny_4 rfl (lv_at hl 3 rfl) ?_
      refine lv_aload_n hx hb dX3_isAboveAny_5 rfl (lv_at hl 0 rfl) ?_
      refine va_get (ci := 4) (v := .ref (a 1)) (C := RX3) (T := TX3) (N := 4) hx hb hts iz_X3_isAboveAny_X3 hown hK hP 0 rfl rfl 0 (by decide) (hts (.fieldLink RX3 22 "PowerPlot$Hull" "places" "LPowerPlot$Places;") (by decide +kernel)) (fun _ h9 => h9) rfl dX3_isAboveAny_6 ?_
      refine va_get (ci := 5) (v := .int (iI N)) (C := RX4) (T := TX4) (N := 5) hx hb hts iz_X3_isAboveAny_X4 hown hK hP 7 rfl rfl 4 (by decide) (hts (.fieldLink RX3 30 "PowerPlot$Places" "count" "I") (by decide +kernel)) (fun _ h9 => h9) rfl dX3_isAboveAny_9 ?_
      refine zi_icmp_ge (tgt := 47) hx hb dX3_isAboveAny_12 (by decide) (by omega) (by omega) (fun c12 => ?_) (fun c12 => ?_)
      · skip
        refine lv_iconst (v := iI 0) hx hb dX3_isAboveAny_47 rfl ?_
        exact W.zret (v := iI 0) (ty := .boolean) hx hb hr (by decide) (fun t ht hW => ⟨⟨iI 0, (), rfl, congrArg iI (show 0 = bI (zAn dx dy dh N k a1) from by exact (bI_f (fun ⟨c, p, q, r, z⟩ => h2 c p (by omega) r z)).symm), trivial⟩, hS.F ht⟩) hS.2.2 dX3_isAboveAny_48
      · skip
        refine lv_iload_n hx hb dX3_isAboveAny_15 rfl (lv_at hl 3 rfl) ?_
        refine lv_iload_n hx hb dX3_isAboveAny_16 rfl (lv_at hl 1 rfl) ?_
        refine zi_icmp_eq (tgt := 41) hx hb dX3_isAboveAny_17 (by decide) (by omega) (by omega) (fun c17 => ?_) (fun c17 => ?_)
        · skip
          refine lv_iinc (v := iI (i + 1)) (lv' := [(3, .int (iI (i + 1))), (0, .ref (a 11)), (1, .int (iI k)), (2, .int (iI a1))]) hx hb dX3_isAboveAny_41 hl (k := 3) rfl (iI_add i 1) (by decide) rfl (fun ls hl => ?_)
          refine lv_goto (tgt := 4) hx hb dX3_isAboveAny_44 (by decide) ?_
          exact ih4 (i + 1) (by omega) (by omega) (by first | exact zfa_st h2 (Or.inl c17) | exact zfa_st h2 (Or.inr (fun z => z.elim c26 c36))) _ _ _ hP hS (lv_sub hl [1, 2, 3, 0] rfl)
        · skip
          refine lv_aload_n hx hb dX3_isAboveAny_20 rfl (lv_at hl 0 rfl) ?_
          refine lv_iload_n hx hb dX3_isAboveAny_21 rfl (lv_at hl 2 rfl) ?_
          refine lv_iload_n hx hb dX3_isAboveAny_22 rfl (lv_at hl 3 rfl) ?_
          refine zc_ri (As := [.int (iI a1), .int (iI i)]) (rest := []) ⟨hx, hb, hml, hown, hts⟩ (c_X3_isOnSegment l D _ tys cA hty a N Xs Ys Wt Cp dx dy dh a1 i gH gN (by omega) (by omega)) (cwV 2 hts gX3_isAboveAny_X3_isOnSegment rfl rfl rfl (by decide +kernel) ⟨(Nat.le_of_ble_eq_true rfl), (Nat.le_of_ble_eq_true rfl)⟩) hP hK hD hS hA [0, 1, 2, 3, 4, 5, 6, 7, 8, 9, 10, 11, 12, 13, 14, 15] rfl rfl rfl rfl rfl hl.1 rfl (Nat.le_of_ble_eq_true rfl) dX3_isAboveAny_23 ⟨Nat.zero_le _, Nat.zero_le _⟩ (fun H locs hP hS => ?_)
          refine zb_if_ne (tgt := 39) hx hb dX3_isAboveAny_26 (by decide) (fun c26 => ?_) (fun c26 => ?_)
          · skip
            refine lv_iconst (v := iI 1) hx hb dX3_isAboveAny_39 rfl ?_
            exact W.zret (v := iI 1) (ty := .boolean) hx hb hr (by decide) (fun t ht hW => ⟨⟨iI 1, (), rfl, congrArg iI (show 1 = bI (zAn dx dy dh N k a1) from by refine (bI_t ?_).symm; exact ⟨i, by omega, by omega, c17, by first | exact Or.inl c26 | exact Or.inr c36⟩), trivial⟩, hS.F ht⟩) hS.2.2 dX3_isAboveAny_40
          · skip
            refine lv_aload_n hx hb dX3_isAboveAny_29 rfl (lv_at hl 0 rfl) ?_
            refine lv_iload_n hx hb dX3_isAboveAny_30 rfl (lv_at hl 1 rfl) ?_
            refine lv_iload_n hx hb dX3_isAboveAny_31 rfl (lv_at hl 2 rfl) ?_
            refine lv_iload_n hx hb dX3_isAboveAny_32 rfl (lv_at hl 3 rfl) ?_
            refine zc_ri (As := [.int (iI k), .int (iI a1), .int (iI i)]) (rest := []) ⟨hx, hb, hml, hown, hts⟩ (c_X3_isAboveAnyTriangle l D _ tys cA hty a N Xs Ys Wt Cp dx dy dh k a1 i gH gN (by omega) (by omega) (by omega)) (cwV 3 hts gX3_isAboveAny_X3_isAboveAnyTriangle rfl rfl rfl (by decide +kernel) ⟨(Nat.le_of_ble_eq_true rfl), (Nat.le_of_ble_eq_true rfl)⟩) hP hK hD hS hA [0, 1, 2, 3, 4, 5, 6, 7, 8, 9, 10, 11, 12, 13, 14, 15] rfl rfl rfl rfl rfl hl.1 rfl (Nat.le_of_ble_eq_true rfl) dX3_isAboveAny_33 ⟨Nat.zero_le _, Nat.zero_le _⟩ (fun H locs hP hS => ?_)
            refine zb_if_eq (tgt := 41) hx hb dX3_isAboveAny_36 (by decide) (fun c36 => ?_) (fun c36 => ?_)
            · skip
              refine lv_iinc (v := iI (i + 1)) (lv' := [(3, .int (iI (i + 1))), (0, .ref (a 11)), (1, .int (iI k)), (2, .int (iI a1))]) hx hb dX3_isAboveAny_41 hl (k := 3) rfl (iI_add i 1) (by decide) rfl (fun ls hl => ?_)
              refine lv_goto (tgt := 4) hx hb dX3_isAboveAny_44 (by decide) ?_
              exact ih4 (i + 1) (by omega) (by omega) (by first | exact zfa_st h2 (Or.inl c17) | exact zfa_st h2 (Or.inr (fun z => z.elim c26 c36))) _ _ _ hP hS (lv_sub hl [1, 2, 3, 0] rfl)
            · skip
              refine lv_iconst (v := iI 1) hx hb dX3_isAboveAny_39 rfl ?_
              exact W.zret (v := iI 1) (ty := .boolean) hx hb hr (by decide) (fun t ht hW => ⟨⟨iI 1, (), rfl, congrArg iI (show 1 = bI (zAn dx dy dh N k a1) from by refine (bI_t ?_).symm; exact ⟨i, by omega, by omega, c17, by first | exact Or.inl c26 | exact Or.inr c36⟩), trivial⟩, hS.F ht⟩) hS.2.2 dX3_isAboveAny_40
  exact L4 (((N - (a1 + 1) : Int)).toNat + 1) (a1 + 1) (by omega) (by omega) (fun c p q => absurd q (by omega)) _ _ _ hP hS (lv_sub hl [1, 2, 3, 0] rfl)
theorem iz_X3_lookFrom_X3 : ∀ w ∈ u_ws RX3 TX3 4, w ∈ wsX3_lookFrom := by decide +kernel
theorem iz_X3_lookFrom_X4 : ∀ w ∈ u_ws RX4 TX4 5, w ∈ wsX3_lookFrom := by decide +kernel
set_option maxHeartbeats 4000000 in
set_option maxRecDepth 100000 in
/-- Hull.lookFrom -/
theorem c_X3_lookFrom (l : Launch) (D : va_G) (sz : Nat) (tys : List (ClassId × FieldType)) (cA : ClassId) (hty : tys[0]? = some (cA, .int)) (a : Nat → Nat) (N : Int) (Xs Ys Wt Cp : Int → Int) (dx dy dh : Int → Int) (k : Int) (gB : zBd Xs Ys Wt) (gN : 0 ≤ N ∧ N ≤ 12) (gk : 0 ≤ k ∧ k < N) : Met l yX3_lookFrom wsX3_lookFrom ({ frames := 3, cells := 0, slots := 0, locals := 67 }) (zP D [.ref (a 11), .int (iI k)] sz [(a 11, .inr (4, [.ref (a 1), .ref (a 12), .ref (a 14), .ref (a 16)])), (a 12, .inr (6, [.ref (a 13)])), (a 13, .inl (cA, 12, .inl (zF dx))), (a 14, .inr (6, [.ref (a 15)])), (a 15, .inl (cA, 12, .inl (zF dy))), (a 16, .inr (6, [.ref (a 17)])), (a 17, .inl (cA, 12, .inl (zF dh))), (a 1, .inr (5, [.ref (a 2), .ref (a 4), .ref (a 6), .ref (a 8), .int (iI N)])), (a 2, .inr (6, [.ref (a 3)])), (a 3, .inl (cA, 12, .inl (zF Xs))), (a 4, .inr (6, [.ref (a 5)])), (a 5, .inl (cA, 12, .inl (zF Ys))), (a 6, .inr (6, [.ref (a 7)])), (a 7, .inl (cA, 12, .inl (zF Wt))), (a 8, .inr (6, [.ref (a 9)])), (a 9, .inl (cA, 12, .inl (zF Cp)))] tys) (zWv (fun (u : (Int → Int) × (Int → Int) × (Int → Int)) => ∀ i : Int, 0 ≤ i → i < N → u.1 i = Xs i - Xs k ∧ u.2.1 i = Ys i - Ys k ∧ u.2.2 i = zHt Xs Ys Wt i - zHt Xs Ys Wt k) D (fun (u : (Int → Int) × (Int → Int) × (Int → Int)) => [(a 11, .inr (4, [.ref (a 1), .ref (a 12), .ref (a 14), .ref (a 16)])), (a 12, .inr (6, [.ref (a 13)])), (a 13, .inl (cA, 12, .inl (zF u.1))), (a 14, .inr (6, [.ref (a 15)])), (a 15, .inl (cA, 12, .inl (zF u.2.1))), (a 16, .inr (6, [.ref (a 17)])), (a 17, .inl (cA, 12, .inl (zF u.2.2))), (a 1, .inr (5, [.ref (a 2), .ref (a 4), .ref (a 6), .ref (a 8), .int (iI N)])), (a 2, .inr (6, [.ref (a 3)])), (a 3, .inl (cA, 12, .inl (zF Xs))), (a 4, .inr (6, [.ref (a 5)])), (a 5, .inl (cA, 12, .inl (zF Ys))), (a 6, .inr (6, [.ref (a 7)])), (a 7, .inl (cA, 12, .inl (zF Wt))), (a 8, .inr (6, [.ref (a 9)])), (a 9, .inl (cA, 12, .inl (zF Cp)))]) [(a 11, .inr (4, [.ref (a 1), .ref (a 12), .ref (a 14), .ref (a 16)])), (a 12, .inr (6, [.ref (a 13)])), (a 13, .inl (cA, 12, .inl (zF dx))), (a 14, .inr (6, [.ref (a 15)])), (a 15, .inl (cA, 12, .inl (zF dy))), (a 16, .inr (6, [.ref (a 17)])), (a 17, .inl (cA, 12, .inl (zF dh))), (a 1, .inr (5, [.ref (a 2), .ref (a 4), .ref (a 6), .ref (a 8), .int (iI N)])), (a 2, .inr (6, [.ref (a 3)])), (a 3, .inl (cA, 12, .inl (zF Xs))), (a 4, .inr (6, [.ref (a 5)])), (a 5, .inl (cA, 12, .inl (zF Ys))), (a 6, .inr (6, [.ref (a 7)])), (a 7, .inl (cA, 12, .inl (zF Wt))), (a 8, .inr (6, [.ref (a 9)])), (a 9, .inl (cA, 12, .inl (zF Cp)))] sz) 0 0 (va_A [(a 11, .inr (4, [.ref (a 1), .ref (a 12), .ref (a 14), .ref (a 16)])), (a 12, .inr (6, [.ref (a 13)])), (a 13, .inl (cA, 12, .inl (zF dx))), (a 14, .inr (6, [.ref (a 15)])), (a 15, .inl (cA, 12, .inl (zF dy))), (a 16, .inr (6, [.ref (a 17)])), (a 17, .inl (cA, 12, .inl (zF dh))), (a 1, .inr (5, [.ref (a 2), .ref (a 4), .ref (a 6), .ref (a 8), .int (iI N)])), (a 2, .inr (6, [.ref (a 3)])), (a 3, .inl (cA, 12, .inl (zF Xs))), (a 4, .inr (6, [.ref (a 5)])), (a 5, .inl (cA, 12, .inl (zF Ys))), (a 6, .inr (6, [.ref (a 7)])), (a 7, .inl (cA, 12, .inl (zF Wt))), (a 8, .inr (6, [.ref (a 9)])), (a 9, .inl (cA, 12, .inl (zF Cp)))] sz) := by
  refine Met.ofW (cc := cX3_lookFrom) (maxL := 3) (ret := none) (by decide +kernel) rfl ?_
  intro p e s m args below meth c s₁ B hml hv
  obtain ⟨rfl, hsz, hP, hK, hD0⟩ := hv
  have hx := B.exec
  have hb := B.bytes
  have hr := B.returns
  have hts := atoms_spec (ws := wsX3_lookFrom) B.pre
  have hown : s.vm.findClass RX3 = some m.cls := findClass_of_methodNamed B.named
  have hlocks := B.notSynchronized
  subst hsz
  have hD : va_D (va_A [(a 11, .inr (4, [.ref (a 1), .ref (a 12), .ref (a 14), .ref (a 16)])), (a 12, .inr (6, [.ref (a 13)])), (a 13, .inl (cA, 12, .inl (zF dx))), (a 14, .inr (6, [.ref (a 15)])), (a 15, .inl (cA, 12, .inl (zF dy))), (a 16, .inr (6, [.ref (a 17)])), (a 17, .inl (cA, 12, .inl (zF dh))), (a 1, .inr (5, [.ref (a 2), .ref (a 4), .ref (a 6), .ref (a 8), .int (iI N)])), (a 2, .inr (6, [.ref (a 3)])), (a 3, .inl (cA, 12, .inl (zF Xs))), (a 4, .inr (6, [.ref (a 5)])), (a 5, .inl (cA, 12, .inl (zF Ys))), (a 6, .inr (6, [.ref (a 7)])), (a 7, .inl (cA, 12, .inl (zF Wt))), (a 8, .inr (6, [.ref (a 9)])), (a 9, .inl (cA, 12, .inl (zF Cp)))] s.heap.size) [(a 11, .inr (4, [.ref (a 1), .ref (a 12), .ref (a 14), .ref (a 16)])), (a 12, .inr (6, [.ref (a 13)])), (a 13, .inl (cA, 12, .inl (zF dx))), (a 14, .inr (6, [.ref (a 15)])), (a 15, .inl (cA, 12, .inl (zF dy))), (a 16, .inr (6, [.ref (a 17)])), (a 17, .inl (cA, 12, .inl (zF dh))), (a 1, .inr (5, [.ref (a 2), .ref (a 4), .ref (a 6), .ref (a 8), .int (iI N)])), (a 2, .inr (6, [.ref (a 3)])), (a 3, .inl (cA, 12, .inl (zF Xs))), (a 4, .inr (6, [.ref (a 5)])), (a 5, .inl (cA, 12, .inl (zF Ys))), (a 6, .inr (6, [.ref (a 7)])), (a 7, .inl (cA, 12, .inl (zF Wt))), (a 8, .inr (6, [.ref (a 9)])), (a 9, .inl (cA, 12, .inl (zF Cp)))] := hD0.self
  have hS : va_S (va_A [(a 11, .inr (4, [.ref (a 1), .ref (a 12), .ref (a 14), .ref (a 16)])), (a 12, .inr (6, [.ref (a 13)])), (a 13, .inl (cA, 12, .inl (zF dx))), (a 14, .inr (6, [.ref (a 15)])), (a 15, .inl (cA, 12, .inl (zF dy))), (a 16, .inr (6, [.ref (a 17)])), (a 17, .inl (cA, 12, .inl (zF dh))), (a 1, .inr (5, [.ref (a 2), .ref (a 4), .ref (a 6), .ref (a 8), .int (iI N)])), (a 2, .inr (6, [.ref (a 3)])), (a 3, .inl (cA, 12, .inl (zF Xs))), (a 4, .inr (6, [.ref (a 5)])), (a 5, .inl (cA, 12, .inl (zF Ys))), (a 6, .inr (6, [.ref (a 7)])), (a 7, .inl (cA, 12, .inl (zF Wt))), (a 8, .inr (6, [.ref (a 9)])), (a 9, .inl (cA, 12, .inl (zF Cp)))] s.heap.size) s.heap s.heap [] := va_S.rf
  have hA : ∀ q9 : Nat, s.heap.size ≤ q9 → (va_A [(a 11, .inr (4, [.ref (a 1), .ref (a 12), .ref (a 14), .ref (a 16)])), (a 12, .inr (6, [.ref (a 13)])), (a 13, .inl (cA, 12, .inl (zF dx))), (a 14, .inr (6, [.ref (a 15)])), (a 15, .inl (cA, 12, .inl (zF dy))), (a 16, .inr (6, [.ref (a 17)])), (a 17, .inl (cA, 12, .inl (zF dh))), (a 1, .inr (5, [.ref (a 2), .ref (a 4), .ref (a 6), .ref (a 8), .int (iI N)])), (a 2, .inr (6, [.ref (a 3)])), (a 3, .inl (cA, 12, .inl (zF Xs))), (a 4, .inr (6, [.ref (a 5)])), (a 5, .inl (cA, 12, .inl (zF Ys))), (a 6, .inr (6, [.ref (a 7)])), (a 7, .inl (cA, 12, .inl (zF Wt))), (a 8, .inr (6, [.ref (a 9)])), (a 9, .inl (cA, 12, .inl (zF Cp)))] s.heap.size) q9 := fun q9 h => Or.inr h
  have hl := lv_entry ([.ref (a 11), .int (iI k)]) (n := 3) (Nat.le_of_ble_eq_true rfl)
  rw [lg_entry_eq]
  generalize (lg_sl ([.ref (a 11), .int (iI k)]) ++ List.replicate (3 - (lg_sl ([.ref (a 11), .int (iI k)])).length) Slot.unset).toArray = ls at hl ⊢
  have hl : lv_has ls 3 [(0, .ref (a 11)), (1, .int (iI k))] := hl
  refine lv_iconst (v := iI 0) hx hb dX3_lookFrom_0 rfl ?_
  refine lv_istore_n (lv' := [(2, .int (iI 0)), (0, .ref (a 11)), (1, .int (iI k))]) hx hb dX3_lookFrom_1 rfl hl (by decide) rfl (fun ls hl => ?_)
  have L2 : ∀ (n : Nat) (i : Int) (d1 : Int → Int) (d2 : Int → Int) (d3 : Int → Int), (N - i < (n : Int)) → (0 ≤ i ∧ i ≤ N) → (∀ j : Int, 0 ≤ j → j < i → d1 j = Xs j - Xs k ∧ d2 j = Ys j - Ys k ∧ d3 j = zHt Xs Ys Wt j - zHt Xs Ys Wt k) → ∀ (H : Heap) (locs : List Loc) (ls : Array Slot), va_P D vwCl [(a 11, .inr (4, [.ref (a 1), .ref (a 12), .ref (a 14), .ref (a 16)])), (a 12, .inr (6, [.ref (a 13)])), (a 13, .inl (cA, 12, .inl (zF d1))), (a 14, .inr (6, [.ref (a 15)])), (a 15, .inl (cA, 12, .inl (zF d2))), (a 16, .inr (6, [.ref (a 17)])), (a 17, .inl (cA, 12, .inl (zF d3))), (a 1, .inr (5, [.ref (a 2), .ref (a 4), .ref (a 6), .ref (a 8), .int (iI N)])), (a 2, .inr (6, [.ref (a 3)])), (a 3, .inl (cA, 12, .inl (zF Xs))), (a 4, .inr (6, [.ref (a 5)])), (a 5, .inl (cA, 12, .inl (zF Ys))), (a 6, .inr (6, [.ref (a 7)])), (a 7, .inl (cA, 12, .inl (zF Wt))), (a 8, .inr (6, [.ref (a 9)])), (a 9, .inl (cA, 12, .inl (zF Cp)))] H → va_D (va_A [(a 11, .inr (4, [.ref (a 1), .ref (a 12), .ref (a 14), .ref (a 16)])), (a 12, .inr (6, [.ref (a 13)])), (a 13, .inl (cA, 12, .inl (zF dx))), (a 14, .inr (6, [.ref (a 15)])), (a 15, .inl (cA, 12, .inl (zF dy))), (a 16, .inr (6, [.ref (a 17)])), (a 17, .inl (cA, 12, .inl (zF dh))), (a 1, .inr (5, [.ref (a 2), .ref (a 4), .ref (a 6), .ref (a 8), .int (iI N)])), (a 2, .inr (6, [.ref (a 3)])), (a 3, .inl (cA, 12, .inl (zF Xs))), (a 4, .inr (6, [.ref (a 5)])), (a 5, .inl (cA, 12, .inl (zF Ys))), (a 6, .inr (6, [.ref (a 7)])), (a 7, .inl (cA, 12, .inl (zF Wt))), (a 8, .inr (6, [.ref (a 9)])), (a 9, .inl (cA, 12, .inl (zF Cp)))] s.heap.size) [(a 11, .inr (4, [.ref (a 1), .ref (a 12), .ref (a 14), .ref (a 16)])), (a 12, .inr (6, [.ref (a 13)])), (a 13, .inl (cA, 12, .inl (zF d1))), (a 14, .inr (6, [.ref (a 15)])), (a 15, .inl (cA, 12, .inl (zF d2))), (a 16, .inr (6, [.ref (a 17)])), (a 17, .inl (cA, 12, .inl (zF d3))), (a 1, .inr (5, [.ref (a 2), .ref (a 4), .ref (a 6), .ref (a 8), .int (iI N)])), (a 2, .inr (6, [.ref (a 3)])), (a 3, .inl (cA, 12, .inl (zF Xs))), (a 4, .inr (6, [.ref (a 5)])), (a 5, .inl (cA, 12, .inl (zF Ys))), (a 6, .inr (6, [.ref (a 7)])), (a 7, .inl (cA, 12, .inl (zF Wt))), (a 8, .inr (6, [.ref (a 9)])), (a 9, .inl (cA, 12, .inl (zF Cp)))] → va_S (va_A [(a 11, .inr (4, [.ref (a 1), .ref (a 12), .ref (a 14), .ref (a 16)])), (a 12, .inr (6, [.ref (a 13)])), (a 13, .inl (cA, 12, .inl (zF dx))), (a 14, .inr (6, [.ref (a 15)])), (a 15, .inl (cA, 12, .inl (zF dy))), (a 16, .inr (6, [.ref (a 17)])), (a 17, .inl (cA, 12, .inl (zF dh))), (a 1, .inr (5, [.ref (a 2), .ref (a 4), .ref (a 6), .ref (a 8), .int (iI N)])), (a 2, .inr (6, [.ref (a 3)])), (a 3, .inl (cA, 12, .inl (zF Xs))), (a 4, .inr (6, [.ref (a 5)])), (a 5, .inl (cA, 12, .inl (zF Ys))), (a 6, .inr (6, [.ref (a 7)])), (a 7, .inl (cA, 12, .inl (zF Wt))), (a 8, .inr (6, [.ref (a 9)])), (a 9, .inl (cA, 12, .inl (zF Cp)))] s.heap.size) s.heap H locs → lv_has ls 3 [(0, .ref (a 11)), (1, .int (iI k)), (2, .int (iI i))] → W p l e (headSpec wsX3_lookFrom ({ frames := 3, cells := 0, slots := 0, locals := 67 })).room s m ([.ref (a 11), .int (iI k)] : List Value).toArray below meth c H locs 0 0 (MQ below (zWv (fun (u : (Int → Int) × (Int → Int) × (Int → Int)) => ∀ i : Int, 0 ≤ i → i < N → u.1 i = Xs i - Xs k ∧ u.2.1 i = Ys i - Ys k ∧ u.2.2 i = zHt Xs Ys Wt i - zHt Xs Ys Wt k) D (fun (u : (Int → Int) × (Int → Int) × (Int → Int)) => [(a 11, .inr (4, [.ref (a 1), .ref (a 12), .ref (a 14), .ref (a 16)])), (a 12, .inr (6, [.ref (a 13)])), (a 13, .inl (cA, 12, .inl (zF u.1))), (a 14, .inr (6, [.ref (a 15)])), (a 15, .inl (cA, 12, .inl (zF u.2.1))), (a 16, .inr (6, [.ref (a 17)])), (a 17, .inl (cA, 12, .inl (zF u.2.2))), (a 1, .inr (5, [.ref (a 2), .ref (a 4), .ref (a 6), .ref (a 8), .int (iI N)])), (a 2, .inr (6, [.ref (a 3)])), (a 3, .inl (cA, 12, .inl (zF Xs))), (a 4, .inr (6, [.ref (a 5)])), (a 5, .inl (cA, 12, .inl (zF Ys))), (a 6, .inr (6, [.ref (a 7)])), (a 7, .inl (cA, 12, .inl (zF Wt))), (a 8, .inr (6, [.ref (a 9)])), (a 9, .inl (cA, 12, .inl (zF Cp)))]) [(a 11, .inr (4, [.ref (a 1), .ref (a 12), .ref (a 14), .ref (a 16)])), (a 12, .inr (6, [.ref (a 13)])), (a 13, .inl (cA, 12, .inl (zF dx))), (a 14, .inr (6, [.ref (a 15)])), (a 15, .inl (cA, 12, .inl (zF dy))), (a 16, .inr (6, [.ref (a 17)])), (a 17, .inl (cA, 12, .inl (zF dh))), (a 1, .inr (5, [.ref (a 2), .ref (a 4), .ref (a 6), .ref (a 8), .int (iI N)])), (a 2, .inr (6, [.ref (a 3)])), (a 3, .inl (cA, 12, .inl (zF Xs))), (a 4, .inr (6, [.ref (a 5)])), (a 5, .inl (cA, 12, .inl (zF Ys))), (a 6, .inr (6, [.ref (a 7)])), (a 7, .inl (cA, 12, .inl (zF Wt))), (a 8, .inr (6, [.ref (a 9)])), (a 9, .inl (cA, 12, .inl (zF Cp)))] s.heap.size) ([.ref (a 11), .int (iI k)] : List Value).toArray s 0 0 (va_A [(a 11, .inr (4, [.ref (a 1), .ref (a 12), .ref (a 14), .ref (a 16)])), (a 12, .inr (6, [.ref (a 13)])), (a 13, .inl (cA, 12, .inl (zF dx))), (a 14, .inr (6, [.ref (a 15)])), (a 15, .inl (cA, 12, .inl (zF dy))), (a 16, .inr (6, [.ref (a 17)])), (a 17, .inl (cA, 12, .inl (zF dh))), (a 1, .inr (5, [.ref (a 2), .ref (a 4), .ref (a 6), .ref (a 8), .int (iI N)])), (a 2, .inr (6, [.ref (a 3)])), (a 3, .inl (cA, 12, .inl (zF Xs))), (a 4, .inr (6, [.ref (a 5)])), (a 5, .inl (cA, 12, .inl (zF Ys))), (a 6, .inr (6, [.ref (a 7)])), (a 7, .inl (cA, 12, .inl (zF Wt))), (a 8, .inr (6, [.ref (a 9)])), (a 9, .inl (cA, 12, .inl (zF Cp)))] s.heap.size)) (F0 m 2 ls []) := by
    intro n
    induction n with
    | zero =>
      intro i d1 d2 d3 hn9 h1 h2 H locs ls hP hD hS hl
      exact absurd hn9 (by omega)
    | succ n ih2 =>
      intro i d1 d2 d3 hn9 h1 h2 H locs ls hP hD hS hl
      refine lv_iload_n hx hb dX3_lookFrom_2 rfl (lv_at hl 2 rfl) ?_
      refine lv_aload_n hx hb dX3_lookFrom_3 rfl (lv_at hl 0 rfl) ?_
      refine va_get (ci := 4) (v := .ref (a 1)) (C := RX3) (T := TX3) (N := 4) hx hb hts iz_X3_lookFrom_X3 hown hK hP 0 rfl rfl 0 (by decide) (hts (.fieldLink RX3 22 "PowerPlot$Hull" "places" "LPowerPlot$Places;") (by decide +kernel)) (fun _ h9 => h9) rfl dX3_lookFrom_4 ?_
      refine va_get (ci := 5) (v := .int (iI N)) (C := RX4) (T := TX4) (N := 5) hx hb hts iz_X3_lookFrom_X4 hown hK hP 7 rfl rfl 4 (by decide) (hts (.fieldLink RX3 30 "PowerPlot$Places" "count" "I") (by decide +kernel)) (fun _ h9 => h9) rfl dX3_lookFrom_7 ?_
      refine zi_icmp_ge (tgt := 106) hx hb dX3_lookFrom_10 (by decide) (by omega) (by omega) (fun c10 => ?_) (fun c10 => ?_)
      · skip
        exact W.vret hx hb hr (fun t ht hW => ⟨⟨(d1, d2, d3), rfl, (fun j p q => h2 j p (by omega)), ⟨by rw [ht]; exact hP, hD⟩⟩, hS.F ht⟩) hS.2.2 dX3_lookFrom_106
      · skip
        refine lv_aload_n hx hb dX3_lookFrom_13 rfl (lv_at hl 0 rfl) ?_
        refine va_get (ci := 4) (v := .ref (a 12)) (C := RX3) (T := TX3) (N := 4) hx hb hts iz_X3_lookFrom_X3 hown hK hP 0 rfl rfl 1 (by decide) (hts (.fieldLink RX3 10 "PowerPlot$Hull" "dxs" "LPowerPlot$Row;") (by decide +kernel)) (fun _ h9 => h9) rfl dX3_lookFrom_14 ?_
        refine lv_iload_n hx hb dX3_lookFrom_17 rfl (lv_at hl 2 rfl) ?_
        refine lv_aload_n hx hb dX3_lookFrom_18 rfl (lv_at hl 0 rfl) ?_
        refine va_get (ci := 4) (v := .ref (a 1)) (C := RX3) (T := TX3) (N := 4) hx hb hts iz_X3_lookFrom_X3 hown hK hP 0 rfl rfl 0 (by decide) (hts (.fieldLink RX3 22 "PowerPlot$Hull" "places" "LPowerPlot$Places;") (by decide +kernel)) (fun _ h9 => h9) rfl dX3_lookFrom_19 ?_
        refine va_get (ci := 5) (v := .ref (a 2)) (C := RX4) (T := TX4) (N := 5) hx hb hts iz_X3_lookFrom_X4 hown hK hP 7 rfl rfl 0 (by decide) (hts (.fieldLink RX3 44 "PowerPlot$Places" "xs" "LPowerPlot$Row;") (by decide +kernel)) (fun _ h9 => h9) rfl dX3_lookFrom_22 ?_
        refine lv_iload_n hx hb dX3_lookFrom_25 rfl (lv_at hl 2 rfl) ?_
        refine zc_ri (As := [.int (iI i)]) (rest := [.int (iI i), .ref (a 12)]) ⟨hx, hb, hml, hown, hts⟩ (c_X5_at l D _ tys cA hty (a 2) (a 3) Xs i (by omega)) (cwV 1 hts gX3_lookFrom_X5_at rfl rfl rfl (by decide +kernel) ⟨(Nat.le_of_ble_eq_true rfl), (Nat.le_of_ble_eq_true rfl)⟩) hP hK hD hS hA [8, 9] rfl rfl rfl rfl rfl hl.1 rfl (Nat.le_of_ble_eq_true rfl) dX3_lookFrom_26 ⟨Nat.zero_le _, Nat.zero_le _⟩ (fun H locs hP hS => ?_)
        refine lv_aload_n hx hb dX3_lookFrom_29 rfl (lv_at hl 0 rfl) ?_
        refine va_get (ci := 4) (v := .ref (a 1)) (C := RX3) (T := TX3) (N := 4) hx hb hts iz_X3_lookFrom_X3 hown hK hP 0 rfl rfl 0 (by decide) (hts (.fieldLink RX3 22 "PowerPlot$Hull" "places" "LPowerPlot$Places;") (by decide +kernel)) (fun _ h9 => h9) rfl dX3_lookFrom_30 ?_
        refine va_get (ci := 5) (v := .ref (a 2)) (C := RX4) (T := TX4) (N := 5) hx hb hts iz_X3_lookFrom_X4 hown hK hP 7 rfl rfl 0 (by decide) (hts (.fieldLink RX3 44 "PowerPlot$Places" "xs" "LPowerPlot$Row;") (by decide +kernel)) (fun _ h9 => h9) rfl dX3_lookFrom_33 ?_
        refine lv_iload_n hx hb dX3_lookFrom_36 rfl (lv_at hl 1 rfl) ?_
        refine zc_ri (As := [.int (iI k)]) (rest := [.int (iI (Xs i)), .int (iI i), .ref (a 12)]) ⟨hx, hb, hml, hown, hts⟩ (c_X5_at l D _ tys cA hty (a 2) (a 3) Xs k (by omega)) (cwV 1 hts gX3_lookFrom_X5_at rfl rfl rfl (by decide +kernel) ⟨(Nat.le_of_ble_eq_true rfl), (Nat.le_of_ble_eq_true rfl)⟩) hP hK hD hS hA [8, 9] rfl rfl rfl rfl rfl hl.1 rfl (Nat.le_of_ble_eq_true rfl) dX3_lookFrom_37 ⟨Nat.zero_le _, Nat.zero_le _⟩ (fun H locs hP hS => ?_)
        refine zi_isub hx hb dX3_lookFrom_40 ?_
        refine zc_wv (wr := [(a 11, .inr (4, [.ref (a 1), .ref (a 12), .ref (a 14), .ref (a 16)])), (a 14, .inr (6, [.ref (a 15)])), (a 15, .inl (cA, 12, .inl (zF d2))), (a 16, .inr (6, [.ref (a 17)])), (a 17, .inl (cA, 12, .inl (zF d3))), (a 1, .inr (5, [.ref (a 2), .ref (a 4), .ref (a 6), .ref (a 8), .int (iI N)])), (a 2, .inr (6, [.ref (a 3)])), (a 3, .inl (cA, 12, .inl (zF Xs))), (a 4, .inr (6, [.ref (a 5)])), (a 5, .inl (cA, 12, .inl (zF Ys))), (a 6, .inr (6, [.ref (a 7)])), (a 7, .inl (cA, 12, .inl (zF Wt))), (a 8, .inr (6, [.ref (a 9)])), (a 9, .inl (cA, 12, .inl (zF Cp)))]) (As := [.int (iI i), .int (iI ((Xs i) - (Xs k)))]) (rest := []) ⟨hx, hb, hml, hown, hts⟩ (c_X5_put l D _ tys cA hty (a 12) (a 13) d1 i ((Xs i) - (Xs k)) (by omega)) (cwV 2 hts gX3_lookFrom_X5_put rfl rfl rfl (by decide +kernel) ⟨(Nat.le_of_ble_eq_true rfl), (Nat.le_of_ble_eq_true rfl)⟩) hP hK hD hS hA [1, 2] rfl rfl rfl rfl [0, 3, 4, 5, 6, 7, 8, 9, 10, 11, 12, 13, 14, 15] [0, 14, 15, 1, 2, 3, 4, 5, 6, 7, 8, 9, 10, 11, 12, 13] rfl rfl (by decide) (fun _ => rfl) rfl rfl hl.1 rfl (Nat.le_of_ble_eq_true rfl) dX3_lookFrom_41 ⟨Nat.zero_le _, Nat.zero_le _⟩ (ws1 := fun (_ : Unit) => [(a 11, .inr (4, [.ref (a 1), .ref (a 12), .ref (a 14), .ref (a 16)])), (a 12, .inr (6, [.ref (a 13)])), (a 13, .inl (cA, 12, .inl (zF (zU d1 i ((Xs i) - (Xs k)))))), (a 14, .inr (6, [.ref (a 15)])), (a 15, .inl (cA, 12, .inl (zF d2))), (a 16, .inr (6, [.ref (a 17)])), (a 17, .inl (cA, 12, .inl (zF d3))), (a 1, .inr (5, [.ref (a 2), .ref (a 4), .ref (a 6), .ref (a 8), .int (iI N)])), (a 2, .inr (6, [.ref (a 3)])), (a 3, .inl (cA, 12, .inl (zF Xs))), (a 4, .inr (6, [.ref (a 5)])), (a 5, .inl (cA, 12, .inl (zF Ys))), (a 6, .inr (6, [.ref (a 7)])), (a 7, .inl (cA, 12, .inl (zF Wt))), (a 8, .inr (6, [.ref (a 9)])), (a 9, .inl (cA, 12, .inl (zF Cp)))]) (fun u41 H locs w41 hP hD hS => ?_)
        have hP : va_P D vwCl [(a 11, .inr (4, [.ref (a 1), .ref (a 12), .ref (a 14), .ref (a 16)])), (a 12, .inr (6, [.ref (a 13)])), (a 13, .inl (cA, 12, .inl (zF (zU d1 i ((Xs i) - (Xs k)))))), (a 14, .inr (6, [.ref (a 15)])), (a 15, .inl (cA, 12, .inl (zF d2))), (a 16, .inr (6, [.ref (a 17)])), (a 17, .inl (cA, 12, .inl (zF d3))), (a 1, .inr (5, [.ref (a 2), .ref (a 4), .ref (a 6), .ref (a 8), .int (iI N)])), (a 2, .inr (6, [.ref (a 3)])), (a 3, .inl (cA, 12, .inl (zF Xs))), (a 4, .inr (6, [.ref (a 5)])), (a 5, .inl (cA, 12, .inl (zF Ys))), (a 6, .inr (6, [.ref (a 7)])), (a 7, .inl (cA, 12, .inl (zF Wt))), (a 8, .inr (6, [.ref (a 9)])), (a 9, .inl (cA, 12, .inl (zF Cp)))] H := hP
        have hD : va_D _ [(a 11, .inr (4, [.ref (a 1), .ref (a 12), .ref (a 14), .ref (a 16)])), (a 12, .inr (6, [.ref (a 13)])), (a 13, .inl (cA, 12, .inl (zF (zU d1 i ((Xs i) - (Xs k)))))), (a 14, .inr (6, [.ref (a 15)])), (a 15, .inl (cA, 12, .inl (zF d2))), (a 16, .inr (6, [.ref (a 17)])), (a 17, .inl (cA, 12, .inl (zF d3))), (a 1, .inr (5, [.ref (a 2), .ref (a 4), .ref (a 6), .ref (a 8), .int (iI N)])), (a 2, .inr (6, [.ref (a 3)])), (a 3, .inl (cA, 12, .inl (zF Xs))), (a 4, .inr (6, [.ref (a 5)])), (a 5, .inl (cA, 12, .inl (zF Ys))), (a 6, .inr (6, [.ref (a 7)])), (a 7, .inl (cA, 12, .inl (zF Wt))), (a 8, .inr (6, [.ref (a 9)])), (a 9, .inl (cA, 12, .inl (zF Cp)))] := hD
        refine lv_aload_n hx hb dX3_lookFrom_44 rfl (lv_at hl 0 rfl) ?_
        refine va_get (ci := 4) (v := .ref (a 14)) (C := RX3) (T := TX3) (N := 4) hx hb hts iz_X3_lookFrom_X3 hown hK hP 0 rfl rfl 2 (by decide) (hts (.fieldLink RX3 16 "PowerPlot$Hull" "dys" "LPowerPlot$Row;") (by decide +kernel)) (fun _ h9 => h9) rfl dX3_lookFrom_45 ?_
        refine lv_iload_n hx hb dX3_lookFrom_48 rfl (lv_at hl 2 rfl) ?_
        refine lv_aload_n hx hb dX3_lookFrom_49 rfl (lv_at hl 0 rfl) ?_
        refine va_get (ci := 4) (v := .ref (a 1)) (C := RX3) (T := TX3) (N := 4) hx hb hts iz_X3_lookFrom_X3 hown hK hP 0 rfl rfl 0 (by decide) (hts (.fieldLink RX3 22 "PowerPlot$Hull" "places" "LPowerPlot$Places;") (by decide +kernel)) (fun _ h9 => h9) rfl dX3_lookFrom_50 ?_
        refine va_get (ci := 5) (v := .ref (a 4)) (C := RX4) (T := TX4) (N := 5) hx hb hts iz_X3_lookFrom_X4 hown hK hP 7 rfl rfl 1 (by decide) (hts (.fieldLink RX3 55 "PowerPlot$Places" "ys" "LPowerPlot$Row;") (by decide +kernel)) (fun _ h9 => h9) rfl dX3_lookFrom_53 ?_
        refine lv_iload_n hx hb dX3_lookFrom_56 rfl (lv_at hl 2 rfl) ?_
        refine zc_ri (As := [.int (iI i)]) (rest := [.int (iI i), .ref (a 14)]) ⟨hx, hb, hml, hown, hts⟩ (c_X5_at l D _ tys cA hty (a 4) (a 5) Ys i (by omega)) (cwV 1 hts gX3_lookFrom_X5_at rfl rfl rfl (by decide +kernel) ⟨(Nat.le_of_ble_eq_true rfl), (Nat.le_of_ble_eq_true rfl)⟩) hP hK hD hS hA [10, 11] rfl rfl rfl rfl rfl hl.1 rfl (Nat.le_of_ble_eq_true rfl) dX3_lookFrom_57 ⟨Nat.zero_le _, Nat.zero_le _⟩ (fun H locs hP hS => ?_)
        refine lv_aload_n hx hb dX3_lookFrom_60 rfl (lv_at hl 0 rfl) ?_
        refine va_get (ci := 4) (v := .ref (a 1)) (C := RX3) (T := TX3) (N := 4) hx hb hts iz_X3_lookFrom_X3 hown hK hP 0 rfl rfl 0 (by decide) (hts (.fieldLink RX3 22 "PowerPlot$Hull" "places" "LPowerPlot$Places;") (by decide +kernel)) (fun _ h9 => h9) rfl dX3_lookFrom_61 ?_
        refine va_get (ci := 5) (v := .ref (a 4)) (C := RX4) (T := TX4) (N := 5) hx hb hts iz_X3_lookFrom_X4 hown hK hP 7 rfl rfl 1 (by decide) (hts (.fieldLink RX3 55 "PowerPlot$Places" "ys" "LPowerPlot$Row;") (by decide +kernel)) (fun _ h9 => h9) rfl dX3_lookFrom_64 ?_
        refine lv_iload_n hx hb dX3_lookFrom_67 rfl (lv_at hl 1 rfl) ?_
        refine zc_ri (As := [.int (iI k)]) (rest := [.int (iI (Ys i)), .int (iI i), .ref (a 14)]) ⟨hx, hb, hml, hown, hts⟩ (c_X5_at l D _ tys cA hty (a 4) (a 5) Ys k (by omega)) (cwV 1 hts gX3_lookFrom_X5_at rfl rfl rfl (by decide +kernel) ⟨(Nat.le_of_ble_eq_true rfl), (Nat.le_of_ble_eq_true rfl)⟩) hP hK hD hS hA [10, 11] rfl rfl rfl rfl rfl hl.1 rfl (Nat.le_of_ble_eq_true rfl) dX3_lookFrom_68 ⟨Nat.zero_le _, Nat.zero_le _⟩ (fun H locs hP hS => ?_)
        refine zi_isub hx hb dX3_lookFrom_71 ?_
        refine zc_wv (wr := [(a 11, .inr (4, [.ref (a 1), .ref (a 12), .ref (a 14), .ref (a 16)])), (a 12, .inr (6, [.ref (a 13)])), (a 13, .inl (cA, 12, .inl (zF (zU d1 i ((Xs i) - (Xs k)))))), (a 16, .inr (6, [.ref (a 17)])), (a 17, .inl (cA, 12, .inl (zF d3))), (a 1, .inr (5, [.ref (a 2), .ref (a 4), .ref (a 6), .ref (a 8), .int (iI N)])), (a 2, .inr (6, [.ref (a 3)])), (a 3, .inl (cA, 12, .inl (zF Xs))), (a 4, .inr (6, [.ref (a 5)])), (a 5, .inl (cA, 12, .inl (zF Ys))), (a 6, .inr (6, [.ref (a 7)])), (a 7, .inl (cA, 12, .inl (zF Wt))), (a 8, .inr (6, [.ref (a 9)])), (a 9, .inl (cA, 12, .inl (zF Cp)))]) (As := [.int (iI i), .int (iI ((Ys i) - (Ys k)))]) (rest := []) ⟨hx, hb, hml, hown, hts⟩ (c_X5_put l D _ tys cA hty (a 14) (a 15) d2 i ((Ys i) - (Ys k)) (by omega)) (cwV 2 hts gX3_lookFrom_X5_put rfl rfl rfl (by decide +kernel) ⟨(Nat.le_of_ble_eq_true rfl), (Nat.le_of_ble_eq_true rfl)⟩) hP hK hD hS hA [3, 4] rfl rfl rfl rfl [0, 1, 2, 5, 6, 7, 8, 9, 10, 11, 12, 13, 14, 15] [0, 1, 2, 14, 15, 3, 4, 5, 6, 7, 8, 9, 10, 11, 12, 13] rfl rfl (by decide) (fun _ => rfl) rfl rfl hl.1 rfl (Nat.le_of_ble_eq_true rfl) dX3_lookFrom_72 ⟨Nat.zero_le _, Nat.zero_le _⟩ (ws1 := fun (_ : Unit) => [(a 11, .inr (4, [.ref (a 1), .ref (a 12), .ref (a 14), .ref (a 16)])), (a 12, .inr (6, [.ref (a 13)])), (a 13, .inl (cA, 12, .inl (zF (zU d1 i ((Xs i) - (Xs k)))))), (a 14, .inr (6, [.ref (a 15)])), (a 15, .inl (cA, 12, .inl (zF (zU d2 i ((Ys i) - (Ys k)))))), (a 16, .inr (6, [.ref (a 17)])), (a 17, .inl (cA, 12, .inl (zF d3))), (a 1, .inr (5, [.ref (a 2), .ref (a 4), .ref (a 6), .ref (a 8), .int (iI N)])), (a 2, .inr (6, [.ref (a 3)])), (a 3, .inl (cA, 12, .inl (zF Xs))), (a 4, .inr (6, [.ref (a 5)])), (a 5, .inl (cA, 12, .inl (zF Ys))), (a 6, .inr (6, [.ref (a 7)])), (a 7, .inl (cA, 12, .inl (zF Wt))), (a 8, .inr (6, [.ref (a 9)])), (a 9, .inl (cA, 12, .inl (zF Cp)))]) (fun u72 H locs w72 hP hD hS => ?_)
        have hP : va_P D vwCl [(a 11, .inr (4, [.ref (a 1), .ref (a 12), .ref (a 14), .ref (a 16)])), (a 12, .inr (6, [.ref (a 13)])), (a 13, .inl (cA, 12, .inl (zF (zU d1 i ((Xs i) - (Xs k)))))), (a 14, .inr (6, [.ref (a 15)])), (a 15, .inl (cA, 12, .inl (zF (zU d2 i ((Ys i) - (Ys k)))))), (a 16, .inr (6, [.ref (a 17)])), (a 17, .inl (cA, 12, .inl (zF d3))), (a 1, .inr (5, [.ref (a 2), .ref (a 4), .ref (a 6), .ref (a 8), .int (iI N)])), (a 2, .inr (6, [.ref (a 3)])), (a 3, .inl (cA, 12, .inl (zF Xs))), (a 4, .inr (6, [.ref (a 5)])), (a 5, .inl (cA, 12, .inl (zF Ys))), (a 6, .inr (6, [.ref (a 7)])), (a 7, .inl (cA, 12, .inl (zF Wt))), (a 8, .inr (6, [.ref (a 9)])), (a 9, .inl (cA, 12, .inl (zF Cp)))] H := hP
        have hD : va_D _ [(a 11, .inr (4, [.ref (a 1), .ref (a 12), .ref (a 14), .ref (a 16)])), (a 12, .inr (6, [.ref (a 13)])), (a 13, .inl (cA, 12, .inl (zF (zU d1 i ((Xs i) - (Xs k)))))), (a 14, .inr (6, [.ref (a 15)])), (a 15, .inl (cA, 12, .inl (zF (zU d2 i ((Ys i) - (Ys k)))))), (a 16, .inr (6, [.ref (a 17)])), (a 17, .inl (cA, 12, .inl (zF d3))), (a 1, .inr (5, [.ref (a 2), .ref (a 4), .ref (a 6), .ref (a 8), .int (iI N)])), (a 2, .inr (6, [.ref (a 3)])), (a 3, .inl (cA, 12, .inl (zF Xs))), (a 4, .inr (6, [.ref (a 5)])), (a 5, .inl (cA, 12, .inl (zF Ys))), (a 6, .inr (6, [.ref (a 7)])), (a 7, .inl (cA, 12, .inl (zF Wt))), (a 8, .inr (6, [.ref (a 9)])), (a 9, .inl (cA, 12, .inl (zF Cp)))] := hD
        refine lv_aload_n hx hb dX3_lookFrom_75 rfl (lv_at hl 0 rfl) ?_
        refine va_get (ci := 4) (v := .ref (a 16)) (C := RX3) (T := TX3) (N := 4) hx hb hts iz_X3_lookFrom_X3 hown hK hP 0 rfl rfl 3 (by decide) (hts (.fieldLink RX3 19 "PowerPlot$Hull" "heights" "LPowerPlot$Row;") (by decide +kernel)) (fun _ h9 => h9) rfl dX3_lookFrom_76 ?_
        refine lv_iload_n hx hb dX3_lookFrom_79 rfl (lv_at hl 2 rfl) ?_
        refine lv_aload_n hx hb dX3_lookFrom_80 rfl (lv_at hl 0 rfl) ?_
        refine va_get (ci := 4) (v := .ref (a 1)) (C := RX3) (T := TX3) (N := 4) hx hb hts iz_X3_lookFrom_X3 hown hK hP 0 rfl rfl 0 (by decide) (hts (.fieldLink RX3 22 "PowerPlot$Hull" "places" "LPowerPlot$Places;") (by decide +kernel)) (fun _ h9 => h9) rfl dX3_lookFrom_81 ?_
        refine lv_iload_n hx hb dX3_lookFrom_84 rfl (lv_at hl 2 rfl) ?_
        refine zc_ri (As := [.int (iI i)]) (rest := [.int (iI i), .ref (a 16)]) ⟨hx, hb, hml, hown, hts⟩ (c_X4_heightOf l D _ tys cA hty a N Xs Ys Wt Cp i (by omega)) (cwV 1 hts gX3_lookFrom_X4_heightOf rfl rfl rfl (by decide +kernel) ⟨(Nat.le_of_ble_eq_true rfl), (Nat.le_of_ble_eq_true rfl)⟩) hP hK hD hS hA [7, 8, 9, 10, 11, 12, 13, 14, 15] rfl rfl rfl rfl rfl hl.1 rfl (Nat.le_of_ble_eq_true rfl) dX3_lookFrom_85 ⟨Nat.zero_le _, Nat.zero_le _⟩ (fun H locs hP hS => ?_)
        refine lv_aload_n hx hb dX3_lookFrom_88 rfl (lv_at hl 0 rfl) ?_
        refine va_get (ci := 4) (v := .ref (a 1)) (C := RX3) (T := TX3) (N := 4) hx hb hts iz_X3_lookFrom_X3 hown hK hP 0 rfl rfl 0 (by decide) (hts (.fieldLink RX3 22 "PowerPlot$Hull" "places" "LPowerPlot$Places;") (by decide +kernel)) (fun _ h9 => h9) rfl dX3_lookFrom_89 ?_
        refine lv_iload_n hx hb dX3_lookFrom_92 rfl (lv_at hl 1 rfl) ?_
        refine zc_ri (As := [.int (iI k)]) (rest := [.int (iI (zHt Xs Ys Wt i)), .int (iI i), .ref (a 16)]) ⟨hx, hb, hml, hown, hts⟩ (c_X4_heightOf l D _ tys cA hty a N Xs Ys Wt Cp k (by omega)) (cwV 1 hts gX3_lookFrom_X4_heightOf rfl rfl rfl (by decide +kernel) ⟨(Nat.le_of_ble_eq_true rfl), (Nat.le_of_ble_eq_true rfl)⟩) hP hK hD hS hA [7, 8, 9, 10, 11, 12, 13, 14, 15] rfl rfl rfl rfl rfl hl.1 rfl (Nat.le_of_ble_eq_true rfl) dX3_lookFrom_93 ⟨Nat.zero_le _, Nat.zero_le _⟩ (fun H locs hP hS => ?_)
        refine zi_isub hx hb dX3_lookFrom_96 ?_
        refine zc_wv (wr := [(a 11, .inr (4, [.ref (a 1), .ref (a 12), .ref (a 14), .ref (a 16)])), (a 12, .inr (6, [.ref (a 13)])), (a 13, .inl (cA, 12, .inl (zF (zU d1 i ((Xs i) - (Xs k)))))), (a 14, .inr (6, [.ref (a 15)])), (a 15, .inl (cA, 12, .inl (zF (zU d2 i ((Ys i) - (Ys k)))))), (a 1, .inr (5, [.ref (a 2), .ref (a 4), .ref (a 6), .ref (a 8), .int (iI N)])), (a 2, .inr (6, [.ref (a 3)])), (a 3, .inl (cA, 12, .inl (zF Xs))), (a 4, .inr (6, [.ref (a 5)])), (a 5, .inl (cA, 12, .inl (zF Ys))), (a 6, .inr (6, [.ref (a 7)])), (a 7, .inl (cA, 12, .inl (zF Wt))), (a 8, .inr (6, [.ref (a 9)])), (a 9, .inl (cA, 12, .inl (zF Cp)))]) (As := [.int (iI i), .int (iI ((zHt Xs Ys Wt i) - (zHt Xs Ys Wt k)))]) (rest := []) ⟨hx, hb, hml, hown, hts⟩ (c_X5_put l D _ tys cA hty (a 16) (a 17) d3 i ((zHt Xs Ys Wt i) - (zHt Xs Ys Wt k)) (by omega)) (cwV 2 hts gX3_lookFrom_X5_put rfl rfl rfl (by decide +kernel) ⟨(Nat.le_of_ble_eq_true rfl), (Nat.le_of_ble_eq_true rfl)⟩) hP hK hD hS hA [5, 6] rfl rfl rfl rfl [0, 1, 2, 3, 4, 7, 8, 9, 10, 11, 12, 13, 14, 15] [0, 1, 2, 3, 4, 14, 15, 5, 6, 7, 8, 9, 10, 11, 12, 13] rfl rfl (by decide) (fun _ => rfl) rfl rfl hl.1 rfl (Nat.le_of_ble_eq_true rfl) dX3_lookFrom_97 ⟨Nat.zero_le _, Nat.zero_le _⟩ (ws1 := fun (_ : Unit) => [(a 11, .inr (4, [.ref (a 1), .ref (a 12), .ref (a 14), .ref (a 16)])), (a 12, .inr (6, [.ref (a 13)])), (a 13, .inl (cA, 12, .inl (zF (zU d1 i ((Xs i) - (Xs k)))))), (a 14, .inr (6, [.ref (a 15)])), (a 15, .inl (cA, 12, .inl (zF (zU d2 i ((Ys i) - (Ys k)))))), (a 16, .inr (6, [.ref (a 17)])), (a 17, .inl (cA, 12, .inl (zF (zU d3 i ((zHt Xs Ys Wt i) - (zHt Xs Ys Wt k)))))), (a 1, .inr (5, [.ref (a 2), .ref (a 4), .ref (a 6), .ref (a 8), .int (iI N)])), (a 2, .inr (6, [.ref (a 3)])), (a 3, .inl (cA, 12, .inl (zF Xs))), (a 4, .inr (6, [.ref (a 5)])), (a 5, .inl (cA, 12, .inl (zF Ys))), (a 6, .inr (6, [.ref (a 7)])), (a 7, .inl (cA, 12, .inl (zF Wt))), (a 8, .inr (6, [.ref (a 9)])), (a 9, .inl (cA, 12, .inl (zF Cp)))]) (fun u97 H locs w97 hP hD hS => ?_)
        have hP : va_P D vwCl [(a 11, .inr (4, [.ref (a 1), .ref (a 12), .ref (a 14), .ref (a 16)])), (a 12, .inr (6, [.ref (a 13)])), (a 13, .inl (cA, 12, .inl (zF (zU d1 i ((Xs i) - (Xs k)))))), (a 14, .inr (6, [.ref (a 15)])), (a 15, .inl (cA, 12, .inl (zF (zU d2 i ((Ys i) - (Ys k)))))), (a 16, .inr (6, [.ref (a 17)])), (a 17, .inl (cA, 12, .inl (zF (zU d3 i ((zHt Xs Ys Wt i) - (zHt Xs Ys Wt k)))))), (a 1, .inr (5, [.ref (a 2), .ref (a 4), .ref (a 6), .ref (a 8), .int (iI N)])), (a 2, .inr (6, [.ref (a 3)])), (a 3, .inl (cA, 12, .inl (zF Xs))), (a 4, .inr (6, [.ref (a 5)])), (a 5, .inl (cA, 12, .inl (zF Ys))), (a 6, .inr (6, [.ref (a 7)])), (a 7, .inl (cA, 12, .inl (zF Wt))), (a 8, .inr (6, [.ref (a 9)])), (a 9, .inl (cA, 12, .inl (zF Cp)))] H := hP
        have hD : va_D _ [(a 11, .inr (4, [.ref (a 1), .ref (a 12), .ref (a 14), .ref (a 16)])), (a 12, .inr (6, [.ref (a 13)])), (a 13, .inl (cA, 12, .inl (zF (zU d1 i ((Xs i) - (Xs k)))))), (a 14, .inr (6, [.ref (a 15)])), (a 15, .inl (cA, 12, .inl (zF (zU d2 i ((Ys i) - (Ys k)))))), (a 16, .inr (6, [.ref (a 17)])), (a 17, .inl (cA, 12, .inl (zF (zU d3 i ((zHt Xs Ys Wt i) - (zHt Xs Ys Wt k)))))), (a 1, .inr (5, [.ref (a 2), .ref (a 4), .ref (a 6), .ref (a 8), .int (iI N)])), (a 2, .inr (6, [.ref (a 3)])), (a 3, .inl (cA, 12, .inl (zF Xs))), (a 4, .inr (6, [.ref (a 5)])), (a 5, .inl (cA, 12, .inl (zF Ys))), (a 6, .inr (6, [.ref (a 7)])), (a 7, .inl (cA, 12, .inl (zF Wt))), (a 8, .inr (6, [.ref (a 9)])), (a 9, .inl (cA, 12, .inl (zF Cp)))] := hD
        refine lv_iinc (v := iI (i + 1)) (lv' := [(2, .int (iI (i + 1))), (0, .ref (a 11)), (1, .int (iI k))]) hx hb dX3_lookFrom_100 hl (k := 2) rfl (iI_add i 1) (by decide) rfl (fun ls hl => ?_)
        refine lv_goto (tgt := 2) hx hb dX3_lookFrom_103 (by decide) ?_
        exact ih2 (i + 1) (zU d1 i ((Xs i) - (Xs k))) (zU d2 i ((Ys i) - (Ys k))) (zU d3 i ((zHt Xs Ys Wt i) - (zHt Xs Ys Wt k))) (by omega) (by omega) (fun j p q => ⟨zU_st (g := fun j => Xs j - Xs k) (fun j p q => (h2 j p q).1) j p q, zU_st (g := fun j => Ys j - Ys k) (fun j p q => (h2 j p q).2.1) j p q, zU_st (g := fun j => zHt Xs Ys Wt j - zHt Xs Ys Wt k) (fun j p q => (h2 j p q).2.2) j p q⟩) _ _ _ hP hD hS (lv_sub hl [1, 2, 0] rfl)
  exact L2 (((N - 0 : Int)).toNat + 1) 0 dx dy dh (by omega) (by omega) (fun j p q => absurd q (by omega)) _ _ _ hP hD hS (lv_sub hl [1, 2, 0] rfl)
theorem iz_X3_isAbove_X3 : ∀ w ∈ u_ws RX3 TX3 4, w ∈ wsX3_isAbove := by decide +kernel
theorem iz_X3_isAbove_X4 : ∀ w ∈ u_ws RX4 TX4 5, w ∈ wsX3_isAbove := by decide +kernel
set_option maxHeartbeats 4000000 in
set_option maxRecDepth 100000 in
/-- Hull.isAbove -/
theorem c_X3_isAbove (l : Launch) (D : va_G) (sz : Nat) (tys : List (ClassId × FieldType)) (cA : ClassId) (hty : tys[0]? = some (cA, .int)) (a : Nat → Nat) (N : Int) (Xs Ys Wt Cp : Int → Int) (dx dy dh : Int → Int) (k : Int) (gB : zBd Xs Ys Wt) (gN : 0 ≤ N ∧ N ≤ 12) (gk : 0 ≤ k ∧ k < N) : Met l yX3_isAbove wsX3_isAbove ({ frames := 5, cells := 0, slots := 0, locals := 118 }) (zP D [.ref (a 11), .int (iI k)] sz [(a 11, .inr (4, [.ref (a 1), .ref (a 12), .ref (a 14), .ref (a 16)])), (a 12, .inr (6, [.ref (a 13)])), (a 13, .inl (cA, 12, .inl (zF dx))), (a 14, .inr (6, [.ref (a 15)])), (a 15, .inl (cA, 12, .inl (zF dy))), (a 16, .inr (6, [.ref (a 17)])), (a 17, .inl (cA, 12, .inl (zF dh))), (a 1, .inr (5, [.ref (a 2), .ref (a 4), .ref (a 6), .ref (a 8), .int (iI N)])), (a 2, .inr (6, [.ref (a 3)])), (a 3, .inl (cA, 12, .inl (zF Xs))), (a 4, .inr (6, [.ref (a 5)])), (a 5, .inl (cA, 12, .inl (zF Ys))), (a 6, .inr (6, [.ref (a 7)])), (a 7, .inl (cA, 12, .inl (zF Wt))), (a 8, .inr (6, [.ref (a 9)])), (a 9, .inl (cA, 12, .inl (zF Cp)))] tys) (zWi (fun (u : (Int → Int) × (Int → Int) × (Int → Int)) => bI (zAb u.1 u.2.1 u.2.2 N k)) (fun (u : (Int → Int) × (Int → Int) × (Int → Int)) => ∀ i : Int, 0 ≤ i → i < N → u.1 i = Xs i - Xs k ∧ u.2.1 i = Ys i - Ys k ∧ u.2.2 i = zHt Xs Ys Wt i - zHt Xs Ys Wt k) D (fun (u : (Int → Int) × (Int → Int) × (Int → Int)) => [(a 11, .inr (4, [.ref (a 1), .ref (a 12), .ref (a 14), .ref (a 16)])), (a 12, .inr (6, [.ref (a 13)])), (a 13, .inl (cA, 12, .inl (zF u.1))), (a 14, .inr (6, [.ref (a 15)])), (a 15, .inl (cA, 12, .inl (zF u.2.1))), (a 16, .inr (6, [.ref (a 17)])), (a 17, .inl (cA, 12, .inl (zF u.2.2))), (a 1, .inr (5, [.ref (a 2), .ref (a 4), .ref (a 6), .ref (a 8), .int (iI N)])), (a 2, .inr (6, [.ref (a 3)])), (a 3, .inl (cA, 12, .inl (zF Xs))), (a 4, .inr (6, [.ref (a 5)])), (a 5, .inl (cA, 12, .inl (zF Ys))), (a 6, .inr (6, [.ref (a 7)])), (a 7, .inl (cA, 12, .inl (zF Wt))), (a 8, .inr (6, [.ref (a 9)])), (a 9, .inl (cA, 12, .inl (zF Cp)))]) [(a 11, .inr (4, [.ref (a 1), .ref (a 12), .ref (a 14), .ref (a 16)])), (a 12, .inr (6, [.ref (a 13)])), (a 13, .inl (cA, 12, .inl (zF dx))), (a 14, .inr (6, [.ref (a 15)])), (a 15, .inl (cA, 12, .inl (zF dy))), (a 16, .inr (6, [.ref (a 17)])), (a 17, .inl (cA, 12, .inl (zF dh))), (a 1, .inr (5, [.ref (a 2), .ref (a 4), .ref (a 6), .ref (a 8), .int (iI N)])), (a 2, .inr (6, [.ref (a 3)])), (a 3, .inl (cA, 12, .inl (zF Xs))), (a 4, .inr (6, [.ref (a 5)])), (a 5, .inl (cA, 12, .inl (zF Ys))), (a 6, .inr (6, [.ref (a 7)])), (a 7, .inl (cA, 12, .inl (zF Wt))), (a 8, .inr (6, [.ref (a 9)])), (a 9, .inl (cA, 12, .inl (zF Cp)))] sz) 0 0 (va_A [(a 11, .inr (4, [.ref (a 1), .ref (a 12), .ref (a 14), .ref (a 16)])), (a 12, .inr (6, [.ref (a 13)])), (a 13, .inl (cA, 12, .inl (zF dx))), (a 14, .inr (6, [.ref (a 15)])), (a 15, .inl (cA, 12, .inl (zF dy))), (a 16, .inr (6, [.ref (a 17)])), (a 17, .inl (cA, 12, .inl (zF dh))), (a 1, .inr (5, [.ref (a 2), .ref (a 4), .ref (a 6), .ref (a 8), .int (iI N)])), (a 2, .inr (6, [.ref (a 3)])), (a 3, .inl (cA, 12, .inl (zF Xs))), (a 4, .inr (6, [.ref (a 5)])), (a 5, .inl (cA, 12, .inl (zF Ys))), (a 6, .inr (6, [.ref (a 7)])), (a 7, .inl (cA, 12, .inl (zF Wt))), (a 8, .inr (6, [.ref (a 9)])), (a 9, .inl (cA, 12, .inl (zF Cp)))] sz) := by
  refine Met.ofW (cc := cX3_isAbove) (maxL := 3) (ret := (some .boolean)) (by decide +kernel) rfl ?_
  intro p e s m args below meth c s₁ B hml hv
  obtain ⟨rfl, hsz, hP, hK, hD0⟩ := hv
  have hx := B.exec
  have hb := B.bytes
  have hr := B.returns
  have hts := atoms_spec (ws := wsX3_isAbove) B.pre
  have hown : s.vm.findClass RX3 = some m.cls := findClass_of_methodNamed B.named
  have hlocks := B.notSynchronized
  subst hsz
  have hD : va_D (va_A [(a 11, .inr (4, [.ref (a 1), .ref (a 12), .ref (a 14), .ref (a 16)])), (a 12, .inr (6, [.ref (a 13)])), (a 13, .inl (cA, 12, .inl (zF dx))), (a 14, .inr (6, [.ref (a 15)])), (a 15, .inl (cA, 12, .inl (zF dy))), (a 16, .inr (6, [.ref (a 17)])), (a 17, .inl (cA, 12, .inl (zF dh))), (a 1, .inr (5, [.ref (a 2), .ref (a 4), .ref (a 6), .ref (a 8), .int (iI N)])), (a 2, .inr (6, [.ref (a 3)])), (a 3, .inl (cA, 12, .inl (zF Xs))), (a 4, .inr (6, [.ref (a 5)])), (a 5, .inl (cA, 12, .inl (zF Ys))), (a 6, .inr (6, [.ref (a 7)])), (a 7, .inl (cA, 12, .inl (zF Wt))), (a 8, .inr (6, [.ref (a 9)])), (a 9, .inl (cA, 12, .inl (zF Cp)))] s.heap.size) [(a 11, .inr (4, [.ref (a 1), .ref (a 12), .ref (a 14), .ref (a 16)])), (a 12, .inr (6, [.ref (a 13)])), (a 13, .inl (cA, 12, .inl (zF dx))), (a 14, .inr (6, [.ref (a 15)])), (a 15, .inl (cA, 12, .inl (zF dy))), (a 16, .inr (6, [.ref (a 17)])), (a 17, .inl (cA, 12, .inl (zF dh))), (a 1, .inr (5, [.ref (a 2), .ref (a 4), .ref (a 6), .ref (a 8), .int (iI N)])), (a 2, .inr (6, [.ref (a 3)])), (a 3, .inl (cA, 12, .inl (zF Xs))), (a 4, .inr (6, [.ref (a 5)])), (a 5, .inl (cA, 12, .inl (zF Ys))), (a 6, .inr (6, [.ref (a 7)])), (a 7, .inl (cA, 12, .inl (zF Wt))), (a 8, .inr (6, [.ref (a 9)])), (a 9, .inl (cA, 12, .inl (zF Cp)))] := hD0.self
  have hS : va_S (va_A [(a 11, .inr (4, [.ref (a 1), .ref (a 12), .ref (a 14), .ref (a 16)])), (a 12, .inr (6, [.ref (a 13)])), (a 13, .inl (cA, 12, .inl (zF dx))), (a 14, .inr (6, [.ref (a 15)])), (a 15, .inl (cA, 12, .inl (zF dy))), (a 16, .inr (6, [.ref (a 17)])), (a 17, .inl (cA, 12, .inl (zF dh))), (a 1, .inr (5, [.ref (a 2), .ref (a 4), .ref (a 6), .ref (a 8), .int (iI N)])), (a 2, .inr (6, [.ref (a 3)])), (a 3, .inl (cA, 12, .inl (zF Xs))), (a 4, .inr (6, [.ref (a 5)])), (a 5, .inl (cA, 12, .inl (zF Ys))), (a 6, .inr (6, [.ref (a 7)])), (a 7, .inl (cA, 12, .inl (zF Wt))), (a 8, .inr (6, [.ref (a 9)])), (a 9, .inl (cA, 12, .inl (zF Cp)))] s.heap.size) s.heap s.heap [] := va_S.rf
  have hA : ∀ q9 : Nat, s.heap.size ≤ q9 → (va_A [(a 11, .inr (4, [.ref (a 1), .ref (a 12), .ref (a 14), .ref (a 16)])), (a 12, .inr (6, [.ref (a 13)])), (a 13, .inl (cA, 12, .inl (zF dx))), (a 14, .inr (6, [.ref (a 15)])), (a 15, .inl (cA, 12, .inl (zF dy))), (a 16, .inr (6, [.ref (a 17)])), (a 17, .inl (cA, 12, .inl (zF dh))), (a 1, .inr (5, [.ref (a 2), .ref (a 4), .ref (a 6), .ref (a 8), .int (iI N)])), (a 2, .inr (6, [.ref (a 3)])), (a 3, .inl (cA, 12, .inl (zF Xs))), (a 4, .inr (6, [.ref (a 5)])), (a 5, .inl (cA, 12, .inl (zF Ys))), (a 6, .inr (6, [.ref (a 7)])), (a 7, .inl (cA, 12, .inl (zF Wt))), (a 8, .inr (6, [.ref (a 9)])), (a 9, .inl (cA, 12, .inl (zF Cp)))] s.heap.size) q9 := fun q9 h => Or.inr h
  have hl := lv_entry ([.ref (a 11), .int (iI k)]) (n := 3) (Nat.le_of_ble_eq_true rfl)
  rw [lg_entry_eq]
  generalize (lg_sl ([.ref (a 11), .int (iI k)]) ++ List.replicate (3 - (lg_sl ([.ref (a 11), .int (iI k)])).length) Slot.unset).toArray = ls at hl ⊢
  have hl : lv_has ls 3 [(0, .ref (a 11)), (1, .int (iI k))] := hl
  refine lv_aload_n hx hb dX3_isAbove_0 rfl (lv_at hl 0 rfl) ?_
  refine lv_iload_n hx hb dX3_isAbove_1 rfl (lv_at hl 1 rfl) ?_
  refine zc_wv (wr := []) (As := [.int (iI k)]) (rest := []) ⟨hx, hb, hml, hown, hts⟩ (c_X3_lookFrom l D _ tys cA hty a N Xs Ys Wt Cp dx dy dh k gB gN (by omega)) (cwV 1 hts gX3_isAbove_X3_lookFrom rfl rfl rfl (by decide +kernel) ⟨(Nat.le_of_ble_eq_true rfl), (Nat.le_of_ble_eq_true rfl)⟩) hP hK hD hS hA [0, 1, 2, 3, 4, 5, 6, 7, 8, 9, 10, 11, 12, 13, 14, 15] rfl rfl rfl rfl [] [0, 1, 2, 3, 4, 5, 6, 7, 8, 9, 10, 11, 12, 13, 14, 15] rfl rfl (by decide) (fun _ => rfl) rfl rfl hl.1 rfl (Nat.le_of_ble_eq_true rfl) dX3_isAbove_2 ⟨Nat.zero_le _, Nat.zero_le _⟩ (ws1 := fun (u9 : (Int → Int) × (Int → Int) × (Int → Int)) => [(a 11, .inr (4, [.ref (a 1), .ref (a 12), .ref (a 14), .ref (a 16)])), (a 12, .inr (6, [.ref (a 13)])), (a 13, .inl (cA, 12, .inl (zF u9.1))), (a 14, .inr (6, [.ref (a 15)])), (a 15, .inl (cA, 12, .inl (zF u9.2.1))), (a 16, .inr (6, [.ref (a 17)])), (a 17, .inl (cA, 12, .inl (zF u9.2.2))), (a 1, .inr (5, [.ref (a 2), .ref (a 4), .ref (a 6), .ref (a 8), .int (iI N)])), (a 2, .inr (6, [.ref (a 3)])), (a 3, .inl (cA, 12, .inl (zF Xs))), (a 4, .inr (6, [.ref (a 5)])), (a 5, .inl (cA, 12, .inl (zF Ys))), (a 6, .inr (6, [.ref (a 7)])), (a 7, .inl (cA, 12, .inl (zF Wt))), (a 8, .inr (6, [.ref (a 9)])), (a 9, .inl (cA, 12, .inl (zF Cp)))]) (fun u2 H locs w2 hP hD hS => ?_)
  obtain ⟨x2, y2, z2⟩ := u2
  have w2 : ∀ i : Int, 0 ≤ i → i < N → x2 i = Xs i - Xs k ∧ y2 i = Ys i - Ys k ∧ z2 i = zHt Xs Ys Wt i - zHt Xs Ys Wt k := w2
  have hP : va_P D vwCl [(a 11, .inr (4, [.ref (a 1), .ref (a 12), .ref (a 14), .ref (a 16)])), (a 12, .inr (6, [.ref (a 13)])), (a 13, .inl (cA, 12, .inl (zF x2))), (a 14, .inr (6, [.ref (a 15)])), (a 15, .inl (cA, 12, .inl (zF y2))), (a 16, .inr (6, [.ref (a 17)])), (a 17, .inl (cA, 12, .inl (zF z2))), (a 1, .inr (5, [.ref (a 2), .ref (a 4), .ref (a 6), .ref (a 8), .int (iI N)])), (a 2, .inr (6, [.ref (a 3)])), (a 3, .inl (cA, 12, .inl (zF Xs))), (a 4, .inr (6, [.ref (a 5)])), (a 5, .inl (cA, 12, .inl (zF Ys))), (a 6, .inr (6, [.ref (a 7)])), (a 7, .inl (cA, 12, .inl (zF Wt))), (a 8, .inr (6, [.ref (a 9)])), (a 9, .inl (cA, 12, .inl (zF Cp)))] H := hP
  have hD : va_D _ [(a 11, .inr (4, [.ref (a 1), .ref (a 12), .ref (a 14), .ref (a 16)])), (a 12, .inr (6, [.ref (a 13)])), (a 13, .inl (cA, 12, .inl (zF x2))), (a 14, .inr (6, [.ref (a 15)])), (a 15, .inl (cA, 12, .inl (zF y2))), (a 16, .inr (6, [.ref (a 17)])), (a 17, .inl (cA, 12, .inl (zF z2))), (a 1, .inr (5, [.ref (a 2), .ref (a 4), .ref (a 6), .ref (a 8), .int (iI N)])), (a 2, .inr (6, [.ref (a 3)])), (a 3, .inl (cA, 12, .inl (zF Xs))), (a 4, .inr (6, [.ref (a 5)])), (a 5, .inl (cA, 12, .inl (zF Ys))), (a 6, .inr (6, [.ref (a 7)])), (a 7, .inl (cA, 12, .inl (zF Wt))), (a 8, .inr (6, [.ref (a 9)])), (a 9, .inl (cA, 12, .inl (zF Cp)))] := hD
  have gH := zHb_of gB w2
  refine lv_iconst (v := iI 0) hx hb dX3_isAbove_5 rfl ?_
  refine lv_istore_n (lv' := [(2, .int (iI 0)), (0, .ref (a 11)), (1, .int (iI k))]) hx hb dX3_isAbove_6 rfl hl (by decide) rfl (fun ls hl => ?_)
  have L7 : ∀ (n : Nat) (i : Int), (N - i < (n : Int)) → (0 ≤ i ∧ i ≤ N) → (∀ c : Int, 0 ≤ c → c < i → ¬ c = k → ¬ (zPt x2 y2 z2 c ∨ zAn x2 y2 z2 N k c)) → ∀ (H : Heap) (locs : List Loc) (ls : Array Slot), va_P D vwCl [(a 11, .inr (4, [.ref (a 1), .ref (a 12), .ref (a 14), .ref (a 16)])), (a 12, .inr (6, [.ref (a 13)])), (a 13, .inl (cA, 12, .inl (zF x2))), (a 14, .inr (6, [.ref (a 15)])), (a 15, .inl (cA, 12, .inl (zF y2))), (a 16, .inr (6, [.ref (a 17)])), (a 17, .inl (cA, 12, .inl (zF z2))), (a 1, .inr (5, [.ref (a 2), .ref (a 4), .ref (a 6), .ref (a 8), .int (iI N)])), (a 2, .inr (6, [.ref (a 3)])), (a 3, .inl (cA, 12, .inl (zF Xs))), (a 4, .inr (6, [.ref (a 5)])), (a 5, .inl (cA, 12, .inl (zF Ys))), (a 6, .inr (6, [.ref (a 7)])), (a 7, .inl (cA, 12, .inl (zF Wt))), (a 8, .inr (6, [.ref (a 9)])), (a 9, .inl (cA, 12, .inl (zF Cp)))] H → va_D (va_A [(a 11, .inr (4, [.ref (a 1), .ref (a 12), .ref (a 14), .ref (a 16)])), (a 12, .inr (6, [.ref (a 13)])), (a 13, .inl (cA, 12, .inl (zF dx))), (a 14, .inr (6, [.ref (a 15)])), (a 15, .inl (cA, 12, .inl (zF dy))), (a 16, .inr (6, [.ref (a 17)])), (a 17, .inl (cA, 12, .inl (zF dh))), (a 1, .inr (5, [.ref (a 2), .ref (a 4), .ref (a 6), .ref (a 8), .int (iI N)])), (a 2, .inr (6, [.ref (a 3)])), (a 3, .inl (cA, 12, .inl (zF Xs))), (a 4, .inr (6, [.ref (a 5)])), (a 5, .inl (cA, 12, .inl (zF Ys))), (a 6, .inr (6, [.ref (a 7)])), (a 7, .inl (cA, 12, .inl (zF Wt))), (a 8, .inr (6, [.ref (a 9)])), (a 9, .inl (cA, 12, .inl (zF Cp)))] s.heap.size) [(a 11, .inr (4, [.ref (a 1), .ref (a 12), .ref (a 14), .ref (a 16)])), (a 12, .inr (6, [.ref (a 13)])), (a 13, .inl (cA, 12, .inl (zF x2))), (a 14, .inr (6, [.ref (a 15)])), (a 15, .inl (cA, 12, .inl (zF y2))), (a 16, .inr (6, [.ref (a 17)])), (a 17, .inl (cA, 12, .inl (zF z2))), (a 1, .inr (5, [.ref (a 2), .ref (a 4), .ref (a 6), .ref (a 8), .int (iI N)])), (a 2, .inr (6, [.ref (a 3)])), (a 3, .inl (cA, 12, .inl (zF Xs))), (a 4, .inr (6, [.ref (a 5)])), (a 5, .inl (cA, 12, .inl (zF Ys))), (a 6, .inr (6, [.ref (a 7)])), (a 7, .inl (cA, 12, .inl (zF Wt))), (a 8, .inr (6, [.ref (a 9)])), (a 9, .inl (cA, 12, .inl (zF Cp)))] → va_S (va_A [(a 11, .inr (4, [.ref (a 1), .ref (a 12), .ref (a 14), .ref (a 16)])), (a 12, .inr (6, [.ref (a 13)])), (a 13, .inl (cA, 12, .inl (zF dx))), (a 14, .inr (6, [.ref (a 15)])), (a 15, .inl (cA, 12, .inl (zF dy))), (a 16, .inr (6, [.ref (a 17)])), (a 17, .inl (cA, 12, .inl (zF dh))), (a 1, .inr (5, [.ref (a 2), .ref (a 4), .ref (a 6), .ref (a 8), .int (iI N)])), (a 2, .inr (6, [.ref (a 3)])), (a 3, .inl (cA, 12, .inl (zF Xs))), (a 4, .inr (6, [.ref (a 5)])), (a 5, .inl (cA, 12, .inl (zF Ys))), (a 6, .inr (6, [.ref (a 7)])), (a 7, .inl (cA, 12, .inl (zF Wt))), (a 8, .inr (6, [.ref (a 9)])), (a 9, .inl (cA, 12, .inl (zF Cp)))] s.heap.size) s.heap H locs → lv_has ls 3 [(0, .ref (a 11)), (1, .int (iI k)), (2, .int (iI i))] → W p l e (headSpec wsX3_isAbove ({ frames := 5, cells := 0, slots := 0, locals := 118 })).room s m ([.ref (a 11), .int (iI k)] : List Value).toArray below meth c H locs 0 0 (MQ below (zWi (fun (u : (Int → Int) × (Int → Int) × (Int → Int)) => bI (zAb u.1 u.2.1 u.2.2 N k)) (fun (u : (Int → Int) × (Int → Int) × (Int → Int)) => ∀ i : Int, 0 ≤ i → i < N → u.1 i = Xs i - Xs k ∧ u.2.1 i = Ys i - Ys k ∧ u.2.2 i = zHt Xs Ys Wt i - zHt Xs Ys Wt k) D (fun (u : (Int → Int) × (Int → Int) × (Int → Int)) => [(a 11, .inr (4, [.ref (a 1), .ref (a 12), .ref (a 14), .ref (a 16)])), (a 12, .inr (6, [.ref (a 13)])), (a 13, .inl (cA, 12, .inl (zF u.1))), (a 14, .inr (6, [.ref (a 15)])), (a 15, .inl (cA, 12, .inl (zF u.2.1))), (a 16, .inr (6, [.ref (a 17)])), (a 17, .inl (cA, 12, .inl (zF u.2.2))), (a 1, .inr (5, [.ref (a 2), .ref (a 4), .ref (a 6), .ref (a 8), .int (iI N)])), (a 2, .inr (6, [.ref (a 3)])), (a 3, .inl (cA, 12, .inl (zF Xs))), (a 4, .inr (6, [.ref (a 5)])), (a 5, .inl (cA, 12, .inl (zF Ys))), (a 6, .inr (6, [.ref (a 7)])), (a 7, .inl (cA, 12, .inl (zF Wt))), (a 8, .inr (6, [.ref (a 9)])), (a 9, .inl (cA, 12, .inl (zF Cp)))]) [(a 11, .inr (4, [.ref (a 1), .ref (a 12), .ref (a 14), .ref (a 16)])), (a 12, .inr (6, [.ref (a 13)])), (a 13, .inl (cA, 12, .inl (zF dx))), (a 14, .inr (6, [.ref (a 15)])), (a 15, .inl (cA, 12, .inl (zF dy))), (a 16, .inr (6, [.ref (a 17)])), (a 17, .inl (cA, 12, .inl (zF dh))), (a 1, .inr (5, [.ref (a 2), .ref (a 4), .ref (a 6), .ref (a 8), .int (iI N)])), (a 2, .inr (6, [.ref (a 3)])), (a 3, .inl (cA, 12, .inl (zF Xs))), (a 4, .inr (6, [.ref (a 5)])), (a 5, .inl (cA, 12, .inl (zF Ys))), (a 6, .inr (6, [.ref (a 7)])), (a 7, .inl (cA, 12, .inl (zF Wt))), (a 8, .inr (6, [.ref (a 9)])), (a 9, .inl (cA, 12, .inl (zF Cp)))] s.heap.size) ([.ref (a 11), .int (iI k)] : List Value).toArray s 0 0 (va_A [(a 11, .inr (4, [.ref (a 1), .ref (a 12), .ref (a 14), .ref (a 16)])), (a 12, .inr (6, [.ref (a 13)])), (a 13, .inl (cA, 12, .inl (zF dx))), (a 14, .inr (6, [.ref (a 15)])), (a 15, .inl (cA, 12, .inl (zF dy))), (a 16, .inr (6, [.ref (a 17)])), (a 17, .inl (cA, 12, .inl (zF dh))), (a 1, .inr (5, [.ref (a 2), .ref (a 4), .ref (a 6), .ref (a 8), .int (iI N)])), (a 2, .inr (6, [.ref (a 3)])), (a 3, .inl (cA, 12, .inl (zF Xs))), (a 4, .inr (6, [.ref (a 5)])), (a 5, .inl (cA, 12, .inl (zF Ys))), (a 6, .inr (6, [.ref (a 7)])), (a 7, .inl (cA, 12, .inl (zF Wt))), (a 8, .inr (6, [.ref (a 9)])), (a 9, .inl (cA, 12, .inl (zF Cp)))] s.heap.size)) (F0 m 7 ls []) := by
    intro n
    induction n with
    | zero =>
      intro i hn9 h1 h2 H locs ls hP hD hS hl
      exact absurd hn9 (by omega)
    | succ n ih7 =>
      intro i hn9 h1 h2 H locs ls hP hD hS hl
      refine lv_iload_n hx hb dX3_isAbove_7 rfl (lv_at hl 2 rfl) ?_
      refine lv_aload_n hx hb dX3_isAbove_8 rfl (lv_at hl 0 rfl) ?_
      refine va_get (ci := 4) (v := .ref (a 1)) (C := RX3) (T := TX3) (N := 4) hx hb hts iz_X3_isAbove_X3 hown hK hP 0 rfl rfl 0 (by decide) (hts (.fieldLink RX3 22 "PowerPlot$Hull" "places" "LPowerPlot$Places;") (by decide +kernel)) (fun _ h9 => h9) rfl dX3_isAbove_9 ?_
      refine va_get (ci := 5) (v := .int (iI N)) (C := RX4) (T := TX4) (N := 5) hx hb hts iz_X3_isAbove_X4 hown hK hP 7 rfl rfl 4 (by decide) (hts (.fieldLink RX3 30 "PowerPlot$Places" "count" "I") (by decide +kernel)) (fun _ h9 => h9) rfl dX3_isAbove_12 ?_
      refine zi_icmp_ge (tgt := 48) hx hb dX3_isAbove_15 (by decide) (by omega) (by omega) (fun c15 => ?_) (fun c15 => ?_)
      · skip
        refine lv_iconst (v := iI 0) hx hb dX3_isAbove_48 rfl ?_
        exact W.zret (v := iI 0) (ty := .boolean) hx hb hr (by decide) (fun t ht hW => ⟨⟨iI 0, (x2, y2, z2), rfl, ⟨congrArg iI (by exact (bI_f (fun ⟨c, p, q, r, z⟩ => h2 c p (by omega) r z)).symm), w2⟩, ⟨by rw [ht]; exact hP, hD⟩⟩, hS.F ht⟩) hS.2.2 dX3_isAbove_49
      · skip
        refine lv_iload_n hx hb dX3_isAbove_18 rfl (lv_at hl 2 rfl) ?_
        refine lv_iload_n hx hb dX3_isAbove_19 rfl (lv_at hl 1 rfl) ?_
        refine zi_icmp_eq (tgt := 42) hx hb dX3_isAbove_20 (by decide) (by omega) (by omega) (fun c20 => ?_) (fun c20 => ?_)
        · skip
          refine lv_iinc (v := iI (i + 1)) (lv' := [(2, .int (iI (i + 1))), (0, .ref (a 11)), (1, .int (iI k))]) hx hb dX3_isAbove_42 hl (k := 2) rfl (iI_add i 1) (by decide) rfl (fun ls hl => ?_)
          refine lv_goto (tgt := 7) hx hb dX3_isAbove_45 (by decide) ?_
          exact ih7 (i + 1) (by omega) (by omega) (by first | exact zfa_st h2 (Or.inl c20) | exact zfa_st h2 (Or.inr (fun z => z.elim c28 c37))) _ _ _ hP hD hS (lv_sub hl [1, 2, 0] rfl)
        · skip
          refine lv_aload_n hx hb dX3_isAbove_23 rfl (lv_at hl 0 rfl) ?_
          refine lv_iload_n hx hb dX3_isAbove_24 rfl (lv_at hl 2 rfl) ?_
          refine zc_ri (As := [.int (iI i)]) (rest := []) ⟨hx, hb, hml, hown, hts⟩ (c_X3_isOnPoint l D _ tys cA hty a N Xs Ys Wt Cp x2 y2 z2 i gH gN (by omega)) (cwV 1 hts gX3_isAbove_X3_isOnPoint rfl rfl rfl (by decide +kernel) ⟨(Nat.le_of_ble_eq_true rfl), (Nat.le_of_ble_eq_true rfl)⟩) hP hK hD hS hA [0, 1, 2, 3, 4, 5, 6, 7, 8, 9, 10, 11, 12, 13, 14, 15] rfl rfl rfl rfl rfl hl.1 rfl (Nat.le_of_ble_eq_true rfl) dX3_isAbove_25 ⟨Nat.zero_le _, Nat.zero_le _⟩ (fun H locs hP hS => ?_)
          refine zb_if_ne (tgt := 40) hx hb dX3_isAbove_28 (by decide) (fun c28 => ?_) (fun c28 => ?_)
          · skip
            refine lv_iconst (v := iI 1) hx hb dX3_isAbove_40 rfl ?_
            exact W.zret (v := iI 1) (ty := .boolean) hx hb hr (by decide) (fun t ht hW => ⟨⟨iI 1, (x2, y2, z2), rfl, ⟨congrArg iI (by dsimp only; refine (bI_t ?_).symm; exact ⟨i, by omega, by omega, c20, by first | exact Or.inl c28 | exact Or.inr c37⟩), w2⟩, ⟨by rw [ht]; exact hP, hD⟩⟩, hS.F ht⟩) hS.2.2 dX3_isAbove_41
          · skip
            refine lv_aload_n hx hb dX3_isAbove_31 rfl (lv_at hl 0 rfl) ?_
            refine lv_iload_n hx hb dX3_isAbove_32 rfl (lv_at hl 1 rfl) ?_
            refine lv_iload_n hx hb dX3_isAbove_33 rfl (lv_at hl 2 rfl) ?_
            refine zc_ri (As := [.int (iI k), .int (iI i)]) (rest := []) ⟨hx, hb, hml, hown, hts⟩ (c_X3_isAboveAny l D _ tys cA hty a N Xs Ys Wt Cp x2 y2 z2 k i gH gN (by omega) (by omega)) (cwV 2 hts gX3_isAbove_X3_isAboveAny rfl rfl rfl (by decide +kernel) ⟨(Nat.le_of_ble_eq_true rfl), (Nat.le_of_ble_eq_true rfl)⟩) hP hK hD hS hA [0, 1, 2, 3, 4, 5, 6, 7, 8, 9, 10, 11, 12, 13, 14, 15] rfl rfl rfl rfl rfl hl.1 rfl (Nat.le_of_ble_eq_true rfl) dX3_isAbove_34 ⟨Nat.zero_le _, Nat.zero_le _⟩ (fun H locs hP hS => ?_)
            refine zb_if_eq (tgt := 42) hx hb dX3_isAbove_37 (by decide) (fun c37 => ?_) (fun c37 => ?_)
            · skip
              refine lv_iinc (v := iI (i + 1)) (lv' := [(2, .int (iI (i + 1))), (0, .ref (a 11)), (1, .int (iI k))]) hx hb dX3_isAbove_42 hl (k := 2) rfl (iI_add i 1) (by decide) rfl (fun ls hl => ?_)
              refine lv_goto (tgt := 7) hx hb dX3_isAbove_45 (by decide) ?_
              exact ih7 (i + 1) (by omega) (by omega) (by first | exact zfa_st h2 (Or.inl c20) | exact zfa_st h2 (Or.inr (fun z => z.elim c28 c37))) _ _ _ hP hD hS (lv_sub hl [1, 2, 0] rfl)
            · skip
              refine lv_iconst (v := iI 1) hx hb dX3_isAbove_40 rfl ?_
              exact W.zret (v := iI 1) (ty := .boolean) hx hb hr (by decide) (fun t ht hW => ⟨⟨iI 1, (x2, y2, z2), rfl, ⟨congrArg iI (by dsimp only; refine (bI_t ?_).symm; exact ⟨i, by omega, by omega, c20, by first | exact Or.inl c28 | exact Or.inr c37⟩), w2⟩, ⟨by rw [ht]; exact hP, hD⟩⟩, hS.F ht⟩) hS.2.2 dX3_isAbove_41
  exact L7 (((N - 0 : Int)).toNat + 1) 0 (by omega) (by omega) (fun c p q => absurd q (by omega)) _ _ _ hP hD hS (lv_sub hl [1, 2, 0] rfl)
