theorem iz_X4_powerAt_X4 : ∀ w ∈ u_ws RX4 TX4 5, w ∈ wsX4_powerAt := by decide +kernel
set_option maxHeartbeats 4000000 in
set_option maxRecDepth 100000 in
/-- Places.powerAt -/
theorem c_X4_powerAt (l : Launch) (D : va_G) (sz : Nat) (tys : List (ClassId × FieldType)) (cA : ClassId) (hty : tys[0]? = some (cA, .int)) (a : Nat → Nat) (N : Int) (Xs Ys Wt Cp : Int → Int) (k x y : Int) (hs : 0 ≤ k ∧ k < 12) : Met l yX4_powerAt wsX4_powerAt ({ frames := 1, cells := 0, slots := 0, locals := 21 }) (zP D [.ref (a 1), .int (iI k), .int (iI x), .int (iI y)] sz [(a 1, .inr (5, [.ref (a 2), .ref (a 4), .ref (a 6), .ref (a 8), .int (iI N)])), (a 2, .inr (6, [.ref (a 3)])), (a 3, .inl (cA, 12, .inl (zF Xs))), (a 4, .inr (6, [.ref (a 5)])), (a 5, .inl (cA, 12, .inl (zF Ys))), (a 6, .inr (6, [.ref (a 7)])), (a 7, .inl (cA, 12, .inl (zF Wt))), (a 8, .inr (6, [.ref (a 9)])), (a 9, .inl (cA, 12, .inl (zF Cp)))] tys) (zRi (zPw Xs Ys Wt k x y) sz) 0 0 (zN sz) := by
  refine Met.ofW (cc := cX4_powerAt) (maxL := 6) (ret := (some .int)) (by decide +kernel) rfl ?_
  intro p e s m args below meth c s₁ B hml hv
  obtain ⟨rfl, hsz, hP, hK, hD0⟩ := hv
  have hx := B.exec
  have hb := B.bytes
  have hr := B.returns
  have hts := atoms_spec (ws := wsX4_powerAt) B.pre
  have hown : s.vm.findClass RX4 = some m.cls := findClass_of_methodNamed B.named
  have hlocks := B.notSynchronized
  subst hsz
  have hD := hD0
  have hS : va_S (zN s.heap.size) s.heap s.heap [] := va_S.rf
  have hA : ∀ q9 : Nat, s.heap.size ≤ q9 → (zN s.heap.size) q9 := fun q9 h => h
  have hl := lv_entry ([.ref (a 1), .int (iI k), .int (iI x), .int (iI y)]) (n := 6) (Nat.le_of_ble_eq_true rfl)
  rw [lg_entry_eq]
  generalize (lg_sl ([.ref (a 1), .int (iI k), .int (iI x), .int (iI y)]) ++ List.replicate (6 - (lg_sl ([.ref (a 1), .int (iI k), .int (iI x), .int (iI y)])).length) Slot.unset).toArray = ls at hl ⊢
  have hl : lv_has ls 6 [(0, .ref (a 1)), (1, .int (iI k)), (2, .int (iI x)), (3, .int (iI y))] := hl
  refine lv_iload_n hx hb dX4_powerAt_0 rfl (lv_at hl 2 rfl) ?_
  refine lv_aload_n hx hb dX4_powerAt_1 rfl (lv_at hl 0 rfl) ?_
  refine va_get (ci := 5) (v := .ref (a 2)) (C := RX4) (T := TX4) (N := 5) hx hb hts iz_X4_powerAt_X4 hown hK hP 0 rfl rfl 0 (by decide) (hts (.fieldLink RX4 10 "PowerPlot$Places" "xs" "LPowerPlot$Row;") (by decide +kernel)) (fun _ h9 => h9) rfl dX4_powerAt_2 ?_
  refine lv_iload_n hx hb dX4_powerAt_5 rfl (lv_at hl 1 rfl) ?_
  refine zc_ri (As := [.int (iI k)]) (rest := [.int (iI x)]) ⟨hx, hb, hml, hown, hts⟩ (c_X5_at l D _ tys cA hty (a 2) (a 3) Xs k (by omega)) (cwV 1 hts gX4_powerAt_X5_at rfl rfl rfl (by decide +kernel) ⟨(Nat.le_of_ble_eq_true rfl), (Nat.le_of_ble_eq_true rfl)⟩) hP hK hD hS hA [1, 2] rfl rfl rfl rfl rfl hl.1 rfl (Nat.le_of_ble_eq_true rfl) dX4_powerAt_6 ⟨Nat.zero_le _, Nat.zero_le _⟩ (fun H locs hP hS => ?_)
  refine zi_isub hx hb dX4_powerAt_9 ?_
  refine lv_istore (lv' := [(4, .int (iI (x - (Xs k)))), (0, .ref (a 1)), (1, .int (iI k)), (2, .int (iI x)), (3, .int (iI y))]) hx hb dX4_powerAt_10 hl (by decide) rfl (fun ls hl => ?_)
  refine lv_iload_n hx hb dX4_powerAt_12 rfl (lv_at hl 4 rfl) ?_
  refine lv_aload_n hx hb dX4_powerAt_13 rfl (lv_at hl 1 rfl) ?_
  refine va_get (ci := 5) (v := .ref (a 4)) (C := RX4) (T := TX4) (N := 5) hx hb hts iz_X4_powerAt_X4 hown hK hP 0 rfl rfl 1 (by decide) (hts (.fieldLink RX4 16 "PowerPlot$Places" "ys" "LPowerPlot$Row;") (by decide +kernel)) (fun _ h9 => h9) rfl dX4_powerAt_14 ?_
  refine lv_iload_n hx hb dX4_powerAt_17 rfl (lv_at hl 2 rfl) ?_
  refine zc_ri (As := [.int (iI k)]) (rest := [.int (iI y)]) ⟨hx, hb, hml, hown, hts⟩ (c_X5_at l D _ tys cA hty (a 4) (a 5) Ys k (by omega)) (cwV 1 hts gX4_powerAt_X5_at rfl rfl rfl (by decide +kernel) ⟨(Nat.le_of_ble_eq_true rfl), (Nat.le_of_ble_eq_true rfl)⟩) hP hK hD hS hA [3, 4] rfl rfl rfl rfl rfl hl.1 rfl (Nat.le_of_ble_eq_true rfl) dX4_powerAt_18 ⟨Nat.zero_le _, Nat.zero_le _⟩ (fun H locs hP hS => ?_)
  refine zi_isub hx hb dX4_powerAt_21 ?_
  refine lv_istore (lv' := [(5, .int (iI (y - (Ys k)))), (4, .int (iI (x - (Xs k)))), (0, .ref (a 1)), (1, .int (iI k)), (2, .int (iI x)), (3, .int (iI y))]) hx hb dX4_powerAt_22 hl (by decide) rfl (fun ls hl => ?_)
  refine lv_iload hx hb dX4_powerAt_24 (lv_at hl 1 rfl) ?_
  refine lv_iload hx hb dX4_powerAt_26 (lv_at hl 1 rfl) ?_
  refine zi_imul hx hb dX4_powerAt_28 ?_
  refine lv_iload hx hb dX4_powerAt_29 (lv_at hl 0 rfl) ?_
  refine lv_iload hx hb dX4_powerAt_31 (lv_at hl 0 rfl) ?_
  refine zi_imul hx hb dX4_powerAt_33 ?_
  refine zi_iadd hx hb dX4_powerAt_34 ?_
  refine lv_aload_n hx hb dX4_powerAt_35 rfl (lv_at hl 2 rfl) ?_
  refine va_get (ci := 5) (v := .ref (a 6)) (C := RX4) (T := TX4) (N := 5) hx hb hts iz_X4_powerAt_X4 hown hK hP 0 rfl rfl 2 (by decide) (hts (.fieldLink RX4 19 "PowerPlot$Places" "weights" "LPowerPlot$Row;") (by decide +kernel)) (fun _ h9 => h9) rfl dX4_powerAt_36 ?_
  refine lv_iload_n hx hb dX4_powerAt_39 rfl (lv_at hl 3 rfl) ?_
  refine zc_ri (As := [.int (iI k)]) (rest := [.int (iI (((x - (Xs k)) * (x - (Xs k))) + ((y - (Ys k)) * (y - (Ys k)))))]) ⟨hx, hb, hml, hown, hts⟩ (c_X5_at l D _ tys cA hty (a 6) (a 7) Wt k (by omega)) (cwV 1 hts gX4_powerAt_X5_at rfl rfl rfl (by decide +kernel) ⟨(Nat.le_of_ble_eq_true rfl), (Nat.le_of_ble_eq_true rfl)⟩) hP hK hD hS hA [5, 6] rfl rfl rfl rfl rfl hl.1 rfl (Nat.le_of_ble_eq_true rfl) dX4_powerAt_40 ⟨Nat.zero_le _, Nat.zero_le _⟩ (fun H locs hP hS => ?_)
  refine zi_isub hx hb dX4_powerAt_43 ?_
  exact W.iret (v := iI ((((x - (Xs k)) * (x - (Xs k))) + ((y - (Ys k)) * (y - (Ys k)))) - (Wt k))) hx hb hr (fun t ht hW => ⟨⟨iI ((((x - (Xs k)) * (x - (Xs k))) + ((y - (Ys k)) * (y - (Ys k)))) - (Wt k)), (), rfl, congrArg iI (show (((x - (Xs k)) * (x - (Xs k))) + ((y - (Ys k)) * (y - (Ys k)))) - (Wt k) = zPw Xs Ys Wt k x y from by rfl), trivial⟩, hS.F ht⟩) hS.2.2 dX4_powerAt_44
set_option maxHeartbeats 4000000 in
set_option maxRecDepth 100000 in
/-- Places.heightOf -/
theorem c_X4_heightOf (l : Launch) (D : va_G) (sz : Nat) (tys : List (ClassId × FieldType)) (cA : ClassId) (hty : tys[0]? = some (cA, .int)) (a : Nat → Nat) (N : Int) (Xs Ys Wt Cp : Int → Int) (k : Int) (hs : 0 ≤ k ∧ k < 12) : Met l yX4_heightOf wsX4_heightOf ({ frames := 2, cells := 0, slots := 0, locals := 46 }) (zP D [.ref (a 1), .int (iI k)] sz [(a 1, .inr (5, [.ref (a 2), .ref (a 4), .ref (a 6), .ref (a 8), .int (iI N)])), (a 2, .inr (6, [.ref (a 3)])), (a 3, .inl (cA, 12, .inl (zF Xs))), (a 4, .inr (6, [.ref (a 5)])), (a 5, .inl (cA, 12, .inl (zF Ys))), (a 6, .inr (6, [.ref (a 7)])), (a 7, .inl (cA, 12, .inl (zF Wt))), (a 8, .inr (6, [.ref (a 9)])), (a 9, .inl (cA, 12, .inl (zF Cp)))] tys) (zRi (zHt Xs Ys Wt k) sz) 0 0 (zN sz) := by
  refine Met.ofW (cc := cX4_heightOf) (maxL := 2) (ret := (some .int)) (by decide +kernel) rfl ?_
  intro p e s m args below meth c s₁ B hml hv
  obtain ⟨rfl, hsz, hP, hK, hD0⟩ := hv
  have hx := B.exec
  have hb := B.bytes
  have hr := B.returns
  have hts := atoms_spec (ws := wsX4_heightOf) B.pre
  have hown : s.vm.findClass RX4 = some m.cls := findClass_of_methodNamed B.named
  have hlocks := B.notSynchronized
  subst hsz
  have hD := hD0
  have hS : va_S (zN s.heap.size) s.heap s.heap [] := va_S.rf
  have hA : ∀ q9 : Nat, s.heap.size ≤ q9 → (zN s.heap.size) q9 := fun q9 h => h
  have hl := lv_entry ([.ref (a 1), .int (iI k)]) (n := 2) (Nat.le_of_ble_eq_true rfl)
  rw [lg_entry_eq]
  generalize (lg_sl ([.ref (a 1), .int (iI k)]) ++ List.replicate (2 - (lg_sl ([.ref (a 1), .int (iI k)])).length) Slot.unset).toArray = ls at hl ⊢
  have hl : lv_has ls 2 [(0, .ref (a 1)), (1, .int (iI k))] := hl
  refine lv_aload_n hx hb dX4_heightOf_0 rfl (lv_at hl 0 rfl) ?_
  refine lv_iload_n hx hb dX4_heightOf_1 rfl (lv_at hl 1 rfl) ?_
  refine lv_iconst (v := iI 0) hx hb dX4_heightOf_2 rfl ?_
  refine lv_iconst (v := iI 0) hx hb dX4_heightOf_3 rfl ?_
  refine zc_ri (As := [.int (iI k), .int (iI 0), .int (iI 0)]) (rest := []) ⟨hx, hb, hml, hown, hts⟩ (c_X4_powerAt l D _ tys cA hty a N Xs Ys Wt Cp k 0 0 (by omega)) (cwV 3 hts gX4_heightOf_X4_powerAt rfl rfl rfl (by decide +kernel) ⟨(Nat.le_of_ble_eq_true rfl), (Nat.le_of_ble_eq_true rfl)⟩) hP hK hD hS hA [0, 1, 2, 3, 4, 5, 6, 7, 8] rfl rfl rfl rfl rfl hl.1 rfl (Nat.le_of_ble_eq_true rfl) dX4_heightOf_4 ⟨Nat.zero_le _, Nat.zero_le _⟩ (fun H locs hP hS => ?_)
  exact W.iret (v := iI (zPw Xs Ys Wt k 0 0)) hx hb hr (fun t ht hW => ⟨⟨iI (zPw Xs Ys Wt k 0 0), (), rfl, congrArg iI (show zPw Xs Ys Wt k 0 0 = zHt Xs Ys Wt k from by rfl), trivial⟩, hS.F ht⟩) hS.2.2 dX4_heightOf_7
theorem iz_X4_add_X4 : ∀ w ∈ u_ws RX4 TX4 5, w ∈ wsX4_add := by decide +kernel
set_option maxHeartbeats 4000000 in
set_option maxRecDepth 100000 in
/-- Places.add -/
theorem c_X4_add (l : Launch) (D : va_G) (sz : Nat) (tys : List (ClassId × FieldType)) (cA : ClassId) (hty : tys[0]? = some (cA, .int)) (a : Nat → Nat) (N : Int) (Xs Ys Wt Cp : Int → Int) (x y w : Int) (hs : 0 ≤ N ∧ N < 12) : Met l yX4_add wsX4_add ({ frames := 1, cells := 0, slots := 0, locals := 22 }) (zP D [.ref (a 1), .int (iI x), .int (iI y), .int (iI w)] sz [(a 1, .inr (5, [.ref (a 2), .ref (a 4), .ref (a 6), .ref (a 8), .int (iI N)])), (a 2, .inr (6, [.ref (a 3)])), (a 3, .inl (cA, 12, .inl (zF Xs))), (a 4, .inr (6, [.ref (a 5)])), (a 5, .inl (cA, 12, .inl (zF Ys))), (a 6, .inr (6, [.ref (a 7)])), (a 7, .inl (cA, 12, .inl (zF Wt))), (a 8, .inr (6, [.ref (a 9)])), (a 9, .inl (cA, 12, .inl (zF Cp)))] tys) (zWi (fun (u : Unit) => N) (fun (u : Unit) => True) D (fun (u : Unit) => [(a 1, .inr (5, [.ref (a 2), .ref (a 4), .ref (a 6), .ref (a 8), .int (iI (N + 1))])), (a 2, .inr (6, [.ref (a 3)])), (a 3, .inl (cA, 12, .inl (zF (zU Xs N x)))), (a 4, .inr (6, [.ref (a 5)])), (a 5, .inl (cA, 12, .inl (zF (zU Ys N y)))), (a 6, .inr (6, [.ref (a 7)])), (a 7, .inl (cA, 12, .inl (zF (zU Wt N w)))), (a 8, .inr (6, [.ref (a 9)])), (a 9, .inl (cA, 12, .inl (zF Cp)))]) [(a 1, .inr (5, [.ref (a 2), .ref (a 4), .ref (a 6), .ref (a 8), .int (iI N)])), (a 2, .inr (6, [.ref (a 3)])), (a 3, .inl (cA, 12, .inl (zF Xs))), (a 4, .inr (6, [.ref (a 5)])), (a 5, .inl (cA, 12, .inl (zF Ys))), (a 6, .inr (6, [.ref (a 7)])), (a 7, .inl (cA, 12, .inl (zF Wt))), (a 8, .inr (6, [.ref (a 9)])), (a 9, .inl (cA, 12, .inl (zF Cp)))] sz) 0 0 (va_A [(a 1, .inr (5, [.ref (a 2), .ref (a 4), .ref (a 6), .ref (a 8), .int (iI N)])), (a 2, .inr (6, [.ref (a 3)])), (a 3, .inl (cA, 12, .inl (zF Xs))), (a 4, .inr (6, [.ref (a 5)])), (a 5, .inl (cA, 12, .inl (zF Ys))), (a 6, .inr (6, [.ref (a 7)])), (a 7, .inl (cA, 12, .inl (zF Wt))), (a 8, .inr (6, [.ref (a 9)])), (a 9, .inl (cA, 12, .inl (zF Cp)))] sz) := by
  refine Met.ofW (cc := cX4_add) (maxL := 5) (ret := (some .int)) (by decide +kernel) rfl ?_
  intro p e s m args below meth c s₁ B hml hv
  obtain ⟨rfl, hsz, hP, hK, hD0⟩ := hv
  have hx := B.exec
  have hb := B.bytes
  have hr := B.returns
  have hts := atoms_spec (ws := wsX4_add) B.pre
  have hown : s.vm.findClass RX4 = some m.cls := findClass_of_methodNamed B.named
  have hlocks := B.notSynchronized
  subst hsz
  have hD : va_D (va_A [(a 1, .inr (5, [.ref (a 2), .ref (a 4), .ref (a 6), .ref (a 8), .int (iI N)])), (a 2, .inr (6, [.ref (a 3)])), (a 3, .inl (cA, 12, .inl (zF Xs))), (a 4, .inr (6, [.ref (a 5)])), (a 5, .inl (cA, 12, .inl (zF Ys))), (a 6, .inr (6, [.ref (a 7)])), (a 7, .inl (cA, 12, .inl (zF Wt))), (a 8, .inr (6, [.ref (a 9)])), (a 9, .inl (cA, 12, .inl (zF Cp)))] s.heap.size) [(a 1, .inr (5, [.ref (a 2), .ref (a 4), .ref (a 6), .ref (a 8), .int (iI N)])), (a 2, .inr (6, [.ref (a 3)])), (a 3, .inl (cA, 12, .inl (zF Xs))), (a 4, .inr (6, [.ref (a 5)])), (a 5, .inl (cA, 12, .inl (zF Ys))), (a 6, .inr (6, [.ref (a 7)])), (a 7, .inl (cA, 12, .inl (zF Wt))), (a 8, .inr (6, [.ref (a 9)])), (a 9, .inl (cA, 12, .inl (zF Cp)))] := hD0.self
  have hS : va_S (va_A [(a 1, .inr (5, [.ref (a 2), .ref (a 4), .ref (a 6), .ref (a 8), .int (iI N)])), (a 2, .inr (6, [.ref (a 3)])), (a 3, .inl (cA, 12, .inl (zF Xs))), (a 4, .inr (6, [.ref (a 5)])), (a 5, .inl (cA, 12, .inl (zF Ys))), (a 6, .inr (6, [.ref (a 7)])), (a 7, .inl (cA, 12, .inl (zF Wt))), (a 8, .inr (6, [.ref (a 9)])), (a 9, .inl (cA, 12, .inl (zF Cp)))] s.heap.size) s.heap s.heap [] := va_S.rf
  have hA : ∀ q9 : Nat, s.heap.size ≤ q9 → (va_A [(a 1, .inr (5, [.ref (a 2), .ref (a 4), .ref (a 6), .ref (a 8), .int (iI N)])), (a 2, .inr (6, [.ref (a 3)])), (a 3, .inl (cA, 12, .inl (zF Xs))), (a 4, .inr (6, [.ref (a 5)])), (a 5, .inl (cA, 12, .inl (zF Ys))), (a 6, .inr (6, [.ref (a 7)])), (a 7, .inl (cA, 12, .inl (zF Wt))), (a 8, .inr (6, [.ref (a 9)])), (a 9, .inl (cA, 12, .inl (zF Cp)))] s.heap.size) q9 := fun q9 h => Or.inr h
  have hl := lv_entry ([.ref (a 1), .int (iI x), .int (iI y), .int (iI w)]) (n := 5) (Nat.le_of_ble_eq_true rfl)
  rw [lg_entry_eq]
  generalize (lg_sl ([.ref (a 1), .int (iI x), .int (iI y), .int (iI w)]) ++ List.replicate (5 - (lg_sl ([.ref (a 1), .int (iI x), .int (iI y), .int (iI w)])).length) Slot.unset).toArray = ls at hl ⊢
  have hl : lv_has ls 5 [(0, .ref (a 1)), (1, .int (iI x)), (2, .int (iI y)), (3, .int (iI w))] := hl
  refine lv_aload_n hx hb dX4_add_0 rfl (lv_at hl 0 rfl) ?_
  refine va_get (ci := 5) (v := .int (iI N)) (C := RX4) (T := TX4) (N := 5) hx hb hts iz_X4_add_X4 hown hK hP 0 rfl rfl 4 (by decide) (hts (.fieldLink RX4 25 "PowerPlot$Places" "count" "I") (by decide +kernel)) (fun _ h9 => h9) rfl dX4_add_1 ?_
  refine lv_istore (lv' := [(4, .int (iI N)), (0, .ref (a 1)), (1, .int (iI x)), (2, .int (iI y)), (3, .int (iI w))]) hx hb dX4_add_4 hl (by decide) rfl (fun ls hl => ?_)
  refine lv_aload_n hx hb dX4_add_6 rfl (lv_at hl 1 rfl) ?_
  refine va_get (ci := 5) (v := .ref (a 2)) (C := RX4) (T := TX4) (N := 5) hx hb hts iz_X4_add_X4 hown hK hP 0 rfl rfl 0 (by decide) (hts (.fieldLink RX4 10 "PowerPlot$Places" "xs" "LPowerPlot$Row;") (by decide +kernel)) (fun _ h9 => h9) rfl dX4_add_7 ?_
  refine lv_iload hx hb dX4_add_10 (lv_at hl 0 rfl) ?_
  refine lv_iload_n hx hb dX4_add_12 rfl (lv_at hl 2 rfl) ?_
  refine zc_wv (wr := [(a 1, .inr (5, [.ref (a 2), .ref (a 4), .ref (a 6), .ref (a 8), .int (iI N)])), (a 4, .inr (6, [.ref (a 5)])), (a 5, .inl (cA, 12, .inl (zF Ys))), (a 6, .inr (6, [.ref (a 7)])), (a 7, .inl (cA, 12, .inl (zF Wt))), (a 8, .inr (6, [.ref (a 9)])), (a 9, .inl (cA, 12, .inl (zF Cp)))]) (As := [.int (iI N), .int (iI x)]) (rest := []) ⟨hx, hb, hml, hown, hts⟩ (c_X5_put l D _ tys cA hty (a 2) (a 3) Xs N x (by omega)) (cwV 2 hts gX4_add_X5_put rfl rfl rfl (by decide +kernel) ⟨(Nat.le_of_ble_eq_true rfl), (Nat.le_of_ble_eq_true rfl)⟩) hP hK hD hS hA [1, 2] rfl rfl rfl rfl [0, 3, 4, 5, 6, 7, 8] [0, 7, 8, 1, 2, 3, 4, 5, 6] rfl rfl (by decide) (fun _ => rfl) rfl rfl hl.1 rfl (Nat.le_of_ble_eq_true rfl) dX4_add_13 ⟨Nat.zero_le _, Nat.zero_le _⟩ (ws1 := fun (_ : Unit) => [(a 1, .inr (5, [.ref (a 2), .ref (a 4), .ref (a 6), .ref (a 8), .int (iI N)])), (a 2, .inr (6, [.ref (a 3)])), (a 3, .inl (cA, 12, .inl (zF (zU Xs N x)))), (a 4, .inr (6, [.ref (a 5)])), (a 5, .inl (cA, 12, .inl (zF Ys))), (a 6, .inr (6, [.ref (a 7)])), (a 7, .inl (cA, 12, .inl (zF Wt))), (a 8, .inr (6, [.ref (a 9)])), (a 9, .inl (cA, 12, .inl (zF Cp)))]) (fun u13 H locs w13 hP hD hS => ?_)
  have hP : va_P D vwCl [(a 1, .inr (5, [.ref (a 2), .ref (a 4), .ref (a 6), .ref (a 8), .int (iI N)])), (a 2, .inr (6, [.ref (a 3)])), (a 3, .inl (cA, 12, .inl (zF (zU Xs N x)))), (a 4, .inr (6, [.ref (a 5)])), (a 5, .inl (cA, 12, .inl (zF Ys))), (a 6, .inr (6, [.ref (a 7)])), (a 7, .inl (cA, 12, .inl (zF Wt))), (a 8, .inr (6, [.ref (a 9)])), (a 9, .inl (cA, 12, .inl (zF Cp)))] H := hP
  have hD : va_D _ [(a 1, .inr (5, [.ref (a 2), .ref (a 4), .ref (a 6), .ref (a 8), .int (iI N)])), (a 2, .inr (6, [.ref (a 3)])), (a 3, .inl (cA, 12, .inl (zF (zU Xs N x)))), (a 4, .inr (6, [.ref (a 5)])), (a 5, .inl (cA, 12, .inl (zF Ys))), (a 6, .inr (6, [.ref (a 7)])), (a 7, .inl (cA, 12, .inl (zF Wt))), (a 8, .inr (6, [.ref (a 9)])), (a 9, .inl (cA, 12, .inl (zF Cp)))] := hD
  refine lv_aload_n hx hb dX4_add_16 rfl (lv_at hl 1 rfl) ?_
  refine va_get (ci := 5) (v := .ref (a 4)) (C := RX4) (T := TX4) (N := 5) hx hb hts iz_X4_add_X4 hown hK hP 0 rfl rfl 1 (by decide) (hts (.fieldLink RX4 16 "PowerPlot$Places" "ys" "LPowerPlot$Row;") (by decide +kernel)) (fun _ h9 => h9) rfl dX4_add_17 ?_
  refine lv_iload hx hb dX4_add_20 (lv_at hl 0 rfl) ?_
  refine lv_iload_n hx hb dX4_add_22 rfl (lv_at hl 3 rfl) ?_
  refine zc_wv (wr := [(a 1, .inr (5, [.ref (a 2), .ref (a 4), .ref (a 6), .ref (a 8), .int (iI N)])), (a 2, .inr (6, [.ref (a 3)])), (a 3, .inl (cA, 12, .inl (zF (zU Xs N x)))), (a 6, .inr (6, [.ref (a 7)])), (a 7, .inl (cA, 12, .inl (zF Wt))), (a 8, .inr (6, [.ref (a 9)])), (a 9, .inl (cA, 12, .inl (zF Cp)))]) (As := [.int (iI N), .int (iI y)]) (rest := []) ⟨hx, hb, hml, hown, hts⟩ (c_X5_put l D _ tys cA hty (a 4) (a 5) Ys N y (by omega)) (cwV 2 hts gX4_add_X5_put rfl rfl rfl (by decide +kernel) ⟨(Nat.le_of_ble_eq_true rfl), (Nat.le_of_ble_eq_true rfl)⟩) hP hK hD hS hA [3, 4] rfl rfl rfl rfl [0, 1, 2, 5, 6, 7, 8] [0, 1, 2, 7, 8, 3, 4, 5, 6] rfl rfl (by decide) (fun _ => rfl) rfl rfl hl.1 rfl (Nat.le_of_ble_eq_true rfl) dX4_add_23 ⟨Nat.zero_le _, Nat.zero_le _⟩ (ws1 := fun (_ : Unit) => [(a 1, .inr (5, [.ref (a 2), .ref (a 4), .ref (a 6), .ref (a 8), .int (iI N)])), (a 2, .inr (6, [.ref (a 3)])), (a 3, .inl (cA, 12, .inl (zF (zU Xs N x)))), (a 4, .inr (6, [.ref (a 5)])), (a 5, .inl (cA, 12, .inl (zF (zU Ys N y)))), (a 6, .inr (6, [.ref (a 7)])), (a 7, .inl (cA, 12, .inl (zF Wt))), (a 8, .inr (6, [.ref (a 9)])), (a 9, .inl (cA, 12, .inl (zF Cp)))]) (fun u23 H locs w23 hP hD hS => ?_)
  have hP : va_P D vwCl [(a 1, .inr (5, [.ref (a 2), .ref (a 4), .ref (a 6), .ref (a 8), .int (iI N)])), (a 2, .inr (6, [.ref (a 3)])), (a 3, .inl (cA, 12, .inl (zF (zU Xs N x)))), (a 4, .inr (6, [.ref (a 5)])), (a 5, .inl (cA, 12, .inl (zF (zU Ys N y)))), (a 6, .inr (6, [.ref (a 7)])), (a 7, .inl (cA, 12, .inl (zF Wt))), (a 8, .inr (6, [.ref (a 9)])), (a 9, .inl (cA, 12, .inl (zF Cp)))] H := hP
  have hD : va_D _ [(a 1, .inr (5, [.ref (a 2), .ref (a 4), .ref (a 6), .ref (a 8), .int (iI N)])), (a 2, .inr (6, [.ref (a 3)])), (a 3, .inl (cA, 12, .inl (zF (zU Xs N x)))), (a 4, .inr (6, [.ref (a 5)])), (a 5, .inl (cA, 12, .inl (zF (zU Ys N y)))), (a 6, .inr (6, [.ref (a 7)])), (a 7, .inl (cA, 12, .inl (zF Wt))), (a 8, .inr (6, [.ref (a 9)])), (a 9, .inl (cA, 12, .inl (zF Cp)))] := hD
  refine lv_aload_n hx hb dX4_add_26 rfl (lv_at hl 1 rfl) ?_
  refine va_get (ci := 5) (v := .ref (a 6)) (C := RX4) (T := TX4) (N := 5) hx hb hts iz_X4_add_X4 hown hK hP 0 rfl rfl 2 (by decide) (hts (.fieldLink RX4 19 "PowerPlot$Places" "weights" "LPowerPlot$Row;") (by decide +kernel)) (fun _ h9 => h9) rfl dX4_add_27 ?_
  refine lv_iload hx hb dX4_add_30 (lv_at hl 0 rfl) ?_
  refine lv_iload_n hx hb dX4_add_32 rfl (lv_at hl 4 rfl) ?_
  refine zc_wv (wr := [(a 1, .inr (5, [.ref (a 2), .ref (a 4), .ref (a 6), .ref (a 8), .int (iI N)])), (a 2, .inr (6, [.ref (a 3)])), (a 3, .inl (cA, 12, .inl (zF (zU Xs N x)))), (a 4, .inr (6, [.ref (a 5)])), (a 5, .inl (cA, 12, .inl (zF (zU Ys N y)))), (a 8, .inr (6, [.ref (a 9)])), (a 9, .inl (cA, 12, .inl (zF Cp)))]) (As := [.int (iI N), .int (iI w)]) (rest := []) ⟨hx, hb, hml, hown, hts⟩ (c_X5_put l D _ tys cA hty (a 6) (a 7) Wt N w (by omega)) (cwV 2 hts gX4_add_X5_put rfl rfl rfl (by decide +kernel) ⟨(Nat.le_of_ble_eq_true rfl), (Nat.le_of_ble_eq_true rfl)⟩) hP hK hD hS hA [5, 6] rfl rfl rfl rfl [0, 1, 2, 3, 4, 7, 8] [0, 1, 2, 3, 4, 7, 8, 5, 6] rfl rfl (by decide) (fun _ => rfl) rfl rfl hl.1 rfl (Nat.le_of_ble_eq_true rfl) dX4_add_33 ⟨Nat.zero_le _, Nat.zero_le _⟩ (ws1 := fun (_ : Unit) => [(a 1, .inr (5, [.ref (a 2), .ref (a 4), .ref (a 6), .ref (a 8), .int (iI N)])), (a 2, .inr (6, [.ref (a 3)])), (a 3, .inl (cA, 12, .inl (zF (zU Xs N x)))), (a 4, .inr (6, [.ref (a 5)])), (a 5, .inl (cA, 12, .inl (zF (zU Ys N y)))), (a 6, .inr (6, [.ref (a 7)])), (a 7, .inl (cA, 12, .inl (zF (zU Wt N w)))), (a 8, .inr (6, [.ref (a 9)])), (a 9, .inl (cA, 12, .inl (zF Cp)))]) (fun u33 H locs w33 hP hD hS => ?_)
  have hP : va_P D vwCl [(a 1, .inr (5, [.ref (a 2), .ref (a 4), .ref (a 6), .ref (a 8), .int (iI N)])), (a 2, .inr (6, [.ref (a 3)])), (a 3, .inl (cA, 12, .inl (zF (zU Xs N x)))), (a 4, .inr (6, [.ref (a 5)])), (a 5, .inl (cA, 12, .inl (zF (zU Ys N y)))), (a 6, .inr (6, [.ref (a 7)])), (a 7, .inl (cA, 12, .inl (zF (zU Wt N w)))), (a 8, .inr (6, [.ref (a 9)])), (a 9, .inl (cA, 12, .inl (zF Cp)))] H := hP
  have hD : va_D _ [(a 1, .inr (5, [.ref (a 2), .ref (a 4), .ref (a 6), .ref (a 8), .int (iI N)])), (a 2, .inr (6, [.ref (a 3)])), (a 3, .inl (cA, 12, .inl (zF (zU Xs N x)))), (a 4, .inr (6, [.ref (a 5)])), (a 5, .inl (cA, 12, .inl (zF (zU Ys N y)))), (a 6, .inr (6, [.ref (a 7)])), (a 7, .inl (cA, 12, .inl (zF (zU Wt N w)))), (a 8, .inr (6, [.ref (a 9)])), (a 9, .inl (cA, 12, .inl (zF Cp)))] := hD
  refine lv_aload_n hx hb dX4_add_36 rfl (lv_at hl 1 rfl) ?_
  refine lv_iload hx hb dX4_add_37 (lv_at hl 0 rfl) ?_
  refine lv_iconst (v := iI 1) hx hb dX4_add_39 rfl ?_
  refine zi_iadd hx hb dX4_add_40 ?_
  refine va_put (ci := 5) (v := .int (iI (N + 1))) (ty := .int) (C := RX4) (T := TX4) (N := 5) hx hb hts iz_X4_add_X4 tyX4 tyX4_ok nmX4 hown hK hP hD hS 0 rfl rfl 4 (by decide) (hts (.fieldLink RX4 25 "PowerPlot$Places" "count" "I") (by decide +kernel)) (fun _ h9 => h9) rfl (by decide +kernel) rfl rfl (Nat.le_of_ble_eq_true rfl) dX4_add_41 (fun H locs hP hD hS => ?_)
  have hP : va_P D vwCl [(a 1, .inr (5, [.ref (a 2), .ref (a 4), .ref (a 6), .ref (a 8), .int (iI (N + 1))])), (a 2, .inr (6, [.ref (a 3)])), (a 3, .inl (cA, 12, .inl (zF (zU Xs N x)))), (a 4, .inr (6, [.ref (a 5)])), (a 5, .inl (cA, 12, .inl (zF (zU Ys N y)))), (a 6, .inr (6, [.ref (a 7)])), (a 7, .inl (cA, 12, .inl (zF (zU Wt N w)))), (a 8, .inr (6, [.ref (a 9)])), (a 9, .inl (cA, 12, .inl (zF Cp)))] H := hP
  have hD : va_D _ [(a 1, .inr (5, [.ref (a 2), .ref (a 4), .ref (a 6), .ref (a 8), .int (iI (N + 1))])), (a 2, .inr (6, [.ref (a 3)])), (a 3, .inl (cA, 12, .inl (zF (zU Xs N x)))), (a 4, .inr (6, [.ref (a 5)])), (a 5, .inl (cA, 12, .inl (zF (zU Ys N y)))), (a 6, .inr (6, [.ref (a 7)])), (a 7, .inl (cA, 12, .inl (zF (zU Wt N w)))), (a 8, .inr (6, [.ref (a 9)])), (a 9, .inl (cA, 12, .inl (zF Cp)))] := hD
  refine lv_iload hx hb dX4_add_44 (lv_at hl 0 rfl) ?_
  exact W.iret (v := iI N) hx hb hr (fun t ht hW => ⟨⟨iI N, (), rfl, ⟨congrArg iI (by rfl), trivial⟩, ⟨by rw [ht]; exact hP, hD⟩⟩, hS.F ht⟩) hS.2.2 dX4_add_46
