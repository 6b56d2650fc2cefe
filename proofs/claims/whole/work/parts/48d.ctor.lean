theorem iz_X5_init_X5 : ∀ w ∈ u_ws RX5 TX5 1, w ∈ wsX5_init := by decide +kernel
set_option maxHeartbeats 4000000 in
set_option maxRecDepth 100000 in
/-- X5_init -/
theorem c_X5_init (l : Launch) (D : va_G) (sz : Nat) (tys : List (ClassId × FieldType)) (cA : ClassId) (hty : tys[0]? = some (cA, .int)) (h0 : Nat)  : Met l yX5_init wsX5_init ({ frames := 1, cells := 1, slots := 12, locals := 14 }) (zPn D [.ref h0] sz [(h0, .inr (6, [.null]))] tys) (zWv (fun (u : Nat) => True) D (fun (u : Nat) => [(h0, .inr (6, [.ref u])), (u, .inl (cA, 12, .inl (zF (fun _ => 0))))]) [(h0, .inr (6, [.null]))] sz) 1 12 (va_A [(h0, .inr (6, [.null]))] sz) := by
  refine Met.ofW (cc := cX5_init) (maxL := 1) (ret := none) (by decide +kernel) rfl ?_
  intro p e s m args below meth c s₁ B hml hv
  obtain ⟨rfl, hsz, hP, hK, hD0, hN⟩ := hv
  have hx := B.exec
  have hb := B.bytes
  have hr := B.returns
  have hts := atoms_spec (ws := wsX5_init) B.pre
  have hown : s.vm.findClass RX5 = some m.cls := findClass_of_methodNamed B.named
  have hlocks := B.notSynchronized
  have hin : meth.name = "<init>" := (name_of_methodNamed B.named B.method).1
  subst hsz
  have hD : va_D (va_A [(h0, .inr (6, [.null]))] s.heap.size) [(h0, .inr (6, [.null]))] := hD0.self
  have hS : va_S (va_A [(h0, .inr (6, [.null]))] s.heap.size) s.heap s.heap [] := va_S.rf
  have hA : ∀ q9 : Nat, s.heap.size ≤ q9 → (va_A [(h0, .inr (6, [.null]))] s.heap.size) q9 := fun q9 h => Or.inr h
  have hl := lv_entry ([.ref h0]) (n := 1) (Nat.le_of_ble_eq_true rfl)
  rw [lg_entry_eq]
  generalize (lg_sl ([.ref h0]) ++ List.replicate (1 - (lg_sl ([.ref h0])).length) Slot.unset).toArray = ls at hl ⊢
  have hl : lv_has ls 1 [(0, .ref h0)] := hl
  refine lv_aload_n hx hb dX5_init_0 rfl (lv_at hl 0 rfl) ?_
  refine W.objInit hx hb hown (hts (.methodLink RX5 3 objectInit) (by decide +kernel)) (hts (.instanceMethod objectInit) (by decide +kernel)) (hts _ (List.mem_cons_of_mem _ (List.mem_append_left _ (List.mem_of_getElem? (i := 2) rfl)))) rfl (by rw [hml]; exact hl.1) rfl dX5_init_1 (Nat.le_of_ble_eq_true rfl) (Nat.le_of_ble_eq_true rfl) ?_
  refine W.eq (g2 := F0 m 4 ls []) rfl ?_
  refine lv_aload_n hx hb dX5_init_4 rfl (lv_at hl 0 rfl) ?_
  refine lv_bipush (v := iI 12) hx hb dX5_init_5 (by decide +kernel) ?_
  refine zi_newa (n := 12) (N' := 12) hx hb (hts (.arrayClass .int) (by decide +kernel)) hK hP hD hS hA hty (by decide) (by decide) (by decide) (Nat.le_of_ble_eq_true rfl) (Nat.le_of_ble_eq_true rfl) dX5_init_7 (fun n7 H hP hD hS => ?_)
  have hP : va_P D vwCl [(h0, .inr (6, [.null])), (n7, .inl (cA, 12, .inl (zF (fun _ => 0))))] H := hP
  have hD : va_D _ [(h0, .inr (6, [.null])), (n7, .inl (cA, 12, .inl (zF (fun _ => 0))))] := hD
  refine va_putF (ci := 6) (v := .ref n7) (ty := .array .int) (C := RX5) (T := TX5) (N := 1) hx hb hts iz_X5_init_X5 tyX5 tyX5_ok nmX5 hown hK hP hD hS 0 rfl rfl 0 (by decide) (hts (.fieldLink RX5 9 "PowerPlot$Row" "numbers" "[I") (by decide +kernel)) (fun _ h9 => h9) rfl hin rfl (by decide +kernel) rfl rfl (Nat.le_of_ble_eq_true rfl) dX5_init_9 (fun H locs hP hD hS => ?_)
  have hP : va_P D vwCl [(h0, .inr (6, [.ref n7])), (n7, .inl (cA, 12, .inl (zF (fun _ => 0))))] H := hP
  have hD : va_D _ [(h0, .inr (6, [.ref n7])), (n7, .inl (cA, 12, .inl (zF (fun _ => 0))))] := hD
  exact W.vret hx hb hr (fun t ht hW => ⟨⟨n7, rfl, trivial, ⟨by rw [ht]; exact hP, hD⟩⟩, hS.F ht⟩) hS.2.2 dX5_init_12
theorem iz_X4_init_X5 : ∀ w ∈ u_ws RX5 TX5 1, w ∈ wsX4_init := by decide +kernel
theorem iz_X4_init_X4 : ∀ w ∈ u_ws RX4 TX4 5, w ∈ wsX4_init := by decide +kernel
set_option maxHeartbeats 4000000 in
set_option maxRecDepth 100000 in
/-- X4_init -/
theorem c_X4_init (l : Launch) (D : va_G) (sz : Nat) (tys : List (ClassId × FieldType)) (cA : ClassId) (hty : tys[0]? = some (cA, .int)) (h0 : Nat)  : Met l yX4_init wsX4_init ({ frames := 2, cells := 8, slots := 52, locals := 40 }) (zPn D [.ref h0] sz [(h0, .inr (5, [.null, .null, .null, .null, .int (iI 0)]))] tys) (zWv (fun (u : Nat × Nat × Nat × Nat × Nat × Nat × Nat × Nat) => True) D (fun (u : Nat × Nat × Nat × Nat × Nat × Nat × Nat × Nat) => [(h0, .inr (5, [.ref u.1, .ref u.2.2.1, .ref u.2.2.2.2.1, .ref u.2.2.2.2.2.2.1, .int (iI 0)])), (u.1, .inr (6, [.ref u.2.1])), (u.2.1, .inl (cA, 12, .inl (zF (fun _ => 0)))), (u.2.2.1, .inr (6, [.ref u.2.2.2.1])), (u.2.2.2.1, .inl (cA, 12, .inl (zF (fun _ => 0)))), (u.2.2.2.2.1, .inr (6, [.ref u.2.2.2.2.2.1])), (u.2.2.2.2.2.1, .inl (cA, 12, .inl (zF (fun _ => 0)))), (u.2.2.2.2.2.2.1, .inr (6, [.ref u.2.2.2.2.2.2.2])), (u.2.2.2.2.2.2.2, .inl (cA, 12, .inl (zF (fun _ => 0))))]) [(h0, .inr (5, [.null, .null, .null, .null, .int (iI 0)]))] sz) 8 52 (va_A [(h0, .inr (5, [.null, .null, .null, .null, .int (iI 0)]))] sz) := by
  refine Met.ofW (cc := cX4_init) (maxL := 1) (ret := none) (by decide +kernel) rfl ?_
  intro p e s m args below meth c s₁ B hml hv
  obtain ⟨rfl, hsz, hP, hK, hD0, hN⟩ := hv
  have hx := B.exec
  have hb := B.bytes
  have hr := B.returns
  have hts := atoms_spec (ws := wsX4_init) B.pre
  have hown : s.vm.findClass RX4 = some m.cls := findClass_of_methodNamed B.named
  have hlocks := B.notSynchronized
  have hin : meth.name = "<init>" := (name_of_methodNamed B.named B.method).1
  subst hsz
  have hD : va_D (va_A [(h0, .inr (5, [.null, .null, .null, .null, .int (iI 0)]))] s.heap.size) [(h0, .inr (5, [.null, .null, .null, .null, .int (iI 0)]))] := hD0.self
  have hS : va_S (va_A [(h0, .inr (5, [.null, .null, .null, .null, .int (iI 0)]))] s.heap.size) s.heap s.heap [] := va_S.rf
  have hA : ∀ q9 : Nat, s.heap.size ≤ q9 → (va_A [(h0, .inr (5, [.null, .null, .null, .null, .int (iI 0)]))] s.heap.size) q9 := fun q9 h => Or.inr h
  have hl := lv_entry ([.ref h0]) (n := 1) (Nat.le_of_ble_eq_true rfl)
  rw [lg_entry_eq]
  generalize (lg_sl ([.ref h0]) ++ List.replicate (1 - (lg_sl ([.ref h0])).length) Slot.unset).toArray = ls at hl ⊢
  have hl : lv_has ls 1 [(0, .ref h0)] := hl
  refine lv_aload_n hx hb dX4_init_0 rfl (lv_at hl 0 rfl) ?_
  refine W.objInit hx hb hown (hts (.methodLink RX4 1 objectInit) (by decide +kernel)) (hts (.instanceMethod objectInit) (by decide +kernel)) (hts _ (List.mem_cons_of_mem _ (List.mem_append_left _ (List.mem_of_getElem? (i := 2) rfl)))) rfl (by rw [hml]; exact hl.1) rfl dX4_init_1 (Nat.le_of_ble_eq_true rfl) (Nat.le_of_ble_eq_true rfl) ?_
  refine W.eq (g2 := F0 m 4 ls []) rfl ?_
  refine lv_aload_n hx hb dX4_init_4 rfl (lv_at hl 0 rfl) ?_
  refine va_new (ci := 6) (fs := [.null]) (C := RX5) (T := TX5) (N := 1) hx hb hts iz_X4_init_X5 tyX5 tyX5_ok hown (hts (.classLink RX4 7 RX5) (by decide +kernel)) (hts (.instantiable RX5 1) (by decide +kernel)) (hts (.initialized RX5) (by decide +kernel)) hK hP hD hS hA rfl (fun j hj => by rcases (show j = 0 by omega) with rfl <;> first | exact congrArg Value.int iI_0.symm | exact congrArg Value.long lI_0.symm | rfl) (Nat.le_of_ble_eq_true rfl) (Nat.le_of_ble_eq_true rfl) dX4_init_5 (fun o5 H hP hD hS => ?_)
  have hP : va_P D vwCl [(h0, .inr (5, [.null, .null, .null, .null, .int (iI 0)])), (o5, .inr (6, [.null]))] H := hP
  have hD : va_D _ [(h0, .inr (5, [.null, .null, .null, .null, .int (iI 0)])), (o5, .inr (6, [.null]))] := hD
  refine lv_dup hx hb dX4_init_8 rfl ?_
  refine zn_N (wr := [(h0, .inr (5, [.null, .null, .null, .null, .int (iI 0)]))]) (As := []) (rest := [.ref o5, .ref h0]) ⟨hx, hb, hml, hown, hts⟩ (c_X5_init l D _ tys cA hty o5) ⟨va_cnB 0 hts ggX4_init_X5_init rfl rfl rfl hN.2.2.2.1 (hts (.initialized RX5) (by decide +kernel)) (by decide +kernel) ⟨(Nat.le_of_ble_eq_true rfl), (Nat.le_of_ble_eq_true rfl)⟩, rfl, hts (.instanceMethod yX5_init) (by decide +kernel)⟩ hN hP hK hD hS hA [1] rfl rfl [0] [0, 1, 2] rfl rfl (by decide) (fun _ => rfl) rfl rfl hl.1 rfl (Nat.le_of_ble_eq_true rfl) dX4_init_9 ⟨(Nat.le_of_ble_eq_true rfl), (Nat.le_of_ble_eq_true rfl)⟩ (ws1 := fun (u9 : Nat) => [(h0, .inr (5, [.null, .null, .null, .null, .int (iI 0)])), (o5, .inr (6, [.ref u9])), (u9, .inl (cA, 12, .inl (zF (fun _ => 0))))]) (fun u9 H locs w9 hP hD hS => ?_)
  obtain ⟨n9_0, rfl⟩ : ∃ z, z = u9 := ⟨_, rfl⟩
  have hP : va_P D vwCl [(h0, .inr (5, [.null, .null, .null, .null, .int (iI 0)])), (o5, .inr (6, [.ref n9_0])), (n9_0, .inl (cA, 12, .inl (zF (fun _ => 0))))] H := hP
  have hD : va_D _ [(h0, .inr (5, [.null, .null, .null, .null, .int (iI 0)])), (o5, .inr (6, [.ref n9_0])), (n9_0, .inl (cA, 12, .inl (zF (fun _ => 0))))] := hD
  refine va_putF (ci := 5) (v := .ref o5) (ty := .object "PowerPlot$Row") (C := RX4) (T := TX4) (N := 5) hx hb hts iz_X4_init_X4 tyX4 tyX4_ok nmX4 hown hK hP hD hS 0 rfl rfl 0 (by decide) (hts (.fieldLink RX4 10 "PowerPlot$Places" "xs" "LPowerPlot$Row;") (by decide +kernel)) (fun _ h9 => h9) rfl hin rfl (by decide +kernel) rfl rfl (Nat.le_of_ble_eq_true rfl) dX4_init_12 (fun H locs hP hD hS => ?_)
  have hP : va_P D vwCl [(h0, .inr (5, [.ref o5, .null, .null, .null, .int (iI 0)])), (o5, .inr (6, [.ref n9_0])), (n9_0, .inl (cA, 12, .inl (zF (fun _ => 0))))] H := hP
  have hD : va_D _ [(h0, .inr (5, [.ref o5, .null, .null, .null, .int (iI 0)])), (o5, .inr (6, [.ref n9_0])), (n9_0, .inl (cA, 12, .inl (zF (fun _ => 0))))] := hD
  refine lv_aload_n hx hb dX4_init_15 rfl (lv_at hl 0 rfl) ?_
  refine va_new (ci := 6) (fs := [.null]) (C := RX5) (T := TX5) (N := 1) hx hb hts iz_X4_init_X5 tyX5 tyX5_ok hown (hts (.classLink RX4 7 RX5) (by decide +kernel)) (hts (.instantiable RX5 1) (by decide +kernel)) (hts (.initialized RX5) (by decide +kernel)) hK hP hD hS hA rfl (fun j hj => by rcases (show j = 0 by omega) with rfl <;> first | exact congrArg Value.int iI_0.symm | exact congrArg Value.long lI_0.symm | rfl) (Nat.le_of_ble_eq_true rfl) (Nat.le_of_ble_eq_true rfl) dX4_init_16 (fun o16 H hP hD hS => ?_)
  have hP : va_P D vwCl [(h0, .inr (5, [.ref o5, .null, .null, .null, .int (iI 0)])), (o5, .inr (6, [.ref n9_0])), (n9_0, .inl (cA, 12, .inl (zF (fun _ => 0)))), (o16, .inr (6, [.null]))] H := hP
  have hD : va_D _ [(h0, .inr (5, [.ref o5, .null, .null, .null, .int (iI 0)])), (o5, .inr (6, [.ref n9_0])), (n9_0, .inl (cA, 12, .inl (zF (fun _ => 0)))), (o16, .inr (6, [.null]))] := hD
  refine lv_dup hx hb dX4_init_19 rfl ?_
  refine zn_N (wr := [(h0, .inr (5, [.ref o5, .null, .null, .null, .int (iI 0)])), (o5, .inr (6, [.ref n9_0])), (n9_0, .inl (cA, 12, .inl (zF (fun _ => 0))))]) (As := []) (rest := [.ref o16, .ref h0]) ⟨hx, hb, hml, hown, hts⟩ (c_X5_init l D _ tys cA hty o16) ⟨va_cnB 0 hts ggX4_init_X5_init rfl rfl rfl hN.2.2.2.1 (hts (.initialized RX5) (by decide +kernel)) (by decide +kernel) ⟨(Nat.le_of_ble_eq_true rfl), (Nat.le_of_ble_eq_true rfl)⟩, rfl, hts (.instanceMethod yX5_init) (by decide +kernel)⟩ hN hP hK hD hS hA [3] rfl rfl [0, 1, 2] [0, 1, 2, 3, 4] rfl rfl (by decide) (fun _ => rfl) rfl rfl hl.1 rfl (Nat.le_of_ble_eq_true rfl) dX4_init_20 ⟨(Nat.le_of_ble_eq_true rfl), (Nat.le_of_ble_eq_true rfl)⟩ (ws1 := fun (u9 : Nat) => [(h0, .inr (5, [.ref o5, .null, .null, .null, .int (iI 0)])), (o5, .inr (6, [.ref n9_0])), (n9_0, .inl (cA, 12, .inl (zF (fun _ => 0)))), (o16, .inr (6, [.ref u9])), (u9, .inl (cA, 12, .inl (zF (fun _ => 0))))]) (fun u20 H locs w20 hP hD hS => ?_)
  obtain ⟨n20_0, rfl⟩ : ∃ z, z = u20 := ⟨_, rfl⟩
  have hP : va_P D vwCl [(h0, .inr (5, [.ref o5, .null, .null, .null, .int (iI 0)])), (o5, .inr (6, [.ref n9_0])), (n9_0, .inl (cA, 12, .inl (zF (fun _ => 0)))), (o16, .inr (6, [.ref n20_0])), (n20_0, .inl (cA, 12, .inl (zF (fun _ => 0))))] H := hP
  have hD : va_D _ [(h0, .inr (5, [.ref o5, .null, .null, .null, .int (iI 0)])), (o5, .inr (6, [.ref n9_0])), (n9_0, .inl (cA, 12, .inl (zF (fun _ => 0)))), (o16, .inr (6, [.ref n20_0])), (n20_0, .inl (cA, 12, .inl (zF (fun _ => 0))))] := hD
  refine va_putF (ci := 5) (v := .ref o16) (ty := .object "PowerPlot$Row") (C := RX4) (T := TX4) (N := 5) hx hb hts iz_X4_init_X4 tyX4 tyX4_ok nmX4 hown hK hP hD hS 0 rfl rfl 1 (by decide) (hts (.fieldLink RX4 16 "PowerPlot$Places" "ys" "LPowerPlot$Row;") (by decide +kernel)) (fun _ h9 => h9) rfl hin rfl (by decide +kernel) rfl rfl (Nat.le_of_ble_eq_true rfl) dX4_init_23 (fun H locs hP hD hS => ?_)
  have hP : va_P D vwCl [(h0, .inr (5, [.ref o5, .ref o16, .null, .null, .int (iI 0)])), (o5, .inr (6, [.ref n9_0])), (n9_0, .inl (cA, 12, .inl (zF (fun _ => 0)))), (o16, .inr (6, [.ref n20_0])), (n20_0, .inl (cA, 12, .inl (zF (fun _ => 0))))] H := hP
  have hD : va_D _ [(h0, .inr (5, [.ref o5, .ref o16, .null, .null, .int (iI 0)])), (o5, .inr (6, [.ref n9_0])), (n9_0, .inl (cA, 12, .inl (zF (fun _ => 0)))), (o16, .inr (6, [.ref n20_0])), (n20_0, .inl (cA, 12, .inl (zF (fun _ => 0))))] := hD
  refine lv_aload_n hx hb dX4_init_26 rfl (lv_at hl 0 rfl) ?_
  refine va_new (ci := 6) (fs := [.null]) (C := RX5) (T := TX5) (N := 1) hx hb hts iz_X4_init_X5 tyX5 tyX5_ok hown (hts (.classLink RX4 7 RX5) (by decide +kernel)) (hts (.instantiable RX5 1) (by decide +kernel)) (hts (.initialized RX5) (by decide +kernel)) hK hP hD hS hA rfl (fun j hj => by rcases (show j = 0 by omega) with rfl <;> first | exact congrArg Value.int iI_0.symm | exact congrArg Value.long lI_0.symm | rfl) (Nat.le_of_ble_eq_true rfl) (Nat.le_of_ble_eq_true rfl) dX4_init_27 (fun o27 H hP hD hS => ?_)
  have hP : va_P D vwCl [(h0, .inr (5, [.ref o5, .ref o16, .null, .null, .int (iI 0)])), (o5, .inr (6, [.ref n9_0])), (n9_0, .inl (cA, 12, .inl (zF (fun _ => 0)))), (o16, .inr (6, [.ref n20_0])), (n20_0, .inl (cA, 12, .inl (zF (fun _ => 0)))), (o27, .inr (6, [.null]))] H := hP
  have hD : va_D _ [(h0, .inr (5, [.ref o5, .ref o16, .null, .null, .int (iI 0)])), (o5, .inr (6, [.ref n9_0])), (n9_0, .inl (cA, 12, .inl (zF (fun _ => 0)))), (o16, .inr (6, [.ref n20_0])), (n20_0, .inl (cA, 12, .inl (zF (fun _ => 0)))), (o27, .inr (6, [.null]))] := hD
  refine lv_dup hx hb dX4_init_30 rfl ?_
  refine zn_N (wr := [(h0, .inr (5, [.ref o5, .ref o16, .null, .null, .int (iI 0)])), (o5, .inr (6, [.ref n9_0])), (n9_0, .inl (cA, 12, .inl (zF (fun _ => 0)))), (o16, .inr (6, [.ref n20_0])), (n20_0, .inl (cA, 12, .inl (zF (fun _ => 0))))]) (As := []) (rest := [.ref o27, .ref h0]) ⟨hx, hb, hml, hown, hts⟩ (c_X5_init l D _ tys cA hty o27) ⟨va_cnB 0 hts ggX4_init_X5_init rfl rfl rfl hN.2.2.2.1 (hts (.initialized RX5) (by decide +kernel)) (by decide +kernel) ⟨(Nat.le_of_ble_eq_true rfl), (Nat.le_of_ble_eq_true rfl)⟩, rfl, hts (.instanceMethod yX5_init) (by decide +kernel)⟩ hN hP hK hD hS hA [5] rfl rfl [0, 1, 2, 3, 4] [0, 1, 2, 3, 4, 5, 6] rfl rfl (by decide) (fun _ => rfl) rfl rfl hl.1 rfl (Nat.le_of_ble_eq_true rfl) dX4_init_31 ⟨(Nat.le_of_ble_eq_true rfl), (Nat.le_of_ble_eq_true rfl)⟩ (ws1 := fun (u9 : Nat) => [(h0, .inr (5, [.ref o5, .ref o16, .null, .null, .int (iI 0)])), (o5, .inr (6, [.ref n9_0])), (n9_0, .inl (cA, 12, .inl (zF (fun _ => 0)))), (o16, .inr (6, [.ref n20_0])), (n20_0, .inl (cA, 12, .inl (zF (fun _ => 0)))), (o27, .inr (6, [.ref u9])), (u9, .inl (cA, 12, .inl (zF (fun _ => 0))))]) (fun u31 H locs w31 hP hD hS => ?_)
  obtain ⟨n31_0, rfl⟩ : ∃ z, z = u31 := ⟨_, rfl⟩
  have hP : va_P D vwCl [(h0, .inr (5, [.ref o5, .ref o16, .null, .null, .int (iI 0)])), (o5, .inr (6, [.ref n9_0])), (n9_0, .inl (cA, 12, .inl (zF (fun _ => 0)))), (o16, .inr (6, [.ref n20_0])), (n20_0, .inl (cA, 12, .inl (zF (fun _ => 0)))), (o27, .inr (6, [.ref n31_0])), (n31_0, .inl (cA, 12, .inl (zF (fun _ => 0))))] H := hP
  have hD : va_D _ [(h0, .inr (5, [.ref o5, .ref o16, .null, .null, .int (iI 0)])), (o5, .inr (6, [.ref n9_0])), (n9_0, .inl (cA, 12, .inl (zF (fun _ => 0)))), (o16, .inr (6, [.ref n20_0])), (n20_0, .inl (cA, 12, .inl (zF (fun _ => 0)))), (o27, .inr (6, [.ref n31_0])), (n31_0, .inl (cA, 12, .inl (zF (fun _ => 0))))] := hD
  refine va_putF (ci := 5) (v := .ref o27) (ty := .object "PowerPlot$Row") (C := RX4) (T := TX4) (N := 5) hx hb hts iz_X4_init_X4 tyX4 tyX4_ok nmX4 hown hK hP hD hS 0 rfl rfl 2 (by decide) (hts (.fieldLink RX4 19 "PowerPlot$Places" "weights" "LPowerPlot$Row;") (by decide +kernel)) (fun _ h9 => h9) rfl hin rfl (by decide +kernel) rfl rfl (Nat.le_of_ble_eq_true rfl) dX4_init_34 (fun H locs hP hD hS => ?_)
  have hP : va_P D vwCl [(h0, .inr (5, [.ref o5, .ref o16, .ref o27, .null, .int (iI 0)])), (o5, .inr (6, [.ref n9_0])), (n9_0, .inl (cA, 12, .inl (zF (fun _ => 0)))), (o16, .inr (6, [.ref n20_0])), (n20_0, .inl (cA, 12, .inl (zF (fun _ => 0)))), (o27, .inr (6, [.ref n31_0])), (n31_0, .inl (cA, 12, .inl (zF (fun _ => 0))))] H := hP
  have hD : va_D _ [(h0, .inr (5, [.ref o5, .ref o16, .ref o27, .null, .int (iI 0)])), (o5, .inr (6, [.ref n9_0])), (n9_0, .inl (cA, 12, .inl (zF (fun _ => 0)))), (o16, .inr (6, [.ref n20_0])), (n20_0, .inl (cA, 12, .inl (zF (fun _ => 0)))), (o27, .inr (6, [.ref n31_0])), (n31_0, .inl (cA, 12, .inl (zF (fun _ => 0))))] := hD
  refine lv_aload_n hx hb dX4_init_37 rfl (lv_at hl 0 rfl) ?_
  refine va_new (ci := 6) (fs := [.null]) (C := RX5) (T := TX5) (N := 1) hx hb hts iz_X4_init_X5 tyX5 tyX5_ok hown (hts (.classLink RX4 7 RX5) (by decide +kernel)) (hts (.instantiable RX5 1) (by decide +kernel)) (hts (.initialized RX5) (by decide +kernel)) hK hP hD hS hA rfl (fun j hj => by rcases (show j = 0 by omega) with rfl <;> first | exact congrArg Value.int iI_0.symm | exact congrArg Value.long lI_0.symm | rfl) (Nat.le_of_ble_eq_true rfl) (Nat.le_of_ble_eq_true rfl) dX4_init_38 (fun o38 H hP hD hS => ?_)
  have hP : va_P D vwCl [(h0, .inr (5, [.ref o5, .ref o16, .ref o27, .null, .int (iI 0)])), (o5, .inr (6, [.ref n9_0])), (n9_0, .inl (cA, 12, .inl (zF (fun _ => 0)))), (o16, .inr (6, [.ref n20_0])), (n20_0, .inl (cA, 12, .inl (zF (fun _ => 0)))), (o27, .inr (6, [.ref n31_0])), (n31_0, .inl (cA, 12, .inl (zF (fun _ => 0)))), (o38, .inr (6, [.null]))] H := hP
  have hD : va_D _ [(h0, .inr (5, [.ref o5, .ref o16, .ref o27, .null, .int (iI 0)])), (o5, .inr (6, [.ref n9_0])), (n9_0, .inl (cA, 12, .inl (zF (fun _ => 0)))), (o16, .inr (6, [.ref n20_0])), (n20_0, .inl (cA, 12, .inl (zF (fun _ => 0)))), (o27, .inr (6, [.ref n31_0])), (n31_0, .inl (cA, 12, .inl (zF (fun _ => 0)))), (o38, .inr (6, [.null]))] := hD
  refine lv_dup hx hb dX4_init_41 rfl ?_
  refine zn_N (wr := [(h0, .inr (5, [.ref o5, .ref o16, .ref o27, .null, .int (iI 0)])), (o5, .inr (6, [.ref n9_0])), (n9_0, .inl (cA, 12, .inl (zF (fun _ => 0)))), (o16, .inr (6, [.ref n20_0])), (n20_0, .inl (cA, 12, .inl (zF (fun _ => 0)))), (o27, .inr (6, [.ref n31_0])), (n31_0, .inl (cA, 12, .inl (zF (fun _ => 0))))]) (As := []) (rest := [.ref o38, .ref h0]) ⟨hx, hb, hml, hown, hts⟩ (c_X5_init l D _ tys cA hty o38) ⟨va_cnB 0 hts ggX4_init_X5_init rfl rfl rfl hN.2.2.2.1 (hts (.initialized RX5) (by decide +kernel)) (by decide +kernel) ⟨(Nat.le_of_ble_eq_true rfl), (Nat.le_of_ble_eq_true rfl)⟩, rfl, hts (.instanceMethod yX5_init) (by decide +kernel)⟩ hN hP hK hD hS hA [7] rfl rfl [0, 1, 2, 3, 4, 5, 6] [0, 1, 2, 3, 4, 5, 6, 7, 8] rfl rfl (by decide) (fun _ => rfl) rfl rfl hl.1 rfl (Nat.le_of_ble_eq_true rfl) dX4_init_42 ⟨(Nat.le_of_ble_eq_true rfl), (Nat.le_of_ble_eq_true rfl)⟩ (ws1 := fun (u9 : Nat) => [(h0, .inr (5, [.ref o5, .ref o16, .ref o27, .null, .int (iI 0)])), (o5, .inr (6, [.ref n9_0])), (n9_0, .inl (cA, 12, .inl (zF (fun _ => 0)))), (o16, .inr (6, [.ref n20_0])), (n20_0, .inl (cA, 12, .inl (zF (fun _ => 0)))), (o27, .inr (6, [.ref n31_0])), (n31_0, .inl (cA, 12, .inl (zF (fun _ => 0)))), (o38, .inr (6, [.ref u9])), (u9, .inl (cA, 12, .inl (zF (fun _ => 0))))]) (fun u42 H locs w42 hP hD hS => ?_)
  obtain ⟨n42_0, rfl⟩ : ∃ z, z = u42 := ⟨_, rfl⟩
  have hP : va_P D vwCl [(h0, .inr (5, [.ref o5, .ref o16, .ref o27, .null, .int (iI 0)])), (o5, .inr (6, [.ref n9_0])), (n9_0, .inl (cA, 12, .inl (zF (fun _ => 0)))), (o16, .inr (6, [.ref n20_0])), (n20_0, .inl (cA, 12, .inl (zF (fun _ => 0)))), (o27, .inr (6, [.ref n31_0])), (n31_0, .inl (cA, 12, .inl (zF (fun _ => 0)))), (o38, .inr (6, [.ref n42_0])), (n42_0, .inl (cA, 12, .inl (zF (fun _ => 0))))] H := hP
  have hD : va_D _ [(h0, .inr (5, [.ref o5, .ref o16, .ref o27, .null, .int (iI 0)])), (o5, .inr (6, [.ref n9_0])), (n9_0, .inl (cA, 12, .inl (zF (fun _ => 0)))), (o16, .inr (6, [.ref n20_0])), (n20_0, .inl (cA, 12, .inl (zF (fun _ => 0)))), (o27, .inr (6, [.ref n31_0])), (n31_0, .inl (cA, 12, .inl (zF (fun _ => 0)))), (o38, .inr (6, [.ref n42_0])), (n42_0, .inl (cA, 12, .inl (zF (fun _ => 0))))] := hD
  refine va_putF (ci := 5) (v := .ref o38) (ty := .object "PowerPlot$Row") (C := RX4) (T := TX4) (N := 5) hx hb hts iz_X4_init_X4 tyX4 tyX4_ok nmX4 hown hK hP hD hS 0 rfl rfl 3 (by decide) (hts (.fieldLink RX4 22 "PowerPlot$Places" "capacities" "LPowerPlot$Row;") (by decide +kernel)) (fun _ h9 => h9) rfl hin rfl (by decide +kernel) rfl rfl (Nat.le_of_ble_eq_true rfl) dX4_init_45 (fun H locs hP hD hS => ?_)
  have hP : va_P D vwCl [(h0, .inr (5, [.ref o5, .ref o16, .ref o27, .ref o38, .int (iI 0)])), (o5, .inr (6, [.ref n9_0])), (n9_0, .inl (cA, 12, .inl (zF (fun _ => 0)))), (o16, .inr (6, [.ref n20_0])), (n20_0, .inl (cA, 12, .inl (zF (fun _ => 0)))), (o27, .inr (6, [.ref n31_0])), (n31_0, .inl (cA, 12, .inl (zF (fun _ => 0)))), (o38, .inr (6, [.ref n42_0])), (n42_0, .inl (cA, 12, .inl (zF (fun _ => 0))))] H := hP
  have hD : va_D _ [(h0, .inr (5, [.ref o5, .ref o16, .ref o27, .ref o38, .int (iI 0)])), (o5, .inr (6, [.ref n9_0])), (n9_0, .inl (cA, 12, .inl (zF (fun _ => 0)))), (o16, .inr (6, [.ref n20_0])), (n20_0, .inl (cA, 12, .inl (zF (fun _ => 0)))), (o27, .inr (6, [.ref n31_0])), (n31_0, .inl (cA, 12, .inl (zF (fun _ => 0)))), (o38, .inr (6, [.ref n42_0])), (n42_0, .inl (cA, 12, .inl (zF (fun _ => 0))))] := hD
  exact W.vret hx hb hr (fun t ht hW => ⟨⟨(o5, n9_0, o16, n20_0, o27, n31_0, o38, n42_0), rfl, trivial, ⟨by rw [ht]; exact hP, hD⟩⟩, hS.F ht⟩) hS.2.2 dX4_init_48
theorem iz_X1_init_X1 : ∀ w ∈ u_ws RX1 TX1 3, w ∈ wsX1_init := by decide +kernel
set_option maxHeartbeats 4000000 in
set_option maxRecDepth 100000 in
/-- X1_init -/
theorem c_X1_init (l : Launch) (D : va_G) (sz : Nat) (tys : List (ClassId × FieldType)) (cA : ClassId) (hty : tys[0]? = some (cA, .int)) (h0 pl : Nat)  : Met l yX1_init wsX1_init ({ frames := 1, cells := 0, slots := 0, locals := 14 }) (zPn D [.ref h0, .ref pl] sz [(h0, .inr (2, [.null, .int (iI 0), .int (iI 0)]))] tys) (zWv (fun (u : Unit) => True) D (fun (u : Unit) => [(h0, .inr (2, [.ref pl, .int (iI 0), .int (iI 0)]))]) [(h0, .inr (2, [.null, .int (iI 0), .int (iI 0)]))] sz) 0 0 (va_A [(h0, .inr (2, [.null, .int (iI 0), .int (iI 0)]))] sz) := by
  refine Met.ofW (cc := cX1_init) (maxL := 2) (ret := none) (by decide +kernel) rfl ?_
  intro p e s m args below meth c s₁ B hml hv
  obtain ⟨rfl, hsz, hP, hK, hD0, hN⟩ := hv
  have hx := B.exec
  have hb := B.bytes
  have hr := B.returns
  have hts := atoms_spec (ws := wsX1_init) B.pre
  have hown : s.vm.findClass RX1 = some m.cls := findClass_of_methodNamed B.named
  have hlocks := B.notSynchronized
  have hin : meth.name = "<init>" := (name_of_methodNamed B.named B.method).1
  subst hsz
  have hD : va_D (va_A [(h0, .inr (2, [.null, .int (iI 0), .int (iI 0)]))] s.heap.size) [(h0, .inr (2, [.null, .int (iI 0), .int (iI 0)]))] := hD0.self
  have hS : va_S (va_A [(h0, .inr (2, [.null, .int (iI 0), .int (iI 0)]))] s.heap.size) s.heap s.heap [] := va_S.rf
  have hA : ∀ q9 : Nat, s.heap.size ≤ q9 → (va_A [(h0, .inr (2, [.null, .int (iI 0), .int (iI 0)]))] s.heap.size) q9 := fun q9 h => Or.inr h
  have hl := lv_entry ([.ref h0, .ref pl]) (n := 2) (Nat.le_of_ble_eq_true rfl)
  rw [lg_entry_eq]
  generalize (lg_sl ([.ref h0, .ref pl]) ++ List.replicate (2 - (lg_sl ([.ref h0, .ref pl])).length) Slot.unset).toArray = ls at hl ⊢
  have hl : lv_has ls 2 [(0, .ref h0), (1, .ref pl)] := hl
  refine lv_aload_n hx hb dX1_init_0 rfl (lv_at hl 0 rfl) ?_
  refine W.objInit hx hb hown (hts (.methodLink RX1 3 objectInit) (by decide +kernel)) (hts (.instanceMethod objectInit) (by decide +kernel)) (hts _ (List.mem_cons_of_mem _ (List.mem_append_left _ (List.mem_of_getElem? (i := 2) rfl)))) rfl (by rw [hml]; exact hl.1) rfl dX1_init_1 (Nat.le_of_ble_eq_true rfl) (Nat.le_of_ble_eq_true rfl) ?_
  refine W.eq (g2 := F0 m 4 ls []) rfl ?_
  refine lv_aload_n hx hb dX1_init_4 rfl (lv_at hl 0 rfl) ?_
  refine lv_aload_n hx hb dX1_init_5 rfl (lv_at hl 1 rfl) ?_
  refine va_putF (ci := 2) (v := .ref pl) (ty := .object "PowerPlot$Places") (C := RX1) (T := TX1) (N := 3) hx hb hts iz_X1_init_X1 tyX1 tyX1_ok nmX1 hown hK hP hD hS 0 rfl rfl 0 (by decide) (hts (.fieldLink RX1 9 "PowerPlot$Cells" "places" "LPowerPlot$Places;") (by decide +kernel)) (fun _ h9 => h9) rfl hin rfl (by decide +kernel) rfl rfl (Nat.le_of_ble_eq_true rfl) dX1_init_6 (fun H locs hP hD hS => ?_)
  have hP : va_P D vwCl [(h0, .inr (2, [.ref pl, .int (iI 0), .int (iI 0)]))] H := hP
  have hD : va_D _ [(h0, .inr (2, [.ref pl, .int (iI 0), .int (iI 0)]))] := hD
  exact W.vret hx hb hr (fun t ht hW => ⟨⟨(), rfl, trivial, ⟨by rw [ht]; exact hP, hD⟩⟩, hS.F ht⟩) hS.2.2 dX1_init_9
theorem iz_X3_init_X5 : ∀ w ∈ u_ws RX5 TX5 1, w ∈ wsX3_init := by decide +kernel
theorem iz_X3_init_X3 : ∀ w ∈ u_ws RX3 TX3 4, w ∈ wsX3_init := by decide +kernel
set_option maxHeartbeats 4000000 in
set_option maxRecDepth 100000 in
/-- X3_init -/
theorem c_X3_init (l : Launch) (D : va_G) (sz : Nat) (tys : List (ClassId × FieldType)) (cA : ClassId) (hty : tys[0]? = some (cA, .int)) (h0 pl : Nat)  : Met l yX3_init wsX3_init ({ frames := 2, cells := 6, slots := 39, locals := 40 }) (zPn D [.ref h0, .ref pl] sz [(h0, .inr (4, [.null, .null, .null, .null]))] tys) (zWv (fun (u : Nat × Nat × Nat × Nat × Nat × Nat) => True) D (fun (u : Nat × Nat × Nat × Nat × Nat × Nat) => [(h0, .inr (4, [.ref pl, .ref u.1, .ref u.2.2.1, .ref u.2.2.2.2.1])), (u.1, .inr (6, [.ref u.2.1])), (u.2.1, .inl (cA, 12, .inl (zF (fun _ => 0)))), (u.2.2.1, .inr (6, [.ref u.2.2.2.1])), (u.2.2.2.1, .inl (cA, 12, .inl (zF (fun _ => 0)))), (u.2.2.2.2.1, .inr (6, [.ref u.2.2.2.2.2])), (u.2.2.2.2.2, .inl (cA, 12, .inl (zF (fun _ => 0))))]) [(h0, .inr (4, [.null, .null, .null, .null]))] sz) 6 39 (va_A [(h0, .inr (4, [.null, .null, .null, .null]))] sz) := by
  refine Met.ofW (cc := cX3_init) (maxL := 2) (ret := none) (by decide +kernel) rfl ?_
  intro p e s m args below meth c s₁ B hml hv
  obtain ⟨rfl, hsz, hP, hK, hD0, hN⟩ := hv
  have hx := B.exec
  have hb := B.bytes
  have hr := B.returns
  have hts := atoms_spec (ws := wsX3_init) B.pre
  have hown : s.vm.findClass RX3 = some m.cls := findClass_of_methodNamed B.named
  have hlocks := B.notSynchronized
  have hin : meth.name = "<init>" := (name_of_methodNamed B.named B.method).1
  subst hsz
  have hD : va_D (va_A [(h0, .inr (4, [.null, .null, .null, .null]))] s.heap.size) [(h0, .inr (4, [.null, .null, .null, .null]))] := hD0.self
  have hS : va_S (va_A [(h0, .inr (4, [.null, .null, .null, .null]))] s.heap.size) s.heap s.heap [] := va_S.rf
  have hA : ∀ q9 : Nat, s.heap.size ≤ q9 → (va_A [(h0, .inr (4, [.null, .null, .null, .null]))] s.heap.size) q9 := fun q9 h => Or.inr h
  have hl := lv_entry ([.ref h0, .ref pl]) (n := 2) (Nat.le_of_ble_eq_true rfl)
  rw [lg_entry_eq]
  generalize (lg_sl ([.ref h0, .ref pl]) ++ List.replicate (2 - (lg_sl ([.ref h0, .ref pl])).length) Slot.unset).toArray = ls at hl ⊢
  have hl : lv_has ls 2 [(0, .ref h0), (1, .ref pl)] := hl
  refine lv_aload_n hx hb dX3_init_0 rfl (lv_at hl 0 rfl) ?_
  refine W.objInit hx hb hown (hts (.methodLink RX3 1 objectInit) (by decide +kernel)) (hts (.instanceMethod objectInit) (by decide +kernel)) (hts _ (List.mem_cons_of_mem _ (List.mem_append_left _ (List.mem_of_getElem? (i := 2) rfl)))) rfl (by rw [hml]; exact hl.1) rfl dX3_init_1 (Nat.le_of_ble_eq_true rfl) (Nat.le_of_ble_eq_true rfl) ?_
  refine W.eq (g2 := F0 m 4 ls []) rfl ?_
  refine lv_aload_n hx hb dX3_init_4 rfl (lv_at hl 0 rfl) ?_
  refine va_new (ci := 6) (fs := [.null]) (C := RX5) (T := TX5) (N := 1) hx hb hts iz_X3_init_X5 tyX5 tyX5_ok hown (hts (.classLink RX3 7 RX5) (by decide +kernel)) (hts (.instantiable RX5 1) (by decide +kernel)) (hts (.initialized RX5) (by decide +kernel)) hK hP hD hS hA rfl (fun j hj => by rcases (show j = 0 by omega) with rfl <;> first | exact congrArg Value.int iI_0.symm | exact congrArg Value.long lI_0.symm | rfl) (Nat.le_of_ble_eq_true rfl) (Nat.le_of_ble_eq_true rfl) dX3_init_5 (fun o5 H hP hD hS => ?_)
  have hP : va_P D vwCl [(h0, .inr (4, [.null, .null, .null, .null])), (o5, .inr (6, [.null]))] H := hP
  have hD : va_D _ [(h0, .inr (4, [.null, .null, .null, .null])), (o5, .inr (6, [.null]))] := hD
  refine lv_dup hx hb dX3_init_8 rfl ?_
  refine zn_N (wr := [(h0, .inr (4, [.null, .null, .null, .null]))]) (As := []) (rest := [.ref o5, .ref h0]) ⟨hx, hb, hml, hown, hts⟩ (c_X5_init l D _ tys cA hty o5) ⟨va_cnB 0 hts ggX3_init_X5_init rfl rfl rfl hN.2.2.1 (hts (.initialized RX5) (by decide +kernel)) (by decide +kernel) ⟨(Nat.le_of_ble_eq_true rfl), (Nat.le_of_ble_eq_true rfl)⟩, rfl, hts (.instanceMethod yX5_init) (by decide +kernel)⟩ hN hP hK hD hS hA [1] rfl rfl [0] [0, 1, 2] rfl rfl (by decide) (fun _ => rfl) rfl rfl hl.1 rfl (Nat.le_of_ble_eq_true rfl) dX3_init_9 ⟨(Nat.le_of_ble_eq_true rfl), (Nat.le_of_ble_eq_true rfl)⟩ (ws1 := fun (u9 : Nat) => [(h0, .inr (4, [.null, .null, .null, .null])), (o5, .inr (6, [.ref u9])), (u9, .inl (cA, 12, .inl (zF (fun _ => 0))))]) (fun u9 H locs w9 hP hD hS => ?_)
  obtain ⟨n9_0, rfl⟩ : ∃ z, z = u9 := ⟨_, rfl⟩
  have hP : va_P D vwCl [(h0, .inr (4, [.null, .null, .null, .null])), (o5, .inr (6, [.ref n9_0])), (n9_0, .inl (cA, 12, .inl (zF (fun _ => 0))))] H := hP
  have hD : va_D _ [(h0, .inr (4, [.null, .null, .null, .null])), (o5, .inr (6, [.ref n9_0])), (n9_0, .inl (cA, 12, .inl (zF (fun _ => 0))))] := hD
  refine va_putF (ci := 4) (v := .ref o5) (ty := .object "PowerPlot$Row") (C := RX3) (T := TX3) (N := 4) hx hb hts iz_X3_init_X3 tyX3 tyX3_ok nmX3 hown hK hP hD hS 0 rfl rfl 1 (by decide) (hts (.fieldLink RX3 10 "PowerPlot$Hull" "dxs" "LPowerPlot$Row;") (by decide +kernel)) (fun _ h9 => h9) rfl hin rfl (by decide +kernel) rfl rfl (Nat.le_of_ble_eq_true rfl) dX3_init_12 (fun H locs hP hD hS => ?_)
  have hP : va_P D vwCl [(h0, .inr (4, [.null, .ref o5, .null, .null])), (o5, .inr (6, [.ref n9_0])), (n9_0, .inl (cA, 12, .inl (zF (fun _ => 0))))] H := hP
  have hD : va_D _ [(h0, .inr (4, [.null, .ref o5, .null, .null])), (o5, .inr (6, [.ref n9_0])), (n9_0, .inl (cA, 12, .inl (zF (fun _ => 0))))] := hD
  refine lv_aload_n hx hb dX3_init_15 rfl (lv_at hl 0 rfl) ?_
  refine va_new (ci := 6) (fs := [.null]) (C := RX5) (T := TX5) (N := 1) hx hb hts iz_X3_init_X5 tyX5 tyX5_ok hown (hts (.classLink RX3 7 RX5) (by decide +kernel)) (hts (.instantiable RX5 1) (by decide +kernel)) (hts (.initialized RX5) (by decide +kernel)) hK hP hD hS hA rfl (fun j hj => by rcases (show j = 0 by omega) with rfl <;> first | exact congrArg Value.int iI_0.symm | exact congrArg Value.long lI_0.symm | rfl) (Nat.le_of_ble_eq_true rfl) (Nat.le_of_ble_eq_true rfl) dX3_init_16 (fun o16 H hP hD hS => ?_)
  have hP : va_P D vwCl [(h0, .inr (4, [.null, .ref o5, .null, .null])), (o5, .inr (6, [.ref n9_0])), (n9_0, .inl (cA, 12, .inl (zF (fun _ => 0)))), (o16, .inr (6, [.null]))] H := hP
  have hD : va_D _ [(h0, .inr (4, [.null, .ref o5, .null, .null])), (o5, .inr (6, [.ref n9_0])), (n9_0, .inl (cA, 12, .inl (zF (fun _ => 0)))), (o16, .inr (6, [.null]))] := hD
  refine lv_dup hx hb dX3_init_19 rfl ?_
  refine zn_N (wr := [(h0, .inr (4, [.null, .ref o5, .null, .null])), (o5, .inr (6, [.ref n9_0])), (n9_0, .inl (cA, 12, .inl (zF (fun _ => 0))))]) (As := []) (rest := [.ref o16, .ref h0]) ⟨hx, hb, hml, hown, hts⟩ (c_X5_init l D _ tys cA hty o16) ⟨va_cnB 0 hts ggX3_init_X5_init rfl rfl rfl hN.2.2.1 (hts (.initialized RX5) (by decide +kernel)) (by decide +kernel) ⟨(Nat.le_of_ble_eq_true rfl), (Nat.le_of_ble_eq_true rfl)⟩, rfl, hts (.instanceMethod yX5_init) (by decide +kernel)⟩ hN hP hK hD hS hA [3] rfl rfl [0, 1, 2] [0, 1, 2, 3, 4] rfl rfl (by decide) (fun _ => rfl) rfl rfl hl.1 rfl (Nat.le_of_ble_eq_true rfl) dX3_init_20 ⟨(Nat.le_of_ble_eq_true rfl), (Nat.le_of_ble_eq_true rfl)⟩ (ws1 := fun (u9 : Nat) => [(h0, .inr (4, [.null, .ref o5, .null, .null])), (o5, .inr (6, [.ref n9_0])), (n9_0, .inl (cA, 12, .inl (zF (fun _ => 0)))), (o16, .inr (6, [.ref u9])), (u9, .inl (cA, 12, .inl (zF (fun _ => 0))))]) (fun u20 H locs w20 hP hD hS => ?_)
  obtain ⟨n20_0, rfl⟩ : ∃ z, z = u20 := ⟨_, rfl⟩
  have hP : va_P D vwCl [(h0, .inr (4, [.null, .ref o5, .null, .null])), (o5, .inr (6, [.ref n9_0])), (n9_0, .inl (cA, 12, .inl (zF (fun _ => 0)))), (o16, .inr (6, [.ref n20_0])), (n20_0, .inl (cA, 12, .inl (zF (fun _ => 0))))] H := hP
  have hD : va_D _ [(h0, .inr (4, [.null, .ref o5, .null, .null])), (o5, .inr (6, [.ref n9_0])), (n9_0, .inl (cA, 12, .inl (zF (fun _ => 0)))), (o16, .inr (6, [.ref n20_0])), (n20_0, .inl (cA, 12, .inl (zF (fun _ => 0))))] := hD
  refine va_putF (ci := 4) (v := .ref o16) (ty := .object "PowerPlot$Row") (C := RX3) (T := TX3) (N := 4) hx hb hts iz_X3_init_X3 tyX3 tyX3_ok nmX3 hown hK hP hD hS 0 rfl rfl 2 (by decide) (hts (.fieldLink RX3 16 "PowerPlot$Hull" "dys" "LPowerPlot$Row;") (by decide +kernel)) (fun _ h9 => h9) rfl hin rfl (by decide +kernel) rfl rfl (Nat.le_of_ble_eq_true rfl) dX3_init_23 (fun H locs hP hD hS => ?_)
  have hP : va_P D vwCl [(h0, .inr (4, [.null, .ref o5, .ref o16, .null])), (o5, .inr (6, [.ref n9_0])), (n9_0, .inl (cA, 12, .inl (zF (fun _ => 0)))), (o16, .inr (6, [.ref n20_0])), (n20_0, .inl (cA, 12, .inl (zF (fun _ => 0))))] H := hP
  have hD : va_D _ [(h0, .inr (4, [.null, .ref o5, .ref o16, .null])), (o5, .inr (6, [.ref n9_0])), (n9_0, .inl (cA, 12, .inl (zF (fun _ => 0)))), (o16, .inr (6, [.ref n20_0])), (n20_0, .inl (cA, 12, .inl (zF (fun _ => 0))))] := hD
  refine lv_aload_n hx hb dX3_init_26 rfl (lv_at hl 0 rfl) ?_
  refine va_new (ci := 6) (fs := [.null]) (C := RX5) (T := TX5) (N := 1) hx hb hts iz_X3_init_X5 tyX5 tyX5_ok hown (hts (.classLink RX3 7 RX5) (by decide +kernel)) (hts (.instantiable RX5 1) (by decide +kernel)) (hts (.initialized RX5) (by decide +kernel)) hK hP hD hS hA rfl (fun j hj => by rcases (show j = 0 by omega) with rfl <;> first | exact congrArg Value.int iI_0.symm | exact congrArg Value.long lI_0.symm | rfl) (Nat.le_of_ble_eq_true rfl) (Nat.le_of_ble_eq_true rfl) dX3_init_27 (fun o27 H hP hD hS => ?_)
  have hP : va_P D vwCl [(h0, .inr (4, [.null, .ref o5, .ref o16, .null])), (o5, .inr (6, [.ref n9_0])), (n9_0, .inl (cA, 12, .inl (zF (fun _ => 0)))), (o16, .inr (6, [.ref n20_0])), (n20_0, .inl (cA, 12, .inl (zF (fun _ => 0)))), (o27, .inr (6, [.null]))] H := hP
  have hD : va_D _ [(h0, .inr (4, [.null, .ref o5, .ref o16, .null])), (o5, .inr (6, [.ref n9_0])), (n9_0, .inl (cA, 12, .inl (zF (fun _ => 0)))), (o16, .inr (6, [.ref n20_0])), (n20_0, .inl (cA, 12, .inl (zF (fun _ => 0)))), (o27, .inr (6, [.null]))] := hD
  refine lv_dup hx hb dX3_init_30 rfl ?_
  refine zn_N (wr := [(h0, .inr (4, [.null, .ref o5, .ref o16, .null])), (o5, .inr (6, [.ref n9_0])), (n9_0, .inl (cA, 12, .inl (zF (fun _ => 0)))), (o16, .inr (6, [.ref n20_0])), (n20_0, .inl (cA, 12, .inl (zF (fun _ => 0))))]) (As := []) (rest := [.ref o27, .ref h0]) ⟨hx, hb, hml, hown, hts⟩ (c_X5_init l D _ tys cA hty o27) ⟨va_cnB 0 hts ggX3_init_X5_init rfl rfl rfl hN.2.2.1 (hts (.initialized RX5) (by decide +kernel)) (by decide +kernel) ⟨(Nat.le_of_ble_eq_true rfl), (Nat.le_of_ble_eq_true rfl)⟩, rfl, hts (.instanceMethod yX5_init) (by decide +kernel)⟩ hN hP hK hD hS hA [5] rfl rfl [0, 1, 2, 3, 4] [0, 1, 2, 3, 4, 5, 6] rfl rfl (by decide) (fun _ => rfl) rfl rfl hl.1 rfl (Nat.le_of_ble_eq_true rfl) dX3_init_31 ⟨(Nat.le_of_ble_eq_true rfl), (Nat.le_of_ble_eq_true rfl)⟩ (ws1 := fun (u9 : Nat) => [(h0, .inr (4, [.null, .ref o5, .ref o16, .null])), (o5, .inr (6, [.ref n9_0])), (n9_0, .inl (cA, 12, .inl (zF (fun _ => 0)))), (o16, .inr (6, [.ref n20_0])), (n20_0, .inl (cA, 12, .inl (zF (fun _ => 0)))), (o27, .inr (6, [.ref u9])), (u9, .inl (cA, 12, .inl (zF (fun _ => 0))))]) (fun u31 H locs w31 hP hD hS => ?_)
  obtain ⟨n31_0, rfl⟩ : ∃ z, z = u31 := ⟨_, rfl⟩
  have hP : va_P D vwCl [(h0, .inr (4, [.null, .ref o5, .ref o16, .null])), (o5, .inr (6, [.ref n9_0])), (n9_0, .inl (cA, 12, .inl (zF (fun _ => 0)))), (o16, .inr (6, [.ref n20_0])), (n20_0, .inl (cA, 12, .inl (zF (fun _ => 0)))), (o27, .inr (6, [.ref n31_0])), (n31_0, .inl (cA, 12, .inl (zF (fun _ => 0))))] H := hP
  have hD : va_D _ [(h0, .inr (4, [.null, .ref o5, .ref o16, .null])), (o5, .inr (6, [.ref n9_0])), (n9_0, .inl (cA, 12, .inl (zF (fun _ => 0)))), (o16, .inr (6, [.ref n20_0])), (n20_0, .inl (cA, 12, .inl (zF (fun _ => 0)))), (o27, .inr (6, [.ref n31_0])), (n31_0, .inl (cA, 12, .inl (zF (fun _ => 0))))] := hD
  refine va_putF (ci := 4) (v := .ref o27) (ty := .object "PowerPlot$Row") (C := RX3) (T := TX3) (N := 4) hx hb hts iz_X3_init_X3 tyX3 tyX3_ok nmX3 hown hK hP hD hS 0 rfl rfl 3 (by decide) (hts (.fieldLink RX3 19 "PowerPlot$Hull" "heights" "LPowerPlot$Row;") (by decide +kernel)) (fun _ h9 => h9) rfl hin rfl (by decide +kernel) rfl rfl (Nat.le_of_ble_eq_true rfl) dX3_init_34 (fun H locs hP hD hS => ?_)
  have hP : va_P D vwCl [(h0, .inr (4, [.null, .ref o5, .ref o16, .ref o27])), (o5, .inr (6, [.ref n9_0])), (n9_0, .inl (cA, 12, .inl (zF (fun _ => 0)))), (o16, .inr (6, [.ref n20_0])), (n20_0, .inl (cA, 12, .inl (zF (fun _ => 0)))), (o27, .inr (6, [.ref n31_0])), (n31_0, .inl (cA, 12, .inl (zF (fun _ => 0))))] H := hP
  have hD : va_D _ [(h0, .inr (4, [.null, .ref o5, .ref o16, .ref o27])), (o5, .inr (6, [.ref n9_0])), (n9_0, .inl (cA, 12, .inl (zF (fun _ => 0)))), (o16, .inr (6, [.ref n20_0])), (n20_0, .inl (cA, 12, .inl (zF (fun _ => 0)))), (o27, .inr (6, [.ref n31_0])), (n31_0, .inl (cA, 12, .inl (zF (fun _ => 0))))] := hD
  refine lv_aload_n hx hb dX3_init_37 rfl (lv_at hl 0 rfl) ?_
  refine lv_aload_n hx hb dX3_init_38 rfl (lv_at hl 1 rfl) ?_
  refine va_putF (ci := 4) (v := .ref pl) (ty := .object "PowerPlot$Places") (C := RX3) (T := TX3) (N := 4) hx hb hts iz_X3_init_X3 tyX3 tyX3_ok nmX3 hown hK hP hD hS 0 rfl rfl 0 (by decide) (hts (.fieldLink RX3 22 "PowerPlot$Hull" "places" "LPowerPlot$Places;") (by decide +kernel)) (fun _ h9 => h9) rfl hin rfl (by decide +kernel) rfl rfl (Nat.le_of_ble_eq_true rfl) dX3_init_39 (fun H locs hP hD hS => ?_)
  have hP : va_P D vwCl [(h0, .inr (4, [.ref pl, .ref o5, .ref o16, .ref o27])), (o5, .inr (6, [.ref n9_0])), (n9_0, .inl (cA, 12, .inl (zF (fun _ => 0)))), (o16, .inr (6, [.ref n20_0])), (n20_0, .inl (cA, 12, .inl (zF (fun _ => 0)))), (o27, .inr (6, [.ref n31_0])), (n31_0, .inl (cA, 12, .inl (zF (fun _ => 0))))] H := hP
  have hD : va_D _ [(h0, .inr (4, [.ref pl, .ref o5, .ref o16, .ref o27])), (o5, .inr (6, [.ref n9_0])), (n9_0, .inl (cA, 12, .inl (zF (fun _ => 0)))), (o16, .inr (6, [.ref n20_0])), (n20_0, .inl (cA, 12, .inl (zF (fun _ => 0)))), (o27, .inr (6, [.ref n31_0])), (n31_0, .inl (cA, 12, .inl (zF (fun _ => 0))))] := hD
  exact W.vret hx hb hr (fun t ht hW => ⟨⟨(o5, n9_0, o16, n20_0, o27, n31_0), rfl, trivial, ⟨by rw [ht]; exact hP, hD⟩⟩, hS.F ht⟩) hS.2.2 dX3_init_42
theorem iz_X2_init_X2 : ∀ w ∈ u_ws RX2 TX2 2, w ∈ wsX2_init := by decide +kernel
set_option maxHeartbeats 4000000 in
set_option maxRecDepth 100000 in
/-- X2_init -/
theorem c_X2_init (l : Launch) (D : va_G) (sz : Nat) (tys : List (ClassId × FieldType)) (cA : ClassId) (hty : tys[0]? = some (cA, .int)) (h0 : Nat)  : Met l yX2_init wsX2_init ({ frames := 1, cells := 0, slots := 0, locals := 14 }) (zPn D [.ref h0] sz [(h0, .inr (3, [.long (lI 0), .long (lI 0)]))] tys) (zWv (fun (u : Unit) => True) D (fun (u : Unit) => [(h0, .inr (3, [.long (lI 0), .long (lI 1)]))]) [(h0, .inr (3, [.long (lI 0), .long (lI 0)]))] sz) 0 0 (va_A [(h0, .inr (3, [.long (lI 0), .long (lI 0)]))] sz) := by
  refine Met.ofW (cc := cX2_init) (maxL := 1) (ret := none) (by decide +kernel) rfl ?_
  intro p e s m args below meth c s₁ B hml hv
  obtain ⟨rfl, hsz, hP, hK, hD0, hN⟩ := hv
  have hx := B.exec
  have hb := B.bytes
  have hr := B.returns
  have hts := atoms_spec (ws := wsX2_init) B.pre
  have hown : s.vm.findClass RX2 = some m.cls := findClass_of_methodNamed B.named
  have hlocks := B.notSynchronized
  have hin : meth.name = "<init>" := (name_of_methodNamed B.named B.method).1
  subst hsz
  have hD : va_D (va_A [(h0, .inr (3, [.long (lI 0), .long (lI 0)]))] s.heap.size) [(h0, .inr (3, [.long (lI 0), .long (lI 0)]))] := hD0.self
  have hS : va_S (va_A [(h0, .inr (3, [.long (lI 0), .long (lI 0)]))] s.heap.size) s.heap s.heap [] := va_S.rf
  have hA : ∀ q9 : Nat, s.heap.size ≤ q9 → (va_A [(h0, .inr (3, [.long (lI 0), .long (lI 0)]))] s.heap.size) q9 := fun q9 h => Or.inr h
  have hl := lv_entry ([.ref h0]) (n := 1) (Nat.le_of_ble_eq_true rfl)
  rw [lg_entry_eq]
  generalize (lg_sl ([.ref h0]) ++ List.replicate (1 - (lg_sl ([.ref h0])).length) Slot.unset).toArray = ls at hl ⊢
  have hl : lv_has ls 1 [(0, .ref h0)] := hl
  refine lv_aload_n hx hb dX2_init_0 rfl (lv_at hl 0 rfl) ?_
  refine W.objInit hx hb hown (hts (.methodLink RX2 1 objectInit) (by decide +kernel)) (hts (.instanceMethod objectInit) (by decide +kernel)) (hts _ (List.mem_cons_of_mem _ (List.mem_append_left _ (List.mem_of_getElem? (i := 2) rfl)))) rfl (by rw [hml]; exact hl.1) rfl dX2_init_1 (Nat.le_of_ble_eq_true rfl) (Nat.le_of_ble_eq_true rfl) ?_
  refine W.eq (g2 := F0 m 4 ls []) rfl ?_
  refine lv_aload_n hx hb dX2_init_4 rfl (lv_at hl 0 rfl) ?_
  refine lv_lconst (v := lI 1) hx hb dX2_init_5 (by decide +kernel) ?_
  refine va_put (ci := 3) (v := .long (lI 1)) (ty := .long) (C := RX2) (T := TX2) (N := 2) hx hb hts iz_X2_init_X2 tyX2 tyX2_ok nmX2 hown hK hP hD hS 0 rfl rfl 1 (by decide) (hts (.fieldLink RX2 7 "PowerPlot$Fraction" "bottom" "J") (by decide +kernel)) (fun _ h9 => h9) rfl (by decide +kernel) rfl rfl (Nat.le_of_ble_eq_true rfl) dX2_init_6 (fun H locs hP hD hS => ?_)
  have hP : va_P D vwCl [(h0, .inr (3, [.long (lI 0), .long (lI 1)]))] H := hP
  have hD : va_D _ [(h0, .inr (3, [.long (lI 0), .long (lI 1)]))] := hD
  exact W.vret hx hb hr (fun t ht hW => ⟨⟨(), rfl, trivial, ⟨by rw [ht]; exact hP, hD⟩⟩, hS.F ht⟩) hS.2.2 dX2_init_9
theorem iz_X0_init_X2 : ∀ w ∈ u_ws RX2 TX2 2, w ∈ wsX0_init := by decide +kernel
theorem iz_X0_init_X0 : ∀ w ∈ u_ws RX0 TX0 9, w ∈ wsX0_init := by decide +kernel
set_option maxHeartbeats 4000000 in
set_option maxRecDepth 100000 in
/-- X0_init -/
theorem c_X0_init (l : Launch) (D : va_G) (sz : Nat) (tys : List (ClassId × FieldType)) (cA : ClassId) (hty : tys[0]? = some (cA, .int)) (h0 pl : Nat)  : Met l yX0_init wsX0_init ({ frames := 2, cells := 3, slots := 6, locals := 40 }) (zPn D [.ref h0, .ref pl] sz [(h0, .inr (1, [.null, .null, .null, .null, .int (iI 0), .int (iI 0), .long (lI 0), .long (lI 0), .long (lI 0)]))] tys) (zWv (fun (u : Nat × Nat × Nat) => True) D (fun (u : Nat × Nat × Nat) => [(h0, .inr (1, [.ref pl, .ref u.1, .ref u.2.1, .ref u.2.2, .int (iI 0), .int (iI 0), .long (lI 0), .long (lI 0), .long (lI 0)])), (u.1, .inr (3, [.long (lI 0), .long (lI 1)])), (u.2.1, .inr (3, [.long (lI 0), .long (lI 1)])), (u.2.2, .inr (3, [.long (lI 0), .long (lI 1)]))]) [(h0, .inr (1, [.null, .null, .null, .null, .int (iI 0), .int (iI 0), .long (lI 0), .long (lI 0), .long (lI 0)]))] sz) 3 6 (va_A [(h0, .inr (1, [.null, .null, .null, .null, .int (iI 0), .int (iI 0), .long (lI 0), .long (lI 0), .long (lI 0)]))] sz) := by
  refine Met.ofW (cc := cX0_init) (maxL := 2) (ret := none) (by decide +kernel) rfl ?_
  intro p e s m args below meth c s₁ B hml hv
  obtain ⟨rfl, hsz, hP, hK, hD0, hN⟩ := hv
  have hx := B.exec
  have hb := B.bytes
  have hr := B.returns
  have hts := atoms_spec (ws := wsX0_init) B.pre
  have hown : s.vm.findClass RX0 = some m.cls := findClass_of_methodNamed B.named
  have hlocks := B.notSynchronized
  have hin : meth.name = "<init>" := (name_of_methodNamed B.named B.method).1
  subst hsz
  have hD : va_D (va_A [(h0, .inr (1, [.null, .null, .null, .null, .int (iI 0), .int (iI 0), .long (lI 0), .long (lI 0), .long (lI 0)]))] s.heap.size) [(h0, .inr (1, [.null, .null, .null, .null, .int (iI 0), .int (iI 0), .long (lI 0), .long (lI 0), .long (lI 0)]))] := hD0.self
  have hS : va_S (va_A [(h0, .inr (1, [.null, .null, .null, .null, .int (iI 0), .int (iI 0), .long (lI 0), .long (lI 0), .long (lI 0)]))] s.heap.size) s.heap s.heap [] := va_S.rf
  have hA : ∀ q9 : Nat, s.heap.size ≤ q9 → (va_A [(h0, .inr (1, [.null, .null, .null, .null, .int (iI 0), .int (iI 0), .long (lI 0), .long (lI 0), .long (lI 0)]))] s.heap.size) q9 := fun q9 h => Or.inr h
  have hl := lv_entry ([.ref h0, .ref pl]) (n := 2) (Nat.le_of_ble_eq_true rfl)
  rw [lg_entry_eq]
  generalize (lg_sl ([.ref h0, .ref pl]) ++ List.replicate (2 - (lg_sl ([.ref h0, .ref pl])).length) Slot.unset).toArray = ls at hl ⊢
  have hl : lv_has ls 2 [(0, .ref h0), (1, .ref pl)] := hl
  refine lv_aload_n hx hb dX0_init_0 rfl (lv_at hl 0 rfl) ?_
  refine W.objInit hx hb hown (hts (.methodLink RX0 3 objectInit) (by decide +kernel)) (hts (.instanceMethod objectInit) (by decide +kernel)) (hts _ (List.mem_cons_of_mem _ (List.mem_append_left _ (List.mem_of_getElem? (i := 2) rfl)))) rfl (by rw [hml]; exact hl.1) rfl dX0_init_1 (Nat.le_of_ble_eq_true rfl) (Nat.le_of_ble_eq_true rfl) ?_
  refine W.eq (g2 := F0 m 4 ls []) rfl ?_
  refine lv_aload_n hx hb dX0_init_4 rfl (lv_at hl 0 rfl) ?_
  refine va_new (ci := 3) (fs := [.long (lI 0), .long (lI 0)]) (C := RX2) (T := TX2) (N := 2) hx hb hts iz_X0_init_X2 tyX2 tyX2_ok hown (hts (.classLink RX0 9 RX2) (by decide +kernel)) (hts (.instantiable RX2 2) (by decide +kernel)) (hts (.initialized RX2) (by decide +kernel)) hK hP hD hS hA rfl (fun j hj => by rcases (show j = 0 ∨ j = 1 by omega) with rfl | rfl <;> first | exact congrArg Value.int iI_0.symm | exact congrArg Value.long lI_0.symm | rfl) (Nat.le_of_ble_eq_true rfl) (Nat.le_of_ble_eq_true rfl) dX0_init_5 (fun o5 H hP hD hS => ?_)
  have hP : va_P D vwCl [(h0, .inr (1, [.null, .null, .null, .null, .int (iI 0), .int (iI 0), .long (lI 0), .long (lI 0), .long (lI 0)])), (o5, .inr (3, [.long (lI 0), .long (lI 0)]))] H := hP
  have hD : va_D _ [(h0, .inr (1, [.null, .null, .null, .null, .int (iI 0), .int (iI 0), .long (lI 0), .long (lI 0), .long (lI 0)])), (o5, .inr (3, [.long (lI 0), .long (lI 0)]))] := hD
  refine lv_dup hx hb dX0_init_8 rfl ?_
  refine zn_N (wr := [(h0, .inr (1, [.null, .null, .null, .null, .int (iI 0), .int (iI 0), .long (lI 0), .long (lI 0), .long (lI 0)]))]) (As := []) (rest := [.ref o5, .ref h0]) ⟨hx, hb, hml, hown, hts⟩ (c_X2_init l D _ tys cA hty o5) ⟨va_cnB 0 hts ggX0_init_X2_init rfl rfl rfl hN.2.1 (hts (.initialized RX2) (by decide +kernel)) (by decide +kernel) ⟨(Nat.le_of_ble_eq_true rfl), (Nat.le_of_ble_eq_true rfl)⟩, rfl, hts (.instanceMethod yX2_init) (by decide +kernel)⟩ hN hP hK hD hS hA [1] rfl rfl [0] [0, 1] rfl rfl (by decide) (fun _ => rfl) rfl rfl hl.1 rfl (Nat.le_of_ble_eq_true rfl) dX0_init_9 ⟨(Nat.le_of_ble_eq_true rfl), (Nat.le_of_ble_eq_true rfl)⟩ (ws1 := fun (_ : Unit) => [(h0, .inr (1, [.null, .null, .null, .null, .int (iI 0), .int (iI 0), .long (lI 0), .long (lI 0), .long (lI 0)])), (o5, .inr (3, [.long (lI 0), .long (lI 1)]))]) (fun u9 H locs w9 hP hD hS => ?_)
  have hP : va_P D vwCl [(h0, .inr (1, [.null, .null, .null, .null, .int (iI 0), .int (iI 0), .long (lI 0), .long (lI 0), .long (lI 0)])), (o5, .inr (3, [.long (lI 0), .long (lI 1)]))] H := hP
  have hD : va_D _ [(h0, .inr (1, [.null, .null, .null, .null, .int (iI 0), .int (iI 0), .long (lI 0), .long (lI 0), .long (lI 0)])), (o5, .inr (3, [.long (lI 0), .long (lI 1)]))] := hD
  refine va_putF (ci := 1) (v := .ref o5) (ty := .object "PowerPlot$Fraction") (C := RX0) (T := TX0) (N := 9) hx hb hts iz_X0_init_X0 tyX0 tyX0_ok nmX0 hown hK hP hD hS 0 rfl rfl 1 (by decide) (hts (.fieldLink RX0 12 "PowerPlot$Border" "low" "LPowerPlot$Fraction;") (by decide +kernel)) (fun _ h9 => h9) rfl hin rfl (by decide +kernel) rfl rfl (Nat.le_of_ble_eq_true rfl) dX0_init_12 (fun H locs hP hD hS => ?_)
  have hP : va_P D vwCl [(h0, .inr (1, [.null, .ref o5, .null, .null, .int (iI 0), .int (iI 0), .long (lI 0), .long (lI 0), .long (lI 0)])), (o5, .inr (3, [.long (lI 0), .long (lI 1)]))] H := hP
  have hD : va_D _ [(h0, .inr (1, [.null, .ref o5, .null, .null, .int (iI 0), .int (iI 0), .long (lI 0), .long (lI 0), .long (lI 0)])), (o5, .inr (3, [.long (lI 0), .long (lI 1)]))] := hD
  refine lv_aload_n hx hb dX0_init_15 rfl (lv_at hl 0 rfl) ?_
  refine va_new (ci := 3) (fs := [.long (lI 0), .long (lI 0)]) (C := RX2) (T := TX2) (N := 2) hx hb hts iz_X0_init_X2 tyX2 tyX2_ok hown (hts (.classLink RX0 9 RX2) (by decide +kernel)) (hts (.instantiable RX2 2) (by decide +kernel)) (hts (.initialized RX2) (by decide +kernel)) hK hP hD hS hA rfl (fun j hj => by rcases (show j = 0 ∨ j = 1 by omega) with rfl | rfl <;> first | exact congrArg Value.int iI_0.symm | exact congrArg Value.long lI_0.symm | rfl) (Nat.le_of_ble_eq_true rfl) (Nat.le_of_ble_eq_true rfl) dX0_init_16 (fun o16 H hP hD hS => ?_)
  have hP : va_P D vwCl [(h0, .inr (1, [.null, .ref o5, .null, .null, .int (iI 0), .int (iI 0), .long (lI 0), .long (lI 0), .long (lI 0)])), (o5, .inr (3, [.long (lI 0), .long (lI 1)])), (o16, .inr (3, [.long (lI 0), .long (lI 0)]))] H := hP
  have hD : va_D _ [(h0, .inr (1, [.null, .ref o5, .null, .null, .int (iI 0), .int (iI 0), .long (lI 0), .long (lI 0), .long (lI 0)])), (o5, .inr (3, [.long (lI 0), .long (lI 1)])), (o16, .inr (3, [.long (lI 0), .long (lI 0)]))] := hD
  refine lv_dup hx hb dX0_init_19 rfl ?_
  refine zn_N (wr := [(h0, .inr (1, [.null, .ref o5, .null, .null, .int (iI 0), .int (iI 0), .long (lI 0), .long (lI 0), .long (lI 0)])), (o5, .inr (3, [.long (lI 0), .long (lI 1)]))]) (As := []) (rest := [.ref o16, .ref h0]) ⟨hx, hb, hml, hown, hts⟩ (c_X2_init l D _ tys cA hty o16) ⟨va_cnB 0 hts ggX0_init_X2_init rfl rfl rfl hN.2.1 (hts (.initialized RX2) (by decide +kernel)) (by decide +kernel) ⟨(Nat.le_of_ble_eq_true rfl), (Nat.le_of_ble_eq_true rfl)⟩, rfl, hts (.instanceMethod yX2_init) (by decide +kernel)⟩ hN hP hK hD hS hA [2] rfl rfl [0, 1] [0, 1, 2] rfl rfl (by decide) (fun _ => rfl) rfl rfl hl.1 rfl (Nat.le_of_ble_eq_true rfl) dX0_init_20 ⟨(Nat.le_of_ble_eq_true rfl), (Nat.le_of_ble_eq_true rfl)⟩ (ws1 := fun (_ : Unit) => [(h0, .inr (1, [.null, .ref o5, .null, .null, .int (iI 0), .int (iI 0), .long (lI 0), .long (lI 0), .long (lI 0)])), (o5, .inr (3, [.long (lI 0), .long (lI 1)])), (o16, .inr (3, [.long (lI 0), .long (lI 1)]))]) (fun u20 H locs w20 hP hD hS => ?_)
  have hP : va_P D vwCl [(h0, .inr (1, [.null, .ref o5, .null, .null, .int (iI 0), .int (iI 0), .long (lI 0), .long (lI 0), .long (lI 0)])), (o5, .inr (3, [.long (lI 0), .long (lI 1)])), (o16, .inr (3, [.long (lI 0), .long (lI 1)]))] H := hP
  have hD : va_D _ [(h0, .inr (1, [.null, .ref o5, .null, .null, .int (iI 0), .int (iI 0), .long (lI 0), .long (lI 0), .long (lI 0)])), (o5, .inr (3, [.long (lI 0), .long (lI 1)])), (o16, .inr (3, [.long (lI 0), .long (lI 1)]))] := hD
  refine va_putF (ci := 1) (v := .ref o16) (ty := .object "PowerPlot$Fraction") (C := RX0) (T := TX0) (N := 9) hx hb hts iz_X0_init_X0 tyX0 tyX0_ok nmX0 hown hK hP hD hS 0 rfl rfl 2 (by decide) (hts (.fieldLink RX0 18 "PowerPlot$Border" "high" "LPowerPlot$Fraction;") (by decide +kernel)) (fun _ h9 => h9) rfl hin rfl (by decide +kernel) rfl rfl (Nat.le_of_ble_eq_true rfl) dX0_init_23 (fun H locs hP hD hS => ?_)
  have hP : va_P D vwCl [(h0, .inr (1, [.null, .ref o5, .ref o16, .null, .int (iI 0), .int (iI 0), .long (lI 0), .long (lI 0), .long (lI 0)])), (o5, .inr (3, [.long (lI 0), .long (lI 1)])), (o16, .inr (3, [.long (lI 0), .long (lI 1)]))] H := hP
  have hD : va_D _ [(h0, .inr (1, [.null, .ref o5, .ref o16, .null, .int (iI 0), .int (iI 0), .long (lI 0), .long (lI 0), .long (lI 0)])), (o5, .inr (3, [.long (lI 0), .long (lI 1)])), (o16, .inr (3, [.long (lI 0), .long (lI 1)]))] := hD
  refine lv_aload_n hx hb dX0_init_26 rfl (lv_at hl 0 rfl) ?_
  refine va_new (ci := 3) (fs := [.long (lI 0), .long (lI 0)]) (C := RX2) (T := TX2) (N := 2) hx hb hts iz_X0_init_X2 tyX2 tyX2_ok hown (hts (.classLink RX0 9 RX2) (by decide +kernel)) (hts (.instantiable RX2 2) (by decide +kernel)) (hts (.initialized RX2) (by decide +kernel)) hK hP hD hS hA rfl (fun j hj => by rcases (show j = 0 ∨ j = 1 by omega) with rfl | rfl <;> first | exact congrArg Value.int iI_0.symm | exact congrArg Value.long lI_0.symm | rfl) (Nat.le_of_ble_eq_true rfl) (Nat.le_of_ble_eq_true rfl) dX0_init_27 (fun o27 H hP hD hS => ?_)
  have hP : va_P D vwCl [(h0, .inr (1, [.null, .ref o5, .ref o16, .null, .int (iI 0), .int (iI 0), .long (lI 0), .long (lI 0), .long (lI 0)])), (o5, .inr (3, [.long (lI 0), .long (lI 1)])), (o16, .inr (3, [.long (lI 0), .long (lI 1)])), (o27, .inr (3, [.long (lI 0), .long (lI 0)]))] H := hP
  have hD : va_D _ [(h0, .inr (1, [.null, .ref o5, .ref o16, .null, .int (iI 0), .int (iI 0), .long (lI 0), .long (lI 0), .long (lI 0)])), (o5, .inr (3, [.long (lI 0), .long (lI 1)])), (o16, .inr (3, [.long (lI 0), .long (lI 1)])), (o27, .inr (3, [.long (lI 0), .long (lI 0)]))] := hD
  refine lv_dup hx hb dX0_init_30 rfl ?_
  refine zn_N (wr := [(h0, .inr (1, [.null, .ref o5, .ref o16, .null, .int (iI 0), .int (iI 0), .long (lI 0), .long (lI 0), .long (lI 0)])), (o5, .inr (3, [.long (lI 0), .long (lI 1)])), (o16, .inr (3, [.long (lI 0), .long (lI 1)]))]) (As := []) (rest := [.ref o27, .ref h0]) ⟨hx, hb, hml, hown, hts⟩ (c_X2_init l D _ tys cA hty o27) ⟨va_cnB 0 hts ggX0_init_X2_init rfl rfl rfl hN.2.1 (hts (.initialized RX2) (by decide +kernel)) (by decide +kernel) ⟨(Nat.le_of_ble_eq_true rfl), (Nat.le_of_ble_eq_true rfl)⟩, rfl, hts (.instanceMethod yX2_init) (by decide +kernel)⟩ hN hP hK hD hS hA [3] rfl rfl [0, 1, 2] [0, 1, 2, 3] rfl rfl (by decide) (fun _ => rfl) rfl rfl hl.1 rfl (Nat.le_of_ble_eq_true rfl) dX0_init_31 ⟨(Nat.le_of_ble_eq_true rfl), (Nat.le_of_ble_eq_true rfl)⟩ (ws1 := fun (_ : Unit) => [(h0, .inr (1, [.null, .ref o5, .ref o16, .null, .int (iI 0), .int (iI 0), .long (lI 0), .long (lI 0), .long (lI 0)])), (o5, .inr (3, [.long (lI 0), .long (lI 1)])), (o16, .inr (3, [.long (lI 0), .long (lI 1)])), (o27, .inr (3, [.long (lI 0), .long (lI 1)]))]) (fun u31 H locs w31 hP hD hS => ?_)
  have hP : va_P D vwCl [(h0, .inr (1, [.null, .ref o5, .ref o16, .null, .int (iI 0), .int (iI 0), .long (lI 0), .long (lI 0), .long (lI 0)])), (o5, .inr (3, [.long (lI 0), .long (lI 1)])), (o16, .inr (3, [.long (lI 0), .long (lI 1)])), (o27, .inr (3, [.long (lI 0), .long (lI 1)]))] H := hP
  have hD : va_D _ [(h0, .inr (1, [.null, .ref o5, .ref o16, .null, .int (iI 0), .int (iI 0), .long (lI 0), .long (lI 0), .long (lI 0)])), (o5, .inr (3, [.long (lI 0), .long (lI 1)])), (o16, .inr (3, [.long (lI 0), .long (lI 1)])), (o27, .inr (3, [.long (lI 0), .long (lI 1)]))] := hD
  refine va_putF (ci := 1) (v := .ref o27) (ty := .object "PowerPlot$Fraction") (C := RX0) (T := TX0) (N := 9) hx hb hts iz_X0_init_X0 tyX0 tyX0_ok nmX0 hown hK hP hD hS 0 rfl rfl 3 (by decide) (hts (.fieldLink RX0 21 "PowerPlot$Border" "told" "LPowerPlot$Fraction;") (by decide +kernel)) (fun _ h9 => h9) rfl hin rfl (by decide +kernel) rfl rfl (Nat.le_of_ble_eq_true rfl) dX0_init_34 (fun H locs hP hD hS => ?_)
  have hP : va_P D vwCl [(h0, .inr (1, [.null, .ref o5, .ref o16, .ref o27, .int (iI 0), .int (iI 0), .long (lI 0), .long (lI 0), .long (lI 0)])), (o5, .inr (3, [.long (lI 0), .long (lI 1)])), (o16, .inr (3, [.long (lI 0), .long (lI 1)])), (o27, .inr (3, [.long (lI 0), .long (lI 1)]))] H := hP
  have hD : va_D _ [(h0, .inr (1, [.null, .ref o5, .ref o16, .ref o27, .int (iI 0), .int (iI 0), .long (lI 0), .long (lI 0), .long (lI 0)])), (o5, .inr (3, [.long (lI 0), .long (lI 1)])), (o16, .inr (3, [.long (lI 0), .long (lI 1)])), (o27, .inr (3, [.long (lI 0), .long (lI 1)]))] := hD
  refine lv_aload_n hx hb dX0_init_37 rfl (lv_at hl 0 rfl) ?_
  refine lv_aload_n hx hb dX0_init_38 rfl (lv_at hl 1 rfl) ?_
  refine va_putF (ci := 1) (v := .ref pl) (ty := .object "PowerPlot$Places") (C := RX0) (T := TX0) (N := 9) hx hb hts iz_X0_init_X0 tyX0 tyX0_ok nmX0 hown hK hP hD hS 0 rfl rfl 0 (by decide) (hts (.fieldLink RX0 24 "PowerPlot$Border" "places" "LPowerPlot$Places;") (by decide +kernel)) (fun _ h9 => h9) rfl hin rfl (by decide +kernel) rfl rfl (Nat.le_of_ble_eq_true rfl) dX0_init_39 (fun H locs hP hD hS => ?_)
  have hP : va_P D vwCl [(h0, .inr (1, [.ref pl, .ref o5, .ref o16, .ref o27, .int (iI 0), .int (iI 0), .long (lI 0), .long (lI 0), .long (lI 0)])), (o5, .inr (3, [.long (lI 0), .long (lI 1)])), (o16, .inr (3, [.long (lI 0), .long (lI 1)])), (o27, .inr (3, [.long (lI 0), .long (lI 1)]))] H := hP
  have hD : va_D _ [(h0, .inr (1, [.ref pl, .ref o5, .ref o16, .ref o27, .int (iI 0), .int (iI 0), .long (lI 0), .long (lI 0), .long (lI 0)])), (o5, .inr (3, [.long (lI 0), .long (lI 1)])), (o16, .inr (3, [.long (lI 0), .long (lI 1)])), (o27, .inr (3, [.long (lI 0), .long (lI 1)]))] := hD
  exact W.vret hx hb hr (fun t ht hW => ⟨⟨(o5, o16, o27), rfl, trivial, ⟨by rw [ht]; exact hP, hD⟩⟩, hS.F ht⟩) hS.2.2 dX0_init_42
theorem iz_X6_init_X5 : ∀ w ∈ u_ws RX5 TX5 1, w ∈ wsX6_init := by decide +kernel
theorem iz_X6_init_X6 : ∀ w ∈ u_ws RX6 TX6 4, w ∈ wsX6_init := by decide +kernel
set_option maxHeartbeats 4000000 in
set_option maxRecDepth 100000 in
/-- X6_init -/
theorem c_X6_init (l : Launch) (D : va_G) (sz : Nat) (tys : List (ClassId × FieldType)) (cA : ClassId) (hty : tys[0]? = some (cA, .int)) (h0 pl ce : Nat)  : Met l yX6_init wsX6_init ({ frames := 2, cells := 4, slots := 26, locals := 40 }) (zPn D [.ref h0, .ref pl, .ref ce] sz [(h0, .inr (7, [.null, .null, .null, .null]))] tys) (zWv (fun (u : Nat × Nat × Nat × Nat) => True) D (fun (u : Nat × Nat × Nat × Nat) => [(h0, .inr (7, [.ref pl, .ref ce, .ref u.1, .ref u.2.2.1])), (u.1, .inr (6, [.ref u.2.1])), (u.2.1, .inl (cA, 12, .inl (zF (fun _ => 0)))), (u.2.2.1, .inr (6, [.ref u.2.2.2])), (u.2.2.2, .inl (cA, 12, .inl (zF (fun _ => 0))))]) [(h0, .inr (7, [.null, .null, .null, .null]))] sz) 4 26 (va_A [(h0, .inr (7, [.null, .null, .null, .null]))] sz) := by
  refine Met.ofW (cc := cX6_init) (maxL := 3) (ret := none) (by decide +kernel) rfl ?_
  intro p e s m args below meth c s₁ B hml hv
  obtain ⟨rfl, hsz, hP, hK, hD0, hN⟩ := hv
  have hx := B.exec
  have hb := B.bytes
  have hr := B.returns
  have hts := atoms_spec (ws := wsX6_init) B.pre
  have hown : s.vm.findClass RX6 = some m.cls := findClass_of_methodNamed B.named
  have hlocks := B.notSynchronized
  have hin : meth.name = "<init>" := (name_of_methodNamed B.named B.method).1
  subst hsz
  have hD : va_D (va_A [(h0, .inr (7, [.null, .null, .null, .null]))] s.heap.size) [(h0, .inr (7, [.null, .null, .null, .null]))] := hD0.self
  have hS : va_S (va_A [(h0, .inr (7, [.null, .null, .null, .null]))] s.heap.size) s.heap s.heap [] := va_S.rf
  have hA : ∀ q9 : Nat, s.heap.size ≤ q9 → (va_A [(h0, .inr (7, [.null, .null, .null, .null]))] s.heap.size) q9 := fun q9 h => Or.inr h
  have hl := lv_entry ([.ref h0, .ref pl, .ref ce]) (n := 3) (Nat.le_of_ble_eq_true rfl)
  rw [lg_entry_eq]
  generalize (lg_sl ([.ref h0, .ref pl, .ref ce]) ++ List.replicate (3 - (lg_sl ([.ref h0, .ref pl, .ref ce])).length) Slot.unset).toArray = ls at hl ⊢
  have hl : lv_has ls 3 [(0, .ref h0), (1, .ref pl), (2, .ref ce)] := hl
  refine lv_aload_n hx hb dX6_init_0 rfl (lv_at hl 0 rfl) ?_
  refine W.objInit hx hb hown (hts (.methodLink RX6 3 objectInit) (by decide +kernel)) (hts (.instanceMethod objectInit) (by decide +kernel)) (hts _ (List.mem_cons_of_mem _ (List.mem_append_left _ (List.mem_of_getElem? (i := 2) rfl)))) rfl (by rw [hml]; exact hl.1) rfl dX6_init_1 (Nat.le_of_ble_eq_true rfl) (Nat.le_of_ble_eq_true rfl) ?_
  refine W.eq (g2 := F0 m 4 ls []) rfl ?_
  refine lv_aload_n hx hb dX6_init_4 rfl (lv_at hl 0 rfl) ?_
  refine va_new (ci := 6) (fs := [.null]) (C := RX5) (T := TX5) (N := 1) hx hb hts iz_X6_init_X5 tyX5 tyX5_ok hown (hts (.classLink RX6 9 RX5) (by decide +kernel)) (hts (.instantiable RX5 1) (by decide +kernel)) (hts (.initialized RX5) (by decide +kernel)) hK hP hD hS hA rfl (fun j hj => by rcases (show j = 0 by omega) with rfl <;> first | exact congrArg Value.int iI_0.symm | exact congrArg Value.long lI_0.symm | rfl) (Nat.le_of_ble_eq_true rfl) (Nat.le_of_ble_eq_true rfl) dX6_init_5 (fun o5 H hP hD hS => ?_)
  have hP : va_P D vwCl [(h0, .inr (7, [.null, .null, .null, .null])), (o5, .inr (6, [.null]))] H := hP
  have hD : va_D _ [(h0, .inr (7, [.null, .null, .null, .null])), (o5, .inr (6, [.null]))] := hD
  refine lv_dup hx hb dX6_init_8 rfl ?_
  refine zn_N (wr := [(h0, .inr (7, [.null, .null, .null, .null]))]) (As := []) (rest := [.ref o5, .ref h0]) ⟨hx, hb, hml, hown, hts⟩ (c_X5_init l D _ tys cA hty o5) ⟨va_cnB 0 hts ggX6_init_X5_init rfl rfl rfl hN.2.2.2.2 (hts (.initialized RX5) (by decide +kernel)) (by decide +kernel) ⟨(Nat.le_of_ble_eq_true rfl), (Nat.le_of_ble_eq_true rfl)⟩, rfl, hts (.instanceMethod yX5_init) (by decide +kernel)⟩ hN hP hK hD hS hA [1] rfl rfl [0] [0, 1, 2] rfl rfl (by decide) (fun _ => rfl) rfl rfl hl.1 rfl (Nat.le_of_ble_eq_true rfl) dX6_init_9 ⟨(Nat.le_of_ble_eq_true rfl), (Nat.le_of_ble_eq_true rfl)⟩ (ws1 := fun (u9 : Nat) => [(h0, .inr (7, [.null, .null, .null, .null])), (o5, .inr (6, [.ref u9])), (u9, .inl (cA, 12, .inl (zF (fun _ => 0))))]) (fun u9 H locs w9 hP hD hS => ?_)
  obtain ⟨n9_0, rfl⟩ : ∃ z, z = u9 := ⟨_, rfl⟩
  have hP : va_P D vwCl [(h0, .inr (7, [.null, .null, .null, .null])), (o5, .inr (6, [.ref n9_0])), (n9_0, .inl (cA, 12, .inl (zF (fun _ => 0))))] H := hP
  have hD : va_D _ [(h0, .inr (7, [.null, .null, .null, .null])), (o5, .inr (6, [.ref n9_0])), (n9_0, .inl (cA, 12, .inl (zF (fun _ => 0))))] := hD
  refine va_putF (ci := 7) (v := .ref o5) (ty := .object "PowerPlot$Row") (C := RX6) (T := TX6) (N := 4) hx hb hts iz_X6_init_X6 tyX6 tyX6_ok nmX6 hown hK hP hD hS 0 rfl rfl 2 (by decide) (hts (.fieldLink RX6 12 "PowerPlot$Scales" "excesses" "LPowerPlot$Row;") (by decide +kernel)) (fun _ h9 => h9) rfl hin rfl (by decide +kernel) rfl rfl (Nat.le_of_ble_eq_true rfl) dX6_init_12 (fun H locs hP hD hS => ?_)
  have hP : va_P D vwCl [(h0, .inr (7, [.null, .null, .ref o5, .null])), (o5, .inr (6, [.ref n9_0])), (n9_0, .inl (cA, 12, .inl (zF (fun _ => 0))))] H := hP
  have hD : va_D _ [(h0, .inr (7, [.null, .null, .ref o5, .null])), (o5, .inr (6, [.ref n9_0])), (n9_0, .inl (cA, 12, .inl (zF (fun _ => 0))))] := hD
  refine lv_aload_n hx hb dX6_init_15 rfl (lv_at hl 0 rfl) ?_
  refine va_new (ci := 6) (fs := [.null]) (C := RX5) (T := TX5) (N := 1) hx hb hts iz_X6_init_X5 tyX5 tyX5_ok hown (hts (.classLink RX6 9 RX5) (by decide +kernel)) (hts (.instantiable RX5 1) (by decide +kernel)) (hts (.initialized RX5) (by decide +kernel)) hK hP hD hS hA rfl (fun j hj => by rcases (show j = 0 by omega) with rfl <;> first | exact congrArg Value.int iI_0.symm | exact congrArg Value.long lI_0.symm | rfl) (Nat.le_of_ble_eq_true rfl) (Nat.le_of_ble_eq_true rfl) dX6_init_16 (fun o16 H hP hD hS => ?_)
  have hP : va_P D vwCl [(h0, .inr (7, [.null, .null, .ref o5, .null])), (o5, .inr (6, [.ref n9_0])), (n9_0, .inl (cA, 12, .inl (zF (fun _ => 0)))), (o16, .inr (6, [.null]))] H := hP
  have hD : va_D _ [(h0, .inr (7, [.null, .null, .ref o5, .null])), (o5, .inr (6, [.ref n9_0])), (n9_0, .inl (cA, 12, .inl (zF (fun _ => 0)))), (o16, .inr (6, [.null]))] := hD
  refine lv_dup hx hb dX6_init_19 rfl ?_
  refine zn_N (wr := [(h0, .inr (7, [.null, .null, .ref o5, .null])), (o5, .inr (6, [.ref n9_0])), (n9_0, .inl (cA, 12, .inl (zF (fun _ => 0))))]) (As := []) (rest := [.ref o16, .ref h0]) ⟨hx, hb, hml, hown, hts⟩ (c_X5_init l D _ tys cA hty o16) ⟨va_cnB 0 hts ggX6_init_X5_init rfl rfl rfl hN.2.2.2.2 (hts (.initialized RX5) (by decide +kernel)) (by decide +kernel) ⟨(Nat.le_of_ble_eq_true rfl), (Nat.le_of_ble_eq_true rfl)⟩, rfl, hts (.instanceMethod yX5_init) (by decide +kernel)⟩ hN hP hK hD hS hA [3] rfl rfl [0, 1, 2] [0, 1, 2, 3, 4] rfl rfl (by decide) (fun _ => rfl) rfl rfl hl.1 rfl (Nat.le_of_ble_eq_true rfl) dX6_init_20 ⟨(Nat.le_of_ble_eq_true rfl), (Nat.le_of_ble_eq_true rfl)⟩ (ws1 := fun (u9 : Nat) => [(h0, .inr (7, [.null, .null, .ref o5, .null])), (o5, .inr (6, [.ref n9_0])), (n9_0, .inl (cA, 12, .inl (zF (fun _ => 0)))), (o16, .inr (6, [.ref u9])), (u9, .inl (cA, 12, .inl (zF (fun _ => 0))))]) (fun u20 H locs w20 hP hD hS => ?_)
  obtain ⟨n20_0, rfl⟩ : ∃ z, z = u20 := ⟨_, rfl⟩
  have hP : va_P D vwCl [(h0, .inr (7, [.null, .null, .ref o5, .null])), (o5, .inr (6, [.ref n9_0])), (n9_0, .inl (cA, 12, .inl (zF (fun _ => 0)))), (o16, .inr (6, [.ref n20_0])), (n20_0, .inl (cA, 12, .inl (zF (fun _ => 0))))] H := hP
  have hD : va_D _ [(h0, .inr (7, [.null, .null, .ref o5, .null])), (o5, .inr (6, [.ref n9_0])), (n9_0, .inl (cA, 12, .inl (zF (fun _ => 0)))), (o16, .inr (6, [.ref n20_0])), (n20_0, .inl (cA, 12, .inl (zF (fun _ => 0))))] := hD
  refine va_putF (ci := 7) (v := .ref o16) (ty := .object "PowerPlot$Row") (C := RX6) (T := TX6) (N := 4) hx hb hts iz_X6_init_X6 tyX6 tyX6_ok nmX6 hown hK hP hD hS 0 rfl rfl 3 (by decide) (hts (.fieldLink RX6 18 "PowerPlot$Scales" "kept" "LPowerPlot$Row;") (by decide +kernel)) (fun _ h9 => h9) rfl hin rfl (by decide +kernel) rfl rfl (Nat.le_of_ble_eq_true rfl) dX6_init_23 (fun H locs hP hD hS => ?_)
  have hP : va_P D vwCl [(h0, .inr (7, [.null, .null, .ref o5, .ref o16])), (o5, .inr (6, [.ref n9_0])), (n9_0, .inl (cA, 12, .inl (zF (fun _ => 0)))), (o16, .inr (6, [.ref n20_0])), (n20_0, .inl (cA, 12, .inl (zF (fun _ => 0))))] H := hP
  have hD : va_D _ [(h0, .inr (7, [.null, .null, .ref o5, .ref o16])), (o5, .inr (6, [.ref n9_0])), (n9_0, .inl (cA, 12, .inl (zF (fun _ => 0)))), (o16, .inr (6, [.ref n20_0])), (n20_0, .inl (cA, 12, .inl (zF (fun _ => 0))))] := hD
  refine lv_aload_n hx hb dX6_init_26 rfl (lv_at hl 0 rfl) ?_
  refine lv_aload_n hx hb dX6_init_27 rfl (lv_at hl 1 rfl) ?_
  refine va_putF (ci := 7) (v := .ref pl) (ty := .object "PowerPlot$Places") (C := RX6) (T := TX6) (N := 4) hx hb hts iz_X6_init_X6 tyX6 tyX6_ok nmX6 hown hK hP hD hS 0 rfl rfl 0 (by decide) (hts (.fieldLink RX6 21 "PowerPlot$Scales" "places" "LPowerPlot$Places;") (by decide +kernel)) (fun _ h9 => h9) rfl hin rfl (by decide +kernel) rfl rfl (Nat.le_of_ble_eq_true rfl) dX6_init_28 (fun H locs hP hD hS => ?_)
  have hP : va_P D vwCl [(h0, .inr (7, [.ref pl, .null, .ref o5, .ref o16])), (o5, .inr (6, [.ref n9_0])), (n9_0, .inl (cA, 12, .inl (zF (fun _ => 0)))), (o16, .inr (6, [.ref n20_0])), (n20_0, .inl (cA, 12, .inl (zF (fun _ => 0))))] H := hP
  have hD : va_D _ [(h0, .inr (7, [.ref pl, .null, .ref o5, .ref o16])), (o5, .inr (6, [.ref n9_0])), (n9_0, .inl (cA, 12, .inl (zF (fun _ => 0)))), (o16, .inr (6, [.ref n20_0])), (n20_0, .inl (cA, 12, .inl (zF (fun _ => 0))))] := hD
  refine lv_aload_n hx hb dX6_init_31 rfl (lv_at hl 0 rfl) ?_
  refine lv_aload_n hx hb dX6_init_32 rfl (lv_at hl 2 rfl) ?_
  refine va_putF (ci := 7) (v := .ref ce) (ty := .object "PowerPlot$Cells") (C := RX6) (T := TX6) (N := 4) hx hb hts iz_X6_init_X6 tyX6 tyX6_ok nmX6 hown hK hP hD hS 0 rfl rfl 1 (by decide) (hts (.fieldLink RX6 25 "PowerPlot$Scales" "cells" "LPowerPlot$Cells;") (by decide +kernel)) (fun _ h9 => h9) rfl hin rfl (by decide +kernel) rfl rfl (Nat.le_of_ble_eq_true rfl) dX6_init_33 (fun H locs hP hD hS => ?_)
  have hP : va_P D vwCl [(h0, .inr (7, [.ref pl, .ref ce, .ref o5, .ref o16])), (o5, .inr (6, [.ref n9_0])), (n9_0, .inl (cA, 12, .inl (zF (fun _ => 0)))), (o16, .inr (6, [.ref n20_0])), (n20_0, .inl (cA, 12, .inl (zF (fun _ => 0))))] H := hP
  have hD : va_D _ [(h0, .inr (7, [.ref pl, .ref ce, .ref o5, .ref o16])), (o5, .inr (6, [.ref n9_0])), (n9_0, .inl (cA, 12, .inl (zF (fun _ => 0)))), (o16, .inr (6, [.ref n20_0])), (n20_0, .inl (cA, 12, .inl (zF (fun _ => 0))))] := hD
  exact W.vret hx hb hr (fun t ht hW => ⟨⟨(o5, n9_0, o16, n20_0), rfl, trivial, ⟨by rw [ht]; exact hP, hD⟩⟩, hS.F ht⟩) hS.2.2 dX6_init_36
