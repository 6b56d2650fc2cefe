set_option maxHeartbeats 4000000 in
set_option maxRecDepth 100000 in
/-- PowerPlotModel.in -/
theorem c_X8_in (l : Launch) (D : va_G) (sz : Nat) (tys : List (ClassId × FieldType)) (cA : ClassId) (hty : tys[0]? = some (cA, .int)) (v lo hi : Int) (g1 : -2147483648 ≤ v ∧ v ≤ 2147483647) (g2 : -2147483648 ≤ lo ∧ lo ≤ 2147483647) (g3 : -2147483648 ≤ hi ∧ hi ≤ 2147483647) : Met l yX8_in wsX8_in ({ frames := 0, cells := 0, slots := 0, locals := 0 }) (zP D [.int (iI v), .int (iI lo), .int (iI hi)] sz [] tys) (zRi (bI (lo ≤ v ∧ v ≤ hi)) sz) 0 0 (zN sz) := by
  refine Met.ofW (cc := cX8_in) (maxL := 3) (ret := (some .boolean)) (by decide +kernel) rfl ?_
  intro p e s m args below meth c s₁ B hml hv
  obtain ⟨rfl, hsz, hP, hK, hD0⟩ := hv
  have hx := B.exec
  have hb := B.bytes
  have hr := B.returns
  have hts := atoms_spec (ws := wsX8_in) B.pre
  have hown : s.vm.findClass RX8 = some m.cls := findClass_of_methodNamed B.named
  have hlocks := B.notSynchronized
  subst hsz
  have hD := hD0
  have hS : va_S (zN s.heap.size) s.heap s.heap [] := va_S.rf
  have hA : ∀ q9 : Nat, s.heap.size ≤ q9 → (zN s.heap.size) q9 := fun q9 h => h
  have hl := lv_entry ([.int (iI v), .int (iI lo), .int (iI hi)]) (n := 3) (Nat.le_of_ble_eq_true rfl)
  rw [lg_entry_eq]
  generalize (lg_sl ([.int (iI v), .int (iI lo), .int (iI hi)]) ++ List.replicate (3 - (lg_sl ([.int (iI v), .int (iI lo), .int (iI hi)])).length) Slot.unset).toArray = ls at hl ⊢
  have hl : lv_has ls 3 [(0, .int (iI v)), (1, .int (iI lo)), (2, .int (iI hi))] := hl
  refine lv_iload_n hx hb dX8_in_0 rfl (lv_at hl 0 rfl) ?_
  refine lv_iload_n hx hb dX8_in_1 rfl (lv_at hl 1 rfl) ?_
  refine zi_icmp_lt (tgt := 14) hx hb dX8_in_2 (by decide) (by omega) (by omega) (fun c2 => ?_) (fun c2 => ?_)
  · skip
    refine lv_iconst (v := iI 0) hx hb dX8_in_14 rfl ?_
    exact W.zret (v := iI 0) (ty := .boolean) hx hb hr (by decide) (fun t ht hW => ⟨⟨iI 0, (), rfl, congrArg iI (show 0 = bI (lo ≤ v ∧ v ≤ hi) from by first | exact (bI_t (by omega)).symm | exact (bI_f (by omega)).symm), trivial⟩, hS.F ht⟩) hS.2.2 dX8_in_15
  · skip
    refine lv_iload_n hx hb dX8_in_5 rfl (lv_at hl 0 rfl) ?_
    refine lv_iload_n hx hb dX8_in_6 rfl (lv_at hl 2 rfl) ?_
    refine zi_icmp_gt (tgt := 14) hx hb dX8_in_7 (by decide) (by omega) (by omega) (fun c7 => ?_) (fun c7 => ?_)
    · skip
      refine lv_iconst (v := iI 0) hx hb dX8_in_14 rfl ?_
      exact W.zret (v := iI 0) (ty := .boolean) hx hb hr (by decide) (fun t ht hW => ⟨⟨iI 0, (), rfl, congrArg iI (show 0 = bI (lo ≤ v ∧ v ≤ hi) from by first | exact (bI_t (by omega)).symm | exact (bI_f (by omega)).symm), trivial⟩, hS.F ht⟩) hS.2.2 dX8_in_15
    · skip
      refine lv_iconst (v := iI 1) hx hb dX8_in_10 rfl ?_
      refine lv_goto (tgt := 15) hx hb dX8_in_11 (by decide) ?_
      exact W.zret (v := iI 1) (ty := .boolean) hx hb hr (by decide) (fun t ht hW => ⟨⟨iI 1, (), rfl, congrArg iI (show 1 = bI (lo ≤ v ∧ v ≤ hi) from by first | exact (bI_t (by omega)).symm | exact (bI_f (by omega)).symm), trivial⟩, hS.F ht⟩) hS.2.2 dX8_in_15
set_option maxHeartbeats 4000000 in
set_option maxRecDepth 100000 in
/-- PowerPlotModel.size -/
theorem c_X8_size (l : Launch) (D : va_G) (sz : Nat) (tys : List (ClassId × FieldType)) (cA : ClassId) (hty : tys[0]? = some (cA, .int)) (v : Int) (g1 : -2147483647 ≤ v ∧ v ≤ 2147483647) : Met l yX8_size wsX8_size ({ frames := 0, cells := 0, slots := 0, locals := 0 }) (zP D [.int (iI v)] sz [] tys) (zRi (zab v) sz) 0 0 (zN sz) := by
  refine Met.ofW (cc := cX8_size) (maxL := 1) (ret := (some .int)) (by decide +kernel) rfl ?_
  intro p e s m args below meth c s₁ B hml hv
  obtain ⟨rfl, hsz, hP, hK, hD0⟩ := hv
  have hx := B.exec
  have hb := B.bytes
  have hr := B.returns
  have hts := atoms_spec (ws := wsX8_size) B.pre
  have hown : s.vm.findClass RX8 = some m.cls := findClass_of_methodNamed B.named
  have hlocks := B.notSynchronized
  subst hsz
  have hD := hD0
  have hS : va_S (zN s.heap.size) s.heap s.heap [] := va_S.rf
  have hA : ∀ q9 : Nat, s.heap.size ≤ q9 → (zN s.heap.size) q9 := fun q9 h => h
  have hl := lv_entry ([.int (iI v)]) (n := 1) (Nat.le_of_ble_eq_true rfl)
  rw [lg_entry_eq]
  generalize (lg_sl ([.int (iI v)]) ++ List.replicate (1 - (lg_sl ([.int (iI v)])).length) Slot.unset).toArray = ls at hl ⊢
  have hl : lv_has ls 1 [(0, .int (iI v))] := hl
  refine lv_iload_n hx hb dX8_size_0 rfl (lv_at hl 0 rfl) ?_
  refine zi_if_ge (tgt := 9) hx hb dX8_size_1 (by decide) (by omega) (fun c1 => ?_) (fun c1 => ?_)
  · skip
    refine lv_iload_n hx hb dX8_size_9 rfl (lv_at hl 0 rfl) ?_
    exact W.iret (v := iI v) hx hb hr (fun t ht hW => ⟨⟨iI v, (), rfl, congrArg iI (show v = zab v from by unfold zab; first | exact (if_pos (by omega)).symm | exact (if_neg (by omega)).symm), trivial⟩, hS.F ht⟩) hS.2.2 dX8_size_10
  · skip
    refine lv_iload_n hx hb dX8_size_4 rfl (lv_at hl 0 rfl) ?_
    refine zi_ineg hx hb dX8_size_5 ?_
    refine lv_goto (tgt := 10) hx hb dX8_size_6 (by decide) ?_
    exact W.iret (v := iI (-v)) hx hb hr (fun t ht hW => ⟨⟨iI (-v), (), rfl, congrArg iI (show -v = zab v from by unfold zab; first | exact (if_pos (by omega)).symm | exact (if_neg (by omega)).symm), trivial⟩, hS.F ht⟩) hS.2.2 dX8_size_10
theorem iz_X8_thrown_X8 : ∀ w ∈ u_ws RX8 TX8 17, w ∈ wsX8_thrown := by decide +kernel
set_option maxHeartbeats 4000000 in
set_option maxRecDepth 100000 in
/-- PowerPlotModel.thrown -/
theorem c_X8_thrown (l : Launch) (D : va_G) (sz : Nat) (tys : List (ClassId × FieldType)) (cA : ClassId) (hty : tys[0]? = some (cA, .int)) (q : Nat → Nat) (th N : Int) (Xs Ys Wt Cp sh kp : Int → Int) (iu ax ay ri lT lL hT hL ig : Int)  : Met l yX8_thrown wsX8_thrown ({ frames := 0, cells := 0, slots := 0, locals := 0 }) (zP D [.ref (q 0)] sz [(q 0, .inr (9, [.int (iI th), .int (iI N), .ref (q 1), .ref (q 2), .ref (q 3), .ref (q 4), .ref (q 5), .ref (q 6), .int (iI iu), .int (iI ax), .int (iI ay), .int (iI ri), .long (lI lT), .long (lI lL), .long (lI hT), .long (lI hL), .int (iI ig)])), (q 1, .inl (cA, 12, .inl (zF Xs))), (q 2, .inl (cA, 12, .inl (zF Ys))), (q 3, .inl (cA, 12, .inl (zF Wt))), (q 4, .inl (cA, 12, .inl (zF Cp))), (q 5, .inl (cA, 12, .inl (zF sh))), (q 6, .inl (cA, 12, .inl (zF kp)))] tys) (zRi th sz) 0 0 (zN sz) := by
  refine Met.ofW (cc := cX8_thrown) (maxL := 1) (ret := (some .int)) (by decide +kernel) rfl ?_
  intro p e s m args below meth c s₁ B hml hv
  obtain ⟨rfl, hsz, hP, hK, hD0⟩ := hv
  have hx := B.exec
  have hb := B.bytes
  have hr := B.returns
  have hts := atoms_spec (ws := wsX8_thrown) B.pre
  have hown : s.vm.findClass RX8 = some m.cls := findClass_of_methodNamed B.named
  have hlocks := B.notSynchronized
  subst hsz
  have hD := hD0
  have hS : va_S (zN s.heap.size) s.heap s.heap [] := va_S.rf
  have hA : ∀ q9 : Nat, s.heap.size ≤ q9 → (zN s.heap.size) q9 := fun q9 h => h
  have hl := lv_entry ([.ref (q 0)]) (n := 1) (Nat.le_of_ble_eq_true rfl)
  rw [lg_entry_eq]
  generalize (lg_sl ([.ref (q 0)]) ++ List.replicate (1 - (lg_sl ([.ref (q 0)])).length) Slot.unset).toArray = ls at hl ⊢
  have hl : lv_has ls 1 [(0, .ref (q 0))] := hl
  refine lv_aload_n hx hb dX8_thrown_0 rfl (lv_at hl 0 rfl) ?_
  refine va_get (ci := 9) (v := .int (iI th)) (C := RX8) (T := TX8) (N := 17) hx hb hts iz_X8_thrown_X8 hown hK hP 0 rfl rfl 0 (by decide) (hts (.fieldLink RX8 28 "PowerPlotModel" "thrown" "I") (by decide +kernel)) (fun _ h9 => h9) rfl dX8_thrown_1 ?_
  exact W.iret (v := iI th) hx hb hr (fun t ht hW => ⟨⟨iI th, (), rfl, congrArg iI (show th = th from by rfl), trivial⟩, hS.F ht⟩) hS.2.2 dX8_thrown_4
theorem iz_X8_isSite_X8 : ∀ w ∈ u_ws RX8 TX8 17, w ∈ wsX8_isSite := by decide +kernel
set_option maxHeartbeats 4000000 in
set_option maxRecDepth 100000 in
/-- PowerPlotModel.isSite -/
theorem c_X8_isSite (l : Launch) (D : va_G) (sz : Nat) (tys : List (ClassId × FieldType)) (cA : ClassId) (hty : tys[0]? = some (cA, .int)) (q : Nat → Nat) (th N : Int) (Xs Ys Wt Cp sh kp : Int → Int) (iu ax ay ri lT lL hT hL ig : Int) (k : Int) (gN : 0 ≤ N ∧ N ≤ 12) (gk : -2147483648 ≤ k ∧ k ≤ 2147483647) : Met l yX8_isSite wsX8_isSite ({ frames := 1, cells := 0, slots := 0, locals := 22 }) (zP D [.ref (q 0), .int (iI k)] sz [(q 0, .inr (9, [.int (iI th), .int (iI N), .ref (q 1), .ref (q 2), .ref (q 3), .ref (q 4), .ref (q 5), .ref (q 6), .int (iI iu), .int (iI ax), .int (iI ay), .int (iI ri), .long (lI lT), .long (lI lL), .long (lI hT), .long (lI hL), .int (iI ig)])), (q 1, .inl (cA, 12, .inl (zF Xs))), (q 2, .inl (cA, 12, .inl (zF Ys))), (q 3, .inl (cA, 12, .inl (zF Wt))), (q 4, .inl (cA, 12, .inl (zF Cp))), (q 5, .inl (cA, 12, .inl (zF sh))), (q 6, .inl (cA, 12, .inl (zF kp)))] tys) (zRi (bI (0 ≤ k ∧ k ≤ N - 1)) sz) 0 0 (zN sz) := by
  refine Met.ofW (cc := cX8_isSite) (maxL := 2) (ret := (some .boolean)) (by decide +kernel) rfl ?_
  intro p e s m args below meth c s₁ B hml hv
  obtain ⟨rfl, hsz, hP, hK, hD0⟩ := hv
  have hx := B.exec
  have hb := B.bytes
  have hr := B.returns
  have hts := atoms_spec (ws := wsX8_isSite) B.pre
  have hown : s.vm.findClass RX8 = some m.cls := findClass_of_methodNamed B.named
  have hlocks := B.notSynchronized
  subst hsz
  have hD := hD0
  have hS : va_S (zN s.heap.size) s.heap s.heap [] := va_S.rf
  have hA : ∀ q9 : Nat, s.heap.size ≤ q9 → (zN s.heap.size) q9 := fun q9 h => h
  have hl := lv_entry ([.ref (q 0), .int (iI k)]) (n := 2) (Nat.le_of_ble_eq_true rfl)
  rw [lg_entry_eq]
  generalize (lg_sl ([.ref (q 0), .int (iI k)]) ++ List.replicate (2 - (lg_sl ([.ref (q 0), .int (iI k)])).length) Slot.unset).toArray = ls at hl ⊢
  have hl : lv_has ls 2 [(0, .ref (q 0)), (1, .int (iI k))] := hl
  refine lv_iload_n hx hb dX8_isSite_0 rfl (lv_at hl 1 rfl) ?_
  refine lv_iconst (v := iI 0) hx hb dX8_isSite_1 rfl ?_
  refine lv_aload_n hx hb dX8_isSite_2 rfl (lv_at hl 0 rfl) ?_
  refine va_get (ci := 9) (v := .int (iI N)) (C := RX8) (T := TX8) (N := 17) hx hb hts iz_X8_isSite_X8 hown hK hP 0 rfl rfl 1 (by decide) (hts (.fieldLink RX8 32 "PowerPlotModel" "sites" "I") (by decide +kernel)) (fun _ h9 => h9) rfl dX8_isSite_3 ?_
  refine lv_iconst (v := iI 1) hx hb dX8_isSite_6 rfl ?_
  refine zi_isub hx hb dX8_isSite_7 ?_
  refine zc_riS (As := [.int (iI k), .int (iI 0), .int (iI (N - 1))]) (rest := []) ⟨hx, hb, hml, hown, hts⟩ (c_X8_in l D _ tys cA hty k 0 (N - 1) (by omega) (by omega) (by omega)) (va_cwS 3 hts gX8_isSite_X8_in rfl rfl rfl (by decide +kernel) ⟨(Nat.le_of_ble_eq_true rfl), (Nat.le_of_ble_eq_true rfl)⟩) hP hK hD hS hA [] rfl rfl rfl hl.1 rfl (Nat.le_of_ble_eq_true rfl) dX8_isSite_8 ⟨Nat.zero_le _, Nat.zero_le _⟩ (fun H locs hP hS => ?_)
  exact W.zret (v := iI (bI (0 ≤ k ∧ k ≤ (N - 1)))) (ty := .boolean) hx hb hr (bI_nar _) (fun t ht hW => ⟨⟨iI (bI (0 ≤ k ∧ k ≤ (N - 1))), (), rfl, congrArg iI (show bI (0 ≤ k ∧ k ≤ (N - 1)) = bI (0 ≤ k ∧ k ≤ N - 1) from by rfl), trivial⟩, hS.F ht⟩) hS.2.2 dX8_isSite_11
theorem iz_X8_powerOf_X8 : ∀ w ∈ u_ws RX8 TX8 17, w ∈ wsX8_powerOf := by decide +kernel
set_option maxHeartbeats 4000000 in
set_option maxRecDepth 100000 in
/-- PowerPlotModel.powerOf -/
theorem c_X8_powerOf (l : Launch) (D : va_G) (sz : Nat) (tys : List (ClassId × FieldType)) (cA : ClassId) (hty : tys[0]? = some (cA, .int)) (q : Nat → Nat) (th N : Int) (Xs Ys Wt Cp sh kp : Int → Int) (iu ax ay ri lT lL hT hL ig : Int) (k x y : Int) (gk : 0 ≤ k ∧ k < 12) : Met l yX8_powerOf wsX8_powerOf ({ frames := 0, cells := 0, slots := 0, locals := 0 }) (zP D [.ref (q 0), .int (iI k), .int (iI x), .int (iI y)] sz [(q 0, .inr (9, [.int (iI th), .int (iI N), .ref (q 1), .ref (q 2), .ref (q 3), .ref (q 4), .ref (q 5), .ref (q 6), .int (iI iu), .int (iI ax), .int (iI ay), .int (iI ri), .long (lI lT), .long (lI lL), .long (lI hT), .long (lI hL), .int (iI ig)])), (q 1, .inl (cA, 12, .inl (zF Xs))), (q 2, .inl (cA, 12, .inl (zF Ys))), (q 3, .inl (cA, 12, .inl (zF Wt))), (q 4, .inl (cA, 12, .inl (zF Cp))), (q 5, .inl (cA, 12, .inl (zF sh))), (q 6, .inl (cA, 12, .inl (zF kp)))] tys) (zRi (zPw Xs Ys Wt k x y) sz) 0 0 (zN sz) := by
  refine Met.ofW (cc := cX8_powerOf) (maxL := 4) (ret := (some .int)) (by decide +kernel) rfl ?_
  intro p e s m args below meth c s₁ B hml hv
  obtain ⟨rfl, hsz, hP, hK, hD0⟩ := hv
  have hx := B.exec
  have hb := B.bytes
  have hr := B.returns
  have hts := atoms_spec (ws := wsX8_powerOf) B.pre
  have hown : s.vm.findClass RX8 = some m.cls := findClass_of_methodNamed B.named
  have hlocks := B.notSynchronized
  subst hsz
  have hD := hD0
  have hS : va_S (zN s.heap.size) s.heap s.heap [] := va_S.rf
  have hA : ∀ q9 : Nat, s.heap.size ≤ q9 → (zN s.heap.size) q9 := fun q9 h => h
  have hl := lv_entry ([.ref (q 0), .int (iI k), .int (iI x), .int (iI y)]) (n := 4) (Nat.le_of_ble_eq_true rfl)
  rw [lg_entry_eq]
  generalize (lg_sl ([.ref (q 0), .int (iI k), .int (iI x), .int (iI y)]) ++ List.replicate (4 - (lg_sl ([.ref (q 0), .int (iI k), .int (iI x), .int (iI y)])).length) Slot.unset).toArray = ls at hl ⊢
  have hl : lv_has ls 4 [(0, .ref (q 0)), (1, .int (iI k)), (2, .int (iI x)), (3, .int (iI y))] := hl
  refine lv_iload_n hx hb dX8_powerOf_0 rfl (lv_at hl 2 rfl) ?_
  refine lv_aload_n hx hb dX8_powerOf_1 rfl (lv_at hl 0 rfl) ?_
  refine va_get (ci := 9) (v := .ref (q 1)) (C := RX8) (T := TX8) (N := 17) hx hb hts iz_X8_powerOf_X8 hown hK hP 0 rfl rfl 2 (by decide) (hts (.fieldLink RX8 7 "PowerPlotModel" "x" "[I") (by decide +kernel)) (fun _ h9 => h9) rfl dX8_powerOf_2 ?_
  refine lv_iload_n hx hb dX8_powerOf_5 rfl (lv_at hl 1 rfl) ?_
  refine zi_iald hx hb hK hP 1 0 rfl hty (by decide) (by omega) dX8_powerOf_6 ?_
  refine zi_isub hx hb dX8_powerOf_7 ?_
  refine lv_iload_n hx hb dX8_powerOf_8 rfl (lv_at hl 2 rfl) ?_
  refine lv_aload_n hx hb dX8_powerOf_9 rfl (lv_at hl 0 rfl) ?_
  refine va_get (ci := 9) (v := .ref (q 1)) (C := RX8) (T := TX8) (N := 17) hx hb hts iz_X8_powerOf_X8 hown hK hP 0 rfl rfl 2 (by decide) (hts (.fieldLink RX8 7 "PowerPlotModel" "x" "[I") (by decide +kernel)) (fun _ h9 => h9) rfl dX8_powerOf_10 ?_
  refine lv_iload_n hx hb dX8_powerOf_13 rfl (lv_at hl 1 rfl) ?_
  refine zi_iald hx hb hK hP 1 0 rfl hty (by decide) (by omega) dX8_powerOf_14 ?_
  refine zi_isub hx hb dX8_powerOf_15 ?_
  refine zi_imul hx hb dX8_powerOf_16 ?_
  refine lv_iload_n hx hb dX8_powerOf_17 rfl (lv_at hl 3 rfl) ?_
  refine lv_aload_n hx hb dX8_powerOf_18 rfl (lv_at hl 0 rfl) ?_
  refine va_get (ci := 9) (v := .ref (q 2)) (C := RX8) (T := TX8) (N := 17) hx hb hts iz_X8_powerOf_X8 hown hK hP 0 rfl rfl 3 (by decide) (hts (.fieldLink RX8 13 "PowerPlotModel" "y" "[I") (by decide +kernel)) (fun _ h9 => h9) rfl dX8_powerOf_19 ?_
  refine lv_iload_n hx hb dX8_powerOf_22 rfl (lv_at hl 1 rfl) ?_
  refine zi_iald hx hb hK hP 2 0 rfl hty (by decide) (by omega) dX8_powerOf_23 ?_
  refine zi_isub hx hb dX8_powerOf_24 ?_
  refine lv_iload_n hx hb dX8_powerOf_25 rfl (lv_at hl 3 rfl) ?_
  refine lv_aload_n hx hb dX8_powerOf_26 rfl (lv_at hl 0 rfl) ?_
  refine va_get (ci := 9) (v := .ref (q 2)) (C := RX8) (T := TX8) (N := 17) hx hb hts iz_X8_powerOf_X8 hown hK hP 0 rfl rfl 3 (by decide) (hts (.fieldLink RX8 13 "PowerPlotModel" "y" "[I") (by decide +kernel)) (fun _ h9 => h9) rfl dX8_powerOf_27 ?_
  refine lv_iload_n hx hb dX8_powerOf_30 rfl (lv_at hl 1 rfl) ?_
  refine zi_iald hx hb hK hP 2 0 rfl hty (by decide) (by omega) dX8_powerOf_31 ?_
  refine zi_isub hx hb dX8_powerOf_32 ?_
  refine zi_imul hx hb dX8_powerOf_33 ?_
  refine zi_iadd hx hb dX8_powerOf_34 ?_
  refine lv_aload_n hx hb dX8_powerOf_35 rfl (lv_at hl 0 rfl) ?_
  refine va_get (ci := 9) (v := .ref (q 3)) (C := RX8) (T := TX8) (N := 17) hx hb hts iz_X8_powerOf_X8 hown hK hP 0 rfl rfl 4 (by decide) (hts (.fieldLink RX8 16 "PowerPlotModel" "weight" "[I") (by decide +kernel)) (fun _ h9 => h9) rfl dX8_powerOf_36 ?_
  refine lv_iload_n hx hb dX8_powerOf_39 rfl (lv_at hl 1 rfl) ?_
  refine zi_iald hx hb hK hP 3 0 rfl hty (by decide) (by omega) dX8_powerOf_40 ?_
  refine zi_isub hx hb dX8_powerOf_41 ?_
  exact W.iret (v := iI ((((x - (Xs k)) * (x - (Xs k))) + ((y - (Ys k)) * (y - (Ys k)))) - (Wt k))) hx hb hr (fun t ht hW => ⟨⟨iI ((((x - (Xs k)) * (x - (Xs k))) + ((y - (Ys k)) * (y - (Ys k)))) - (Wt k)), (), rfl, congrArg iI (show (((x - (Xs k)) * (x - (Xs k))) + ((y - (Ys k)) * (y - (Ys k)))) - (Wt k) = zPw Xs Ys Wt k x y from by rfl), trivial⟩, hS.F ht⟩) hS.2.2 dX8_powerOf_42
theorem iz_X8_height_X8 : ∀ w ∈ u_ws RX8 TX8 17, w ∈ wsX8_height := by decide +kernel
set_option maxHeartbeats 4000000 in
set_option maxRecDepth 100000 in
/-- PowerPlotModel.height -/
theorem c_X8_height (l : Launch) (D : va_G) (sz : Nat) (tys : List (ClassId × FieldType)) (cA : ClassId) (hty : tys[0]? = some (cA, .int)) (q : Nat → Nat) (th N : Int) (Xs Ys Wt Cp sh kp : Int → Int) (iu ax ay ri lT lL hT hL ig : Int) (k : Int) (gk : 0 ≤ k ∧ k < 12) : Met l yX8_height wsX8_height ({ frames := 0, cells := 0, slots := 0, locals := 0 }) (zP D [.ref (q 0), .int (iI k)] sz [(q 0, .inr (9, [.int (iI th), .int (iI N), .ref (q 1), .ref (q 2), .ref (q 3), .ref (q 4), .ref (q 5), .ref (q 6), .int (iI iu), .int (iI ax), .int (iI ay), .int (iI ri), .long (lI lT), .long (lI lL), .long (lI hT), .long (lI hL), .int (iI ig)])), (q 1, .inl (cA, 12, .inl (zF Xs))), (q 2, .inl (cA, 12, .inl (zF Ys))), (q 3, .inl (cA, 12, .inl (zF Wt))), (q 4, .inl (cA, 12, .inl (zF Cp))), (q 5, .inl (cA, 12, .inl (zF sh))), (q 6, .inl (cA, 12, .inl (zF kp)))] tys) (zRi (zHt Xs Ys Wt k) sz) 0 0 (zN sz) := by
  refine Met.ofW (cc := cX8_height) (maxL := 2) (ret := (some .int)) (by decide +kernel) rfl ?_
  intro p e s m args below meth c s₁ B hml hv
  obtain ⟨rfl, hsz, hP, hK, hD0⟩ := hv
  have hx := B.exec
  have hb := B.bytes
  have hr := B.returns
  have hts := atoms_spec (ws := wsX8_height) B.pre
  have hown : s.vm.findClass RX8 = some m.cls := findClass_of_methodNamed B.named
  have hlocks := B.notSynchronized
  subst hsz
  have hD := hD0
  have hS : va_S (zN s.heap.size) s.heap s.heap [] := va_S.rf
  have hA : ∀ q9 : Nat, s.heap.size ≤ q9 → (zN s.heap.size) q9 := fun q9 h => h
  have hl := lv_entry ([.ref (q 0), .int (iI k)]) (n := 2) (Nat.le_of_ble_eq_true rfl)
  rw [lg_entry_eq]
  generalize (lg_sl ([.ref (q 0), .int (iI k)]) ++ List.replicate (2 - (lg_sl ([.ref (q 0), .int (iI k)])).length) Slot.unset).toArray = ls at hl ⊢
  have hl : lv_has ls 2 [(0, .ref (q 0)), (1, .int (iI k))] := hl
  refine lv_aload_n hx hb dX8_height_0 rfl (lv_at hl 0 rfl) ?_
  refine va_get (ci := 9) (v := .ref (q 1)) (C := RX8) (T := TX8) (N := 17) hx hb hts iz_X8_height_X8 hown hK hP 0 rfl rfl 2 (by decide) (hts (.fieldLink RX8 7 "PowerPlotModel" "x" "[I") (by decide +kernel)) (fun _ h9 => h9) rfl dX8_height_1 ?_
  refine lv_iload_n hx hb dX8_height_4 rfl (lv_at hl 1 rfl) ?_
  refine zi_iald hx hb hK hP 1 0 rfl hty (by decide) (by omega) dX8_height_5 ?_
  refine lv_aload_n hx hb dX8_height_6 rfl (lv_at hl 0 rfl) ?_
  refine va_get (ci := 9) (v := .ref (q 1)) (C := RX8) (T := TX8) (N := 17) hx hb hts iz_X8_height_X8 hown hK hP 0 rfl rfl 2 (by decide) (hts (.fieldLink RX8 7 "PowerPlotModel" "x" "[I") (by decide +kernel)) (fun _ h9 => h9) rfl dX8_height_7 ?_
  refine lv_iload_n hx hb dX8_height_10 rfl (lv_at hl 1 rfl) ?_
  refine zi_iald hx hb hK hP 1 0 rfl hty (by decide) (by omega) dX8_height_11 ?_
  refine zi_imul hx hb dX8_height_12 ?_
  refine lv_aload_n hx hb dX8_height_13 rfl (lv_at hl 0 rfl) ?_
  refine va_get (ci := 9) (v := .ref (q 2)) (C := RX8) (T := TX8) (N := 17) hx hb hts iz_X8_height_X8 hown hK hP 0 rfl rfl 3 (by decide) (hts (.fieldLink RX8 13 "PowerPlotModel" "y" "[I") (by decide +kernel)) (fun _ h9 => h9) rfl dX8_height_14 ?_
  refine lv_iload_n hx hb dX8_height_17 rfl (lv_at hl 1 rfl) ?_
  refine zi_iald hx hb hK hP 2 0 rfl hty (by decide) (by omega) dX8_height_18 ?_
  refine lv_aload_n hx hb dX8_height_19 rfl (lv_at hl 0 rfl) ?_
  refine va_get (ci := 9) (v := .ref (q 2)) (C := RX8) (T := TX8) (N := 17) hx hb hts iz_X8_height_X8 hown hK hP 0 rfl rfl 3 (by decide) (hts (.fieldLink RX8 13 "PowerPlotModel" "y" "[I") (by decide +kernel)) (fun _ h9 => h9) rfl dX8_height_20 ?_
  refine lv_iload_n hx hb dX8_height_23 rfl (lv_at hl 1 rfl) ?_
  refine zi_iald hx hb hK hP 2 0 rfl hty (by decide) (by omega) dX8_height_24 ?_
  refine zi_imul hx hb dX8_height_25 ?_
  refine zi_iadd hx hb dX8_height_26 ?_
  refine lv_aload_n hx hb dX8_height_27 rfl (lv_at hl 0 rfl) ?_
  refine va_get (ci := 9) (v := .ref (q 3)) (C := RX8) (T := TX8) (N := 17) hx hb hts iz_X8_height_X8 hown hK hP 0 rfl rfl 4 (by decide) (hts (.fieldLink RX8 16 "PowerPlotModel" "weight" "[I") (by decide +kernel)) (fun _ h9 => h9) rfl dX8_height_28 ?_
  refine lv_iload_n hx hb dX8_height_31 rfl (lv_at hl 1 rfl) ?_
  refine zi_iald hx hb hK hP 3 0 rfl hty (by decide) (by omega) dX8_height_32 ?_
  refine zi_isub hx hb dX8_height_33 ?_
  exact W.iret (v := iI ((((Xs k) * (Xs k)) + ((Ys k) * (Ys k))) - (Wt k))) hx hb hr (fun t ht hW => ⟨⟨iI ((((Xs k) * (Xs k)) + ((Ys k) * (Ys k))) - (Wt k)), (), rfl, congrArg iI (show (((Xs k) * (Xs k)) + ((Ys k) * (Ys k))) - (Wt k) = zHt Xs Ys Wt k from by exact zHt_m Xs Ys Wt k), trivial⟩, hS.F ht⟩) hS.2.2 dX8_height_34
theorem iz_X8_ownerOf_X8 : ∀ w ∈ u_ws RX8 TX8 17, w ∈ wsX8_ownerOf := by decide +kernel
set_option maxHeartbeats 4000000 in
set_option maxRecDepth 100000 in
/-- PowerPlotModel.ownerOf -/
theorem c_X8_ownerOf (l : Launch) (D : va_G) (sz : Nat) (tys : List (ClassId × FieldType)) (cA : ClassId) (hty : tys[0]? = some (cA, .int)) (q : Nat → Nat) (th N : Int) (Xs Ys Wt Cp sh kp : Int → Int) (iu ax ay ri lT lL hT hL ig : Int) (x y : Int) (gB : zBd Xs Ys Wt) (gN : 0 ≤ N ∧ N ≤ 12) (gx : 0 ≤ x ∧ x ≤ 40) (gy : 0 ≤ y ∧ y ≤ 40) : Met l yX8_ownerOf wsX8_ownerOf ({ frames := 1, cells := 0, slots := 0, locals := 23 }) (zP D [.ref (q 0), .int (iI x), .int (iI y)] sz [(q 0, .inr (9, [.int (iI th), .int (iI N), .ref (q 1), .ref (q 2), .ref (q 3), .ref (q 4), .ref (q 5), .ref (q 6), .int (iI iu), .int (iI ax), .int (iI ay), .int (iI ri), .long (lI lT), .long (lI lL), .long (lI hT), .long (lI hL), .int (iI ig)])), (q 1, .inl (cA, 12, .inl (zF Xs))), (q 2, .inl (cA, 12, .inl (zF Ys))), (q 3, .inl (cA, 12, .inl (zF Wt))), (q 4, .inl (cA, 12, .inl (zF Cp))), (q 5, .inl (cA, 12, .inl (zF sh))), (q 6, .inl (cA, 12, .inl (zF kp)))] tys) (zRi (zOA Xs Ys Wt x y N) sz) 0 0 (zN sz) := by
  refine Met.ofW (cc := cX8_ownerOf) (maxL := 5) (ret := (some .int)) (by decide +kernel) rfl ?_
  intro p e s m args below meth c s₁ B hml hv
  obtain ⟨rfl, hsz, hP, hK, hD0⟩ := hv
  have hx := B.exec
  have hb := B.bytes
  have hr := B.returns
  have hts := atoms_spec (ws := wsX8_ownerOf) B.pre
  have hown : s.vm.findClass RX8 = some m.cls := findClass_of_methodNamed B.named
  have hlocks := B.notSynchronized
  subst hsz
  have hD := hD0
  have hS : va_S (zN s.heap.size) s.heap s.heap [] := va_S.rf
  have hA : ∀ q9 : Nat, s.heap.size ≤ q9 → (zN s.heap.size) q9 := fun q9 h => h
  have hl := lv_entry ([.ref (q 0), .int (iI x), .int (iI y)]) (n := 5) (Nat.le_of_ble_eq_true rfl)
  rw [lg_entry_eq]
  generalize (lg_sl ([.ref (q 0), .int (iI x), .int (iI y)]) ++ List.replicate (5 - (lg_sl ([.ref (q 0), .int (iI x), .int (iI y)])).length) Slot.unset).toArray = ls at hl ⊢
  have hl : lv_has ls 5 [(0, .ref (q 0)), (1, .int (iI x)), (2, .int (iI y))] := hl
  refine lv_iconst (v := iI (-1)) hx hb dX8_ownerOf_0 rfl ?_
  refine lv_istore_n (lv' := [(3, .int (iI (-1))), (0, .ref (q 0)), (1, .int (iI x)), (2, .int (iI y))]) hx hb dX8_ownerOf_1 rfl hl (by decide) rfl (fun ls hl => ?_)
  refine lv_aload_n hx hb dX8_ownerOf_2 rfl (lv_at hl 1 rfl) ?_
  refine va_get (ci := 9) (v := .int (iI N)) (C := RX8) (T := TX8) (N := 17) hx hb hts iz_X8_ownerOf_X8 hown hK hP 0 rfl rfl 1 (by decide) (hts (.fieldLink RX8 32 "PowerPlotModel" "sites" "I") (by decide +kernel)) (fun _ h9 => h9) rfl dX8_ownerOf_3 ?_
  refine lv_iconst (v := iI 1) hx hb dX8_ownerOf_6 rfl ?_
  refine zi_isub hx hb dX8_ownerOf_7 ?_
  refine lv_istore (lv' := [(4, .int (iI (N - 1))), (3, .int (iI (-1))), (0, .ref (q 0)), (1, .int (iI x)), (2, .int (iI y))]) hx hb dX8_ownerOf_8 hl (by decide) rfl (fun ls hl => ?_)
  have L10 : ∀ (n : Nat) (i : Int) (own : Int), (i + 1 < (n : Int)) → (-1 ≤ i ∧ i < N ∨ i = N - 1) → (zow Xs Ys Wt N x y i own) → (-1 ≤ own ∧ own < 12) → ∀ (H : Heap) (locs : List Loc) (ls : Array Slot), va_P D vwCl [(q 0, .inr (9, [.int (iI th), .int (iI N), .ref (q 1), .ref (q 2), .ref (q 3), .ref (q 4), .ref (q 5), .ref (q 6), .int (iI iu), .int (iI ax), .int (iI ay), .int (iI ri), .long (lI lT), .long (lI lL), .long (lI hT), .long (lI hL), .int (iI ig)])), (q 1, .inl (cA, 12, .inl (zF Xs))), (q 2, .inl (cA, 12, .inl (zF Ys))), (q 3, .inl (cA, 12, .inl (zF Wt))), (q 4, .inl (cA, 12, .inl (zF Cp))), (q 5, .inl (cA, 12, .inl (zF sh))), (q 6, .inl (cA, 12, .inl (zF kp)))] H → va_S (zN s.heap.size) s.heap H locs → lv_has ls 5 [(0, .ref (q 0)), (1, .int (iI x)), (2, .int (iI y)), (3, .int (iI own)), (4, .int (iI i))] → W p l e (headSpec wsX8_ownerOf ({ frames := 1, cells := 0, slots := 0, locals := 23 })).room s m ([.ref (q 0), .int (iI x), .int (iI y)] : List Value).toArray below meth c H locs 0 0 (MQ below (zRi (zOA Xs Ys Wt x y N) s.heap.size) ([.ref (q 0), .int (iI x), .int (iI y)] : List Value).toArray s 0 0 (zN s.heap.size)) (F0 m 10 ls []) := by
    intro n
    induction n with
    | zero =>
      intro i own hn9 h1 h2 h3 H locs ls hP hS hl
      exact absurd hn9 (by omega)
    | succ n ih10 =>
      intro i own hn9 h1 h2 h3 H locs ls hP hS hl
      have q1 := zPw_rg gB i gx gy
      have q2 := zPw_rg gB own gx gy
      refine lv_iload hx hb dX8_ownerOf_10 (lv_at hl 4 rfl) ?_
      refine zi_if_lt (tgt := 51) hx hb dX8_ownerOf_12 (by decide) (by omega) (fun c12 => ?_) (fun c12 => ?_)
      · skip
        refine lv_iload_n hx hb dX8_ownerOf_51 rfl (lv_at hl 3 rfl) ?_
        exact W.iret (v := iI own) hx hb hr (fun t ht hW => ⟨⟨iI own, (), rfl, congrArg iI (show own = zOA Xs Ys Wt x y N from by exact zow_e gN.1 (by omega) h2), trivial⟩, hS.F ht⟩) hS.2.2 dX8_ownerOf_52
      · skip
        refine lv_iload_n hx hb dX8_ownerOf_15 rfl (lv_at hl 3 rfl) ?_
        refine lv_iconst (v := iI (-1)) hx hb dX8_ownerOf_16 rfl ?_
        refine zi_icmp_eq (tgt := 38) hx hb dX8_ownerOf_17 (by decide) (by omega) (by omega) (fun c17 => ?_) (fun c17 => ?_)
        · skip
          refine lv_iload hx hb dX8_ownerOf_38 (lv_at hl 4 rfl) ?_
          refine lv_goto (tgt := 44) hx hb dX8_ownerOf_40 (by decide) ?_
          refine lv_istore_n (lv' := [(3, .int (iI i)), (0, .ref (q 0)), (1, .int (iI x)), (2, .int (iI y)), (4, .int (iI i))]) hx hb dX8_ownerOf_44 rfl hl (by decide) rfl (fun ls hl => ?_)
          refine lv_iinc (v := iI (i + (-1))) (lv' := [(4, .int (iI (i + (-1)))), (3, .int (iI i)), (0, .ref (q 0)), (1, .int (iI x)), (2, .int (iI y))]) hx hb dX8_ownerOf_45 hl (k := 4) rfl (iI_add i (-1)) (by decide) rfl (fun ls hl => ?_)
          refine lv_goto (tgt := 10) hx hb dX8_ownerOf_48 (by decide) ?_
          exact ih10 (i + (-1)) i (by omega) (by omega) (by first | exact zow_a h2 (by omega) c17 | exact zow_b h2 (by omega) c35 | exact zow_c h2 (by omega) c17 c35) (by omega) _ _ _ hP hS (lv_sub hl [2, 3, 4, 1, 0] rfl)
        · skip
          refine lv_aload_n hx hb dX8_ownerOf_20 rfl (lv_at hl 0 rfl) ?_
          refine lv_iload hx hb dX8_ownerOf_21 (lv_at hl 4 rfl) ?_
          refine lv_iload_n hx hb dX8_ownerOf_23 rfl (lv_at hl 1 rfl) ?_
          refine lv_iload_n hx hb dX8_ownerOf_24 rfl (lv_at hl 2 rfl) ?_
          refine zc_ri (As := [.int (iI i), .int (iI x), .int (iI y)]) (rest := []) ⟨hx, hb, hml, hown, hts⟩ (c_X8_powerOf l D _ tys cA hty q th N Xs Ys Wt Cp sh kp iu ax ay ri lT lL hT hL ig i x y (by omega)) (cwV 3 hts gX8_ownerOf_X8_powerOf rfl rfl rfl (by decide +kernel) ⟨(Nat.le_of_ble_eq_true rfl), (Nat.le_of_ble_eq_true rfl)⟩) hP hK hD hS hA [0, 1, 2, 3, 4, 5, 6] rfl rfl rfl rfl rfl hl.1 rfl (Nat.le_of_ble_eq_true rfl) dX8_ownerOf_25 ⟨Nat.zero_le _, Nat.zero_le _⟩ (fun H locs hP hS => ?_)
          refine lv_aload_n hx hb dX8_ownerOf_28 rfl (lv_at hl 0 rfl) ?_
          refine lv_iload_n hx hb dX8_ownerOf_29 rfl (lv_at hl 3 rfl) ?_
          refine lv_iload_n hx hb dX8_ownerOf_30 rfl (lv_at hl 1 rfl) ?_
          refine lv_iload_n hx hb dX8_ownerOf_31 rfl (lv_at hl 2 rfl) ?_
          refine zc_ri (As := [.int (iI own), .int (iI x), .int (iI y)]) (rest := [.int (iI (zPw Xs Ys Wt i x y))]) ⟨hx, hb, hml, hown, hts⟩ (c_X8_powerOf l D _ tys cA hty q th N Xs Ys Wt Cp sh kp iu ax ay ri lT lL hT hL ig own x y (by omega)) (cwV 3 hts gX8_ownerOf_X8_powerOf rfl rfl rfl (by decide +kernel) ⟨(Nat.le_of_ble_eq_true rfl), (Nat.le_of_ble_eq_true rfl)⟩) hP hK hD hS hA [0, 1, 2, 3, 4, 5, 6] rfl rfl rfl rfl rfl hl.1 rfl (Nat.le_of_ble_eq_true rfl) dX8_ownerOf_32 ⟨Nat.zero_le _, Nat.zero_le _⟩ (fun H locs hP hS => ?_)
          refine zi_icmp_gt (tgt := 43) hx hb dX8_ownerOf_35 (by decide) (by omega) (by omega) (fun c35 => ?_) (fun c35 => ?_)
          · skip
            refine lv_iload_n hx hb dX8_ownerOf_43 rfl (lv_at hl 3 rfl) ?_
            refine lv_istore_n (lv' := [(3, .int (iI own)), (0, .ref (q 0)), (1, .int (iI x)), (2, .int (iI y)), (4, .int (iI i))]) hx hb dX8_ownerOf_44 rfl hl (by decide) rfl (fun ls hl => ?_)
            refine lv_iinc (v := iI (i + (-1))) (lv' := [(4, .int (iI (i + (-1)))), (3, .int (iI own)), (0, .ref (q 0)), (1, .int (iI x)), (2, .int (iI y))]) hx hb dX8_ownerOf_45 hl (k := 4) rfl (iI_add i (-1)) (by decide) rfl (fun ls hl => ?_)
            refine lv_goto (tgt := 10) hx hb dX8_ownerOf_48 (by decide) ?_
            exact ih10 (i + (-1)) own (by omega) (by omega) (by first | exact zow_a h2 (by omega) c17 | exact zow_b h2 (by omega) c35 | exact zow_c h2 (by omega) c17 c35) (by omega) _ _ _ hP hS (lv_sub hl [2, 3, 4, 1, 0] rfl)
          · skip
            refine lv_iload hx hb dX8_ownerOf_38 (lv_at hl 4 rfl) ?_
            refine lv_goto (tgt := 44) hx hb dX8_ownerOf_40 (by decide) ?_
            refine lv_istore_n (lv' := [(3, .int (iI i)), (0, .ref (q 0)), (1, .int (iI x)), (2, .int (iI y)), (4, .int (iI i))]) hx hb dX8_ownerOf_44 rfl hl (by decide) rfl (fun ls hl => ?_)
            refine lv_iinc (v := iI (i + (-1))) (lv' := [(4, .int (iI (i + (-1)))), (3, .int (iI i)), (0, .ref (q 0)), (1, .int (iI x)), (2, .int (iI y))]) hx hb dX8_ownerOf_45 hl (k := 4) rfl (iI_add i (-1)) (by decide) rfl (fun ls hl => ?_)
            refine lv_goto (tgt := 10) hx hb dX8_ownerOf_48 (by decide) ?_
            exact ih10 (i + (-1)) i (by omega) (by omega) (by first | exact zow_a h2 (by omega) c17 | exact zow_b h2 (by omega) c35 | exact zow_c h2 (by omega) c17 c35) (by omega) _ _ _ hP hS (lv_sub hl [2, 3, 4, 1, 0] rfl)
  exact L10 ((((N - 1) + 1 : Int)).toNat + 1) (N - 1) (-1) (by omega) (by omega) (And.intro (fun _ => rfl) (fun z => absurd z (by omega))) (by omega) _ _ _ hP hS (lv_sub hl [2, 3, 4, 1, 0] rfl)
