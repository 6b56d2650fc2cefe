theorem iz_X5_at_X5 : ∀ w ∈ u_ws RX5 TX5 1, w ∈ wsX5_at := by decide +kernel
set_option maxHeartbeats 4000000 in
set_option maxRecDepth 100000 in
/-- Row.at(i), i in its range: the number there -/
theorem c_X5_at (l : Launch) (D : va_G) (sz : Nat) (tys : List (ClassId × FieldType)) (cA : ClassId) (hty : tys[0]? = some (cA, .int)) (h0 h1 : Nat) (Xs : Int → Int) (i : Int) (hi : 0 ≤ i ∧ i < 12) : Met l yX5_at wsX5_at ({ frames := 0, cells := 0, slots := 0, locals := 0 }) (zP D [.ref h0, .int (iI i)] sz [(h0, .inr (6, [.ref h1])), (h1, .inl (cA, 12, .inl (zF Xs)))] tys) (zRi (Xs i) sz) 0 0 (zN sz) := by
  refine Met.ofW (cc := cX5_at) (maxL := 2) (ret := (some .int)) (by decide +kernel) rfl ?_
  intro p e s m args below meth c s₁ B hml hv
  obtain ⟨rfl, hsz, hP, hK, hD0⟩ := hv
  have hx := B.exec
  have hb := B.bytes
  have hr := B.returns
  have hts := atoms_spec (ws := wsX5_at) B.pre
  have hown : s.vm.findClass RX5 = some m.cls := findClass_of_methodNamed B.named
  have hlocks := B.notSynchronized
  subst hsz
  have hD := hD0
  have hS : va_S (zN s.heap.size) s.heap s.heap [] := va_S.rf
  have hA : ∀ q9 : Nat, s.heap.size ≤ q9 → (zN s.heap.size) q9 := fun q9 h => h
  have hl := lv_entry ([.ref h0, .int (iI i)]) (n := 2) (Nat.le_of_ble_eq_true rfl)
  rw [lg_entry_eq]
  generalize (lg_sl ([.ref h0, .int (iI i)]) ++ List.replicate (2 - (lg_sl ([.ref h0, .int (iI i)])).length) Slot.unset).toArray = ls at hl ⊢
  have hl : lv_has ls 2 [(0, .ref h0), (1, .int (iI i))] := hl
  refine lv_iload_n hx hb dX5_at_0 rfl (lv_at hl 1 rfl) ?_
  refine zi_if_lt (tgt := 22) hx hb dX5_at_1 (by decide) (by omega) (fun c1 => ?_) (fun c1 => ?_)
  · exact absurd hi (by omega)
  · skip
    refine lv_iload_n hx hb dX5_at_4 rfl (lv_at hl 1 rfl) ?_
    refine lv_aload_n hx hb dX5_at_5 rfl (lv_at hl 0 rfl) ?_
    refine va_get (ci := 6) (v := .ref h1) (C := RX5) (T := TX5) (N := 1) hx hb hts iz_X5_at_X5 hown hK hP 0 rfl rfl 0 (by decide) (hts (.fieldLink RX5 9 "PowerPlot$Row" "numbers" "[I") (by decide +kernel)) (fun _ h9 => h9) rfl dX5_at_6 ?_
    refine va_alen hx hb hK hP 1 0 rfl hty (v := iI 12) (show Int32.ofNat 12 = iI 12 by decide +kernel) dX5_at_9 ?_
    refine zi_icmp_ge (tgt := 22) hx hb dX5_at_10 (by decide) (by omega) (by omega) (fun c10 => ?_) (fun c10 => ?_)
    · exact absurd hi (by omega)
    · skip
      refine lv_aload_n hx hb dX5_at_13 rfl (lv_at hl 0 rfl) ?_
      refine va_get (ci := 6) (v := .ref h1) (C := RX5) (T := TX5) (N := 1) hx hb hts iz_X5_at_X5 hown hK hP 0 rfl rfl 0 (by decide) (hts (.fieldLink RX5 9 "PowerPlot$Row" "numbers" "[I") (by decide +kernel)) (fun _ h9 => h9) rfl dX5_at_14 ?_
      refine lv_iload_n hx hb dX5_at_17 rfl (lv_at hl 1 rfl) ?_
      refine zi_iald hx hb hK hP 1 0 rfl hty (by decide) (by omega) dX5_at_18 ?_
      refine lv_goto (tgt := 23) hx hb dX5_at_19 (by decide) ?_
      exact W.iret (v := iI (Xs i)) hx hb hr (fun t ht hW => ⟨⟨iI (Xs i), (), rfl, congrArg iI (show Xs i = Xs i from by rfl), trivial⟩, hS.F ht⟩) hS.2.2 dX5_at_23
theorem iz_X5_put_X5 : ∀ w ∈ u_ws RX5 TX5 1, w ∈ wsX5_put := by decide +kernel
set_option maxHeartbeats 4000000 in
set_option maxRecDepth 100000 in
/-- Row.put(i, v), i in its range -/
theorem c_X5_put (l : Launch) (D : va_G) (sz : Nat) (tys : List (ClassId × FieldType)) (cA : ClassId) (hty : tys[0]? = some (cA, .int)) (h0 h1 : Nat) (Xs : Int → Int) (i v : Int) (hi : 0 ≤ i ∧ i < 12) : Met l yX5_put wsX5_put ({ frames := 0, cells := 0, slots := 0, locals := 0 }) (zP D [.ref h0, .int (iI i), .int (iI v)] sz [(h0, .inr (6, [.ref h1])), (h1, .inl (cA, 12, .inl (zF Xs)))] tys) (zWv (fun (u : Unit) => True) D (fun (u : Unit) => [(h0, .inr (6, [.ref h1])), (h1, .inl (cA, 12, .inl (zF (zU Xs i v))))]) [(h0, .inr (6, [.ref h1])), (h1, .inl (cA, 12, .inl (zF Xs)))] sz) 0 0 (va_A [(h0, .inr (6, [.ref h1])), (h1, .inl (cA, 12, .inl (zF Xs)))] sz) := by
  refine Met.ofW (cc := cX5_put) (maxL := 3) (ret := none) (by decide +kernel) rfl ?_
  intro p e s m args below meth c s₁ B hml hv
  obtain ⟨rfl, hsz, hP, hK, hD0⟩ := hv
  have hx := B.exec
  have hb := B.bytes
  have hr := B.returns
  have hts := atoms_spec (ws := wsX5_put) B.pre
  have hown : s.vm.findClass RX5 = some m.cls := findClass_of_methodNamed B.named
  have hlocks := B.notSynchronized
  subst hsz
  have hD : va_D (va_A [(h0, .inr (6, [.ref h1])), (h1, .inl (cA, 12, .inl (zF Xs)))] s.heap.size) [(h0, .inr (6, [.ref h1])), (h1, .inl (cA, 12, .inl (zF Xs)))] := hD0.self
  have hS : va_S (va_A [(h0, .inr (6, [.ref h1])), (h1, .inl (cA, 12, .inl (zF Xs)))] s.heap.size) s.heap s.heap [] := va_S.rf
  have hA : ∀ q9 : Nat, s.heap.size ≤ q9 → (va_A [(h0, .inr (6, [.ref h1])), (h1, .inl (cA, 12, .inl (zF Xs)))] s.heap.size) q9 := fun q9 h => Or.inr h
  have hl := lv_entry ([.ref h0, .int (iI i), .int (iI v)]) (n := 3) (Nat.le_of_ble_eq_true rfl)
  rw [lg_entry_eq]
  generalize (lg_sl ([.ref h0, .int (iI i), .int (iI v)]) ++ List.replicate (3 - (lg_sl ([.ref h0, .int (iI i), .int (iI v)])).length) Slot.unset).toArray = ls at hl ⊢
  have hl : lv_has ls 3 [(0, .ref h0), (1, .int (iI i)), (2, .int (iI v))] := hl
  refine lv_iload_n hx hb dX5_put_0 rfl (lv_at hl 1 rfl) ?_
  refine zi_if_lt (tgt := 20) hx hb dX5_put_1 (by decide) (by omega) (fun c1 => ?_) (fun c1 => ?_)
  · exact absurd hi (by omega)
  · skip
    refine lv_iload_n hx hb dX5_put_4 rfl (lv_at hl 1 rfl) ?_
    refine lv_aload_n hx hb dX5_put_5 rfl (lv_at hl 0 rfl) ?_
    refine va_get (ci := 6) (v := .ref h1) (C := RX5) (T := TX5) (N := 1) hx hb hts iz_X5_put_X5 hown hK hP 0 rfl rfl 0 (by decide) (hts (.fieldLink RX5 9 "PowerPlot$Row" "numbers" "[I") (by decide +kernel)) (fun _ h9 => h9) rfl dX5_put_6 ?_
    refine va_alen hx hb hK hP 1 0 rfl hty (v := iI 12) (show Int32.ofNat 12 = iI 12 by decide +kernel) dX5_put_9 ?_
    refine zi_icmp_ge (tgt := 20) hx hb dX5_put_10 (by decide) (by omega) (by omega) (fun c10 => ?_) (fun c10 => ?_)
    · exact absurd hi (by omega)
    · skip
      refine lv_aload_n hx hb dX5_put_13 rfl (lv_at hl 0 rfl) ?_
      refine va_get (ci := 6) (v := .ref h1) (C := RX5) (T := TX5) (N := 1) hx hb hts iz_X5_put_X5 hown hK hP 0 rfl rfl 0 (by decide) (hts (.fieldLink RX5 9 "PowerPlot$Row" "numbers" "[I") (by decide +kernel)) (fun _ h9 => h9) rfl dX5_put_14 ?_
      refine lv_iload_n hx hb dX5_put_17 rfl (lv_at hl 1 rfl) ?_
      refine lv_iload_n hx hb dX5_put_18 rfl (lv_at hl 2 rfl) ?_
      refine zi_iast hx hb hK hP hD hS 1 0 rfl hty (by decide) (by omega) dX5_put_19 (fun H locs hP hD hS => ?_)
      have hP : va_P D vwCl [(h0, .inr (6, [.ref h1])), (h1, .inl (cA, 12, .inl (zF (zU Xs i v))))] H := hP
      have hD : va_D _ [(h0, .inr (6, [.ref h1])), (h1, .inl (cA, 12, .inl (zF (zU Xs i v))))] := hD
      exact W.vret hx hb hr (fun t ht hW => ⟨⟨(), rfl, trivial, ⟨by rw [ht]; exact hP, hD⟩⟩, hS.F ht⟩) hS.2.2 dX5_put_20
theorem iz_X2_set_X2 : ∀ w ∈ u_ws RX2 TX2 2, w ∈ wsX2_set := by decide +kernel
set_option maxHeartbeats 4000000 in
set_option maxRecDepth 100000 in
/-- Fraction.set -/
theorem c_X2_set (l : Launch) (D : va_G) (sz : Nat) (tys : List (ClassId × FieldType)) (cA : ClassId) (hty : tys[0]? = some (cA, .int)) (h0 : Nat) (ft fb gt gb : Int)  : Met l yX2_set wsX2_set ({ frames := 0, cells := 0, slots := 0, locals := 0 }) (zP D [.ref h0, .long (lI gt), .long (lI gb)] sz [(h0, .inr (3, [.long (lI ft), .long (lI fb)]))] tys) (zWv (fun (u : Unit) => True) D (fun (u : Unit) => [(h0, .inr (3, [.long (lI gt), .long (lI gb)]))]) [(h0, .inr (3, [.long (lI ft), .long (lI fb)]))] sz) 0 0 (va_A [(h0, .inr (3, [.long (lI ft), .long (lI fb)]))] sz) := by
  refine Met.ofW (cc := cX2_set) (maxL := 5) (ret := none) (by decide +kernel) rfl ?_
  intro p e s m args below meth c s₁ B hml hv
  obtain ⟨rfl, hsz, hP, hK, hD0⟩ := hv
  have hx := B.exec
  have hb := B.bytes
  have hr := B.returns
  have hts := atoms_spec (ws := wsX2_set) B.pre
  have hown : s.vm.findClass RX2 = some m.cls := findClass_of_methodNamed B.named
  have hlocks := B.notSynchronized
  subst hsz
  have hD : va_D (va_A [(h0, .inr (3, [.long (lI ft), .long (lI fb)]))] s.heap.size) [(h0, .inr (3, [.long (lI ft), .long (lI fb)]))] := hD0.self
  have hS : va_S (va_A [(h0, .inr (3, [.long (lI ft), .long (lI fb)]))] s.heap.size) s.heap s.heap [] := va_S.rf
  have hA : ∀ q9 : Nat, s.heap.size ≤ q9 → (va_A [(h0, .inr (3, [.long (lI ft), .long (lI fb)]))] s.heap.size) q9 := fun q9 h => Or.inr h
  have hl := lv_entry ([.ref h0, .long (lI gt), .long (lI gb)]) (n := 5) (Nat.le_of_ble_eq_true rfl)
  rw [lg_entry_eq]
  generalize (lg_sl ([.ref h0, .long (lI gt), .long (lI gb)]) ++ List.replicate (5 - (lg_sl ([.ref h0, .long (lI gt), .long (lI gb)])).length) Slot.unset).toArray = ls at hl ⊢
  have hl : lv_has ls 5 [(0, .ref h0), (1, .long (lI gt)), (3, .long (lI gb))] := hl
  refine lv_aload_n hx hb dX2_set_0 rfl (lv_at hl 0 rfl) ?_
  refine lv_lload_n hx hb dX2_set_1 rfl (lv_at hl 1 rfl) ?_
  refine va_put (ci := 3) (v := .long (lI gt)) (ty := .long) (C := RX2) (T := TX2) (N := 2) hx hb hts iz_X2_set_X2 tyX2 tyX2_ok nmX2 hown hK hP hD hS 0 rfl rfl 0 (by decide) (hts (.fieldLink RX2 13 "PowerPlot$Fraction" "top" "J") (by decide +kernel)) (fun _ h9 => h9) rfl (by decide +kernel) rfl rfl (Nat.le_of_ble_eq_true rfl) dX2_set_2 (fun H locs hP hD hS => ?_)
  have hP : va_P D vwCl [(h0, .inr (3, [.long (lI gt), .long (lI fb)]))] H := hP
  have hD : va_D _ [(h0, .inr (3, [.long (lI gt), .long (lI fb)]))] := hD
  refine lv_aload_n hx hb dX2_set_5 rfl (lv_at hl 0 rfl) ?_
  refine lv_lload_n hx hb dX2_set_6 rfl (lv_at hl 2 rfl) ?_
  refine va_put (ci := 3) (v := .long (lI gb)) (ty := .long) (C := RX2) (T := TX2) (N := 2) hx hb hts iz_X2_set_X2 tyX2 tyX2_ok nmX2 hown hK hP hD hS 0 rfl rfl 1 (by decide) (hts (.fieldLink RX2 7 "PowerPlot$Fraction" "bottom" "J") (by decide +kernel)) (fun _ h9 => h9) rfl (by decide +kernel) rfl rfl (Nat.le_of_ble_eq_true rfl) dX2_set_7 (fun H locs hP hD hS => ?_)
  have hP : va_P D vwCl [(h0, .inr (3, [.long (lI gt), .long (lI gb)]))] H := hP
  have hD : va_D _ [(h0, .inr (3, [.long (lI gt), .long (lI gb)]))] := hD
  exact W.vret hx hb hr (fun t ht hW => ⟨⟨(), rfl, trivial, ⟨by rw [ht]; exact hP, hD⟩⟩, hS.F ht⟩) hS.2.2 dX2_set_10
theorem iz_X2_isLess_X2 : ∀ w ∈ u_ws RX2 TX2 2, w ∈ wsX2_isLess := by decide +kernel
set_option maxHeartbeats 4000000 in
set_option maxRecDepth 100000 in
/-- Fraction.isLess -/
theorem c_X2_isLess (l : Launch) (D : va_G) (sz : Nat) (tys : List (ClassId × FieldType)) (cA : ClassId) (hty : tys[0]? = some (cA, .int)) (h0 : Nat) (ft fb gt gb : Int) (h1 : -9223372036854775808 ≤ ft * gb ∧ ft * gb ≤ 9223372036854775807) (h2 : -9223372036854775808 ≤ gt * fb ∧ gt * fb ≤ 9223372036854775807) : Met l yX2_isLess wsX2_isLess ({ frames := 0, cells := 0, slots := 0, locals := 0 }) (zP D [.ref h0, .long (lI gt), .long (lI gb)] sz [(h0, .inr (3, [.long (lI ft), .long (lI fb)]))] tys) (zRi (bI (ft * gb < gt * fb)) sz) 0 0 (zN sz) := by
  refine Met.ofW (cc := cX2_isLess) (maxL := 5) (ret := (some .boolean)) (by decide +kernel) rfl ?_
  intro p e s m args below meth c s₁ B hml hv
  obtain ⟨rfl, hsz, hP, hK, hD0⟩ := hv
  have hx := B.exec
  have hb := B.bytes
  have hr := B.returns
  have hts := atoms_spec (ws := wsX2_isLess) B.pre
  have hown : s.vm.findClass RX2 = some m.cls := findClass_of_methodNamed B.named
  have hlocks := B.notSynchronized
  subst hsz
  have hD := hD0
  have hS : va_S (zN s.heap.size) s.heap s.heap [] := va_S.rf
  have hA : ∀ q9 : Nat, s.heap.size ≤ q9 → (zN s.heap.size) q9 := fun q9 h => h
  have hl := lv_entry ([.ref h0, .long (lI gt), .long (lI gb)]) (n := 5) (Nat.le_of_ble_eq_true rfl)
  rw [lg_entry_eq]
  generalize (lg_sl ([.ref h0, .long (lI gt), .long (lI gb)]) ++ List.replicate (5 - (lg_sl ([.ref h0, .long (lI gt), .long (lI gb)])).length) Slot.unset).toArray = ls at hl ⊢
  have hl : lv_has ls 5 [(0, .ref h0), (1, .long (lI gt)), (3, .long (lI gb))] := hl
  refine lv_aload_n hx hb dX2_isLess_0 rfl (lv_at hl 0 rfl) ?_
  refine va_get (ci := 3) (v := .long (lI ft)) (C := RX2) (T := TX2) (N := 2) hx hb hts iz_X2_isLess_X2 hown hK hP 0 rfl rfl 0 (by decide) (hts (.fieldLink RX2 13 "PowerPlot$Fraction" "top" "J") (by decide +kernel)) (fun _ h9 => h9) rfl dX2_isLess_1 ?_
  refine lv_lload_n hx hb dX2_isLess_4 rfl (lv_at hl 2 rfl) ?_
  refine zl_lmul hx hb dX2_isLess_5 ?_
  refine lv_lload_n hx hb dX2_isLess_6 rfl (lv_at hl 1 rfl) ?_
  refine lv_aload_n hx hb dX2_isLess_7 rfl (lv_at hl 0 rfl) ?_
  refine va_get (ci := 3) (v := .long (lI fb)) (C := RX2) (T := TX2) (N := 2) hx hb hts iz_X2_isLess_X2 hown hK hP 0 rfl rfl 1 (by decide) (hts (.fieldLink RX2 7 "PowerPlot$Fraction" "bottom" "J") (by decide +kernel)) (fun _ h9 => h9) rfl dX2_isLess_8 ?_
  refine zl_lmul hx hb dX2_isLess_11 ?_
  refine zl_if_ge (tgt := 20) hx hb dX2_isLess_12 dX2_isLess_13 (by decide) h1 h2 (fun c12 => ?_) (fun c12 => ?_)
  · skip
    refine lv_iconst (v := iI 0) hx hb dX2_isLess_20 rfl ?_
    exact W.zret (v := iI 0) (ty := .boolean) hx hb hr (by decide) (fun t ht hW => ⟨⟨iI 0, (), rfl, congrArg iI (show 0 = bI (ft * gb < gt * fb) from by first | exact (bI_t (by omega)).symm | exact (bI_f (by omega)).symm), trivial⟩, hS.F ht⟩) hS.2.2 dX2_isLess_21
  · skip
    refine lv_iconst (v := iI 1) hx hb dX2_isLess_16 rfl ?_
    refine lv_goto (tgt := 21) hx hb dX2_isLess_17 (by decide) ?_
    exact W.zret (v := iI 1) (ty := .boolean) hx hb hr (by decide) (fun t ht hW => ⟨⟨iI 1, (), rfl, congrArg iI (show 1 = bI (ft * gb < gt * fb) from by first | exact (bI_t (by omega)).symm | exact (bI_f (by omega)).symm), trivial⟩, hS.F ht⟩) hS.2.2 dX2_isLess_21
theorem iz_X2_isMore_X2 : ∀ w ∈ u_ws RX2 TX2 2, w ∈ wsX2_isMore := by decide +kernel
set_option maxHeartbeats 4000000 in
set_option maxRecDepth 100000 in
/-- Fraction.isMore -/
theorem c_X2_isMore (l : Launch) (D : va_G) (sz : Nat) (tys : List (ClassId × FieldType)) (cA : ClassId) (hty : tys[0]? = some (cA, .int)) (h0 : Nat) (ft fb gt gb : Int) (h1 : -9223372036854775808 ≤ ft * gb ∧ ft * gb ≤ 9223372036854775807) (h2 : -9223372036854775808 ≤ gt * fb ∧ gt * fb ≤ 9223372036854775807) : Met l yX2_isMore wsX2_isMore ({ frames := 0, cells := 0, slots := 0, locals := 0 }) (zP D [.ref h0, .long (lI gt), .long (lI gb)] sz [(h0, .inr (3, [.long (lI ft), .long (lI fb)]))] tys) (zRi (bI (ft * gb > gt * fb)) sz) 0 0 (zN sz) := by
  refine Met.ofW (cc := cX2_isMore) (maxL := 5) (ret := (some .boolean)) (by decide +kernel) rfl ?_
  intro p e s m args below meth c s₁ B hml hv
  obtain ⟨rfl, hsz, hP, hK, hD0⟩ := hv
  have hx := B.exec
  have hb := B.bytes
  have hr := B.returns
  have hts := atoms_spec (ws := wsX2_isMore) B.pre
  have hown : s.vm.findClass RX2 = some m.cls := findClass_of_methodNamed B.named
  have hlocks := B.notSynchronized
  subst hsz
  have hD := hD0
  have hS : va_S (zN s.heap.size) s.heap s.heap [] := va_S.rf
  have hA : ∀ q9 : Nat, s.heap.size ≤ q9 → (zN s.heap.size) q9 := fun q9 h => h
  have hl := lv_entry ([.ref h0, .long (lI gt), .long (lI gb)]) (n := 5) (Nat.le_of_ble_eq_true rfl)
  rw [lg_entry_eq]
  generalize (lg_sl ([.ref h0, .long (lI gt), .long (lI gb)]) ++ List.replicate (5 - (lg_sl ([.ref h0, .long (lI gt), .long (lI gb)])).length) Slot.unset).toArray = ls at hl ⊢
  have hl : lv_has ls 5 [(0, .ref h0), (1, .long (lI gt)), (3, .long (lI gb))] := hl
  refine lv_aload_n hx hb dX2_isMore_0 rfl (lv_at hl 0 rfl) ?_
  refine va_get (ci := 3) (v := .long (lI ft)) (C := RX2) (T := TX2) (N := 2) hx hb hts iz_X2_isMore_X2 hown hK hP 0 rfl rfl 0 (by decide) (hts (.fieldLink RX2 13 "PowerPlot$Fraction" "top" "J") (by decide +kernel)) (fun _ h9 => h9) rfl dX2_isMore_1 ?_
  refine lv_lload_n hx hb dX2_isMore_4 rfl (lv_at hl 2 rfl) ?_
  refine zl_lmul hx hb dX2_isMore_5 ?_
  refine lv_lload_n hx hb dX2_isMore_6 rfl (lv_at hl 1 rfl) ?_
  refine lv_aload_n hx hb dX2_isMore_7 rfl (lv_at hl 0 rfl) ?_
  refine va_get (ci := 3) (v := .long (lI fb)) (C := RX2) (T := TX2) (N := 2) hx hb hts iz_X2_isMore_X2 hown hK hP 0 rfl rfl 1 (by decide) (hts (.fieldLink RX2 7 "PowerPlot$Fraction" "bottom" "J") (by decide +kernel)) (fun _ h9 => h9) rfl dX2_isMore_8 ?_
  refine zl_lmul hx hb dX2_isMore_11 ?_
  refine zl_if_le (tgt := 20) hx hb dX2_isMore_12 dX2_isMore_13 (by decide) h1 h2 (fun c12 => ?_) (fun c12 => ?_)
  · skip
    refine lv_iconst (v := iI 0) hx hb dX2_isMore_20 rfl ?_
    exact W.zret (v := iI 0) (ty := .boolean) hx hb hr (by decide) (fun t ht hW => ⟨⟨iI 0, (), rfl, congrArg iI (show 0 = bI (ft * gb > gt * fb) from by first | exact (bI_t (by omega)).symm | exact (bI_f (by omega)).symm), trivial⟩, hS.F ht⟩) hS.2.2 dX2_isMore_21
  · skip
    refine lv_iconst (v := iI 1) hx hb dX2_isMore_16 rfl ?_
    refine lv_goto (tgt := 21) hx hb dX2_isMore_17 (by decide) ?_
    exact W.zret (v := iI 1) (ty := .boolean) hx hb hr (by decide) (fun t ht hW => ⟨⟨iI 1, (), rfl, congrArg iI (show 1 = bI (ft * gb > gt * fb) from by first | exact (bI_t (by omega)).symm | exact (bI_f (by omega)).symm), trivial⟩, hS.F ht⟩) hS.2.2 dX2_isMore_21
