theorem iz_J5_ensureCapacityInternal_d00df_J4 : ∀ w ∈ u_ws RJ4 TJ4 4, w ∈ wsJ5_ensureCapacityInternal_d00df := by decide +kernel
set_option maxHeartbeats 4000000 in
set_option maxRecDepth 100000 in
/-- AbstractStringBuilder.ensureCapacityInternal, of no more than there is -/
theorem c_J5_ensureCapacityInternal_d00df (l : Launch) (D : va_G) (sz : Nat) (tys : List (ClassId × FieldType)) (cA : ClassId) (hty : tys[0]? = some (cA, .int)) (t1 t2 : Nat) (cB : ClassId) (htb : tys[2]? = some (cB, .byte)) (b0 b1 : Nat) (cn mn : Int) (T1 : Int → Int) (gm : 0 ≤ mn ∧ mn ≤ 16) : Met l yJ5_ensureCapacityInternal_d00df wsJ5_ensureCapacityInternal_d00df ({ frames := 0, cells := 0, slots := 0, locals := 0 }) (zPs D [.ref b0, .int (iI mn)] sz [(b0, .inr (0, [.ref b1, .int (iI 0), .int (iI 0), .int (iI cn)])), (b1, .inl (cB, 16, .inl (zF T1)))] tys t1 t2) (zRv sz) 0 0 (zN sz) := by
  refine va_MetF (cc := cJ5_ensureCapacityInternal_d00df) (maxL := 3) (ret := none) (by decide +kernel) rfl ?_
  intro p e s m args below meth c s₁ B hml hv
  obtain ⟨rfl, hsz, hP, hK, hD0, hZ⟩ := hv
  have hx := B.exec
  have hb := B.bytes
  have hr := B.returns
  have hts := atoms_spec (ws := wsJ5_ensureCapacityInternal_d00df) B.pre
  have hown : s.vm.findClass RJ5 = some m.cls := findClass_of_methodNamed B.named
  have hlocks := B.notSynchronized
  subst hsz
  have hD := hD0
  have hZ := hZ.moved (B := zN s.heap.size) (Vm.Alike.refl s.vm) (fun _ _ _ => rfl) (fun q h => Or.inr h)
  have hS : va_S (zN s.heap.size) s.heap s.heap [] := va_S.rf
  have hA : ∀ q9 : Nat, s.heap.size ≤ q9 → (zN s.heap.size) q9 := fun q9 h => h
  have hl := lv_entry ([.ref b0, .int (iI mn)]) (n := 3) (Nat.le_of_ble_eq_true rfl)
  rw [lg_entry_eq]
  generalize (lg_sl ([.ref b0, .int (iI mn)]) ++ List.replicate (3 - (lg_sl ([.ref b0, .int (iI mn)])).length) Slot.unset).toArray = ls at hl ⊢
  have hl : lv_has ls 3 [(0, .ref b0), (1, .int (iI mn))] := hl
  refine lv_aload_n hx hb dJ5_ensureCapacityInternal_d00df_0 rfl (lv_at hl 0 rfl) ?_
  refine va_get (ci := 0) (v := .ref b1) (C := RJ4) (T := TJ4) (N := 4) hx hb hts iz_J5_ensureCapacityInternal_d00df_J4 hown hK hP 0 rfl rfl 0 (by decide) (hts (.fieldLink RJ5 15 "java/lang/AbstractStringBuilder" "value" "[B") (by decide +kernel)) (fun _ h9 => h9) rfl dJ5_ensureCapacityInternal_d00df_1 ?_
  refine va_alen hx hb hK hP 1 2 rfl htb (v := iI 16) (show Int32.ofNat 16 = iI 16 by decide +kernel) dJ5_ensureCapacityInternal_d00df_4 ?_
  refine lv_aload_n hx hb dJ5_ensureCapacityInternal_d00df_5 rfl (lv_at hl 0 rfl) ?_
  refine va_get (ci := 0) (v := .int (iI 0)) (C := RJ4) (T := TJ4) (N := 4) hx hb hts iz_J5_ensureCapacityInternal_d00df_J4 hown hK hP 0 rfl rfl 1 (by decide) (hts (.fieldLink RJ5 22 "java/lang/AbstractStringBuilder" "coder" "B") (by decide +kernel)) (fun _ h9 => h9) rfl dJ5_ensureCapacityInternal_d00df_6 ?_
  refine lv_ishr hx hb dJ5_ensureCapacityInternal_d00df_9 ?_
  rw [show (iI 16 >>> (iI 0 &&& 31)) = iI 16 by decide]
  refine lv_istore_n (lv' := [(2, .int (iI 16)), (0, .ref b0), (1, .int (iI mn))]) hx hb dJ5_ensureCapacityInternal_d00df_10 rfl hl (by decide) rfl (fun ls hl => ?_)
  refine lv_iload_n hx hb dJ5_ensureCapacityInternal_d00df_11 rfl (lv_at hl 2 rfl) ?_
  refine lv_iload_n hx hb dJ5_ensureCapacityInternal_d00df_12 rfl (lv_at hl 0 rfl) ?_
  refine zi_isub hx hb dJ5_ensureCapacityInternal_d00df_13 ?_
  refine zi_if_le (tgt := 38) hx hb dJ5_ensureCapacityInternal_d00df_14 (by decide) (by omega) (fun c14 => ?_) (fun c14 => ?_)
  · skip
    exact W.vret hx hb hr (fun t ht hW => ⟨⟨(), rfl, trivial, trivial⟩, hS.F ht⟩) hS.2.2 dJ5_ensureCapacityInternal_d00df_38
  · exact absurd c14 (by omega)
set_option maxHeartbeats 4000000 in
set_option maxRecDepth 100000 in
/-- Preconditions.checkIndex, in range -/
theorem c_J3_checkIndex_8e157 (l : Launch) (D : va_G) (sz : Nat) (tys : List (ClassId × FieldType)) (cA : ClassId) (hty : tys[0]? = some (cA, .int)) (v n1 : Int) (h9 : Nat) (gv : 0 ≤ v ∧ v < n1) (gn : n1 ≤ 2147483647) : Met l yJ3_checkIndex_8e157 wsJ3_checkIndex_8e157 ({ frames := 0, cells := 0, slots := 0, locals := 0 }) (zP D [.int (iI v), .int (iI n1), .ref h9] sz [] tys) (zRi v sz) 0 0 (zN sz) := by
  refine va_MetF (cc := cJ3_checkIndex_8e157) (maxL := 3) (ret := (some .int)) (by decide +kernel) rfl ?_
  intro p e s m args below meth c s₁ B hml hv
  obtain ⟨rfl, hsz, hP, hK, hD0⟩ := hv
  have hx := B.exec
  have hb := B.bytes
  have hr := B.returns
  have hts := atoms_spec (ws := wsJ3_checkIndex_8e157) B.pre
  have hown : s.vm.findClass RJ3 = some m.cls := findClass_of_methodNamed B.named
  have hlocks := B.notSynchronized
  subst hsz
  have hD := hD0
  have hS : va_S (zN s.heap.size) s.heap s.heap [] := va_S.rf
  have hA : ∀ q9 : Nat, s.heap.size ≤ q9 → (zN s.heap.size) q9 := fun q9 h => h
  have hl := lv_entry ([.int (iI v), .int (iI n1), .ref h9]) (n := 3) (Nat.le_of_ble_eq_true rfl)
  rw [lg_entry_eq]
  generalize (lg_sl ([.int (iI v), .int (iI n1), .ref h9]) ++ List.replicate (3 - (lg_sl ([.int (iI v), .int (iI n1), .ref h9])).length) Slot.unset).toArray = ls at hl ⊢
  have hl : lv_has ls 3 [(0, .int (iI v)), (1, .int (iI n1)), (2, .ref h9)] := hl
  refine lv_iload_n hx hb dJ3_checkIndex_8e157_0 rfl (lv_at hl 0 rfl) ?_
  refine zi_if_lt (tgt := 9) hx hb dJ3_checkIndex_8e157_1 (by decide) (by omega) (fun c1 => ?_) (fun c1 => ?_)
  · exact absurd c1 (by omega)
  · skip
    refine lv_iload_n hx hb dJ3_checkIndex_8e157_4 rfl (lv_at hl 0 rfl) ?_
    refine lv_iload_n hx hb dJ3_checkIndex_8e157_5 rfl (lv_at hl 1 rfl) ?_
    refine zi_icmp_lt (tgt := 16) hx hb dJ3_checkIndex_8e157_6 (by decide) (by omega) (by omega) (fun c6 => ?_) (fun c6 => ?_)
    · skip
      refine lv_iload_n hx hb dJ3_checkIndex_8e157_16 rfl (lv_at hl 0 rfl) ?_
      exact W.iret (v := iI v) hx hb hr (fun t ht hW => ⟨⟨iI v, (), rfl, congrArg iI (show v = v from by rfl), trivial⟩, hS.F ht⟩) hS.2.2 dJ3_checkIndex_8e157_17
    · exact absurd c6 (by omega)
set_option maxHeartbeats 4000000 in
set_option maxRecDepth 100000 in
/-- Preconditions.checkIndex, in range -/
theorem c_J3_checkIndex_8e157n (l : Launch) (D : va_G) (sz : Nat) (tys : List (ClassId × FieldType)) (cA : ClassId) (hty : tys[0]? = some (cA, .int)) (v n1 : Int) (gv : 0 ≤ v ∧ v < n1) (gn : n1 ≤ 2147483647) : Met l yJ3_checkIndex_8e157 wsJ3_checkIndex_8e157 ({ frames := 0, cells := 0, slots := 0, locals := 0 }) (zP D [.int (iI v), .int (iI n1), .null] sz [] tys) (zRi v sz) 0 0 (zN sz) := by
  refine va_MetF (cc := cJ3_checkIndex_8e157) (maxL := 3) (ret := (some .int)) (by decide +kernel) rfl ?_
  intro p e s m args below meth c s₁ B hml hv
  obtain ⟨rfl, hsz, hP, hK, hD0⟩ := hv
  have hx := B.exec
  have hb := B.bytes
  have hr := B.returns
  have hts := atoms_spec (ws := wsJ3_checkIndex_8e157) B.pre
  have hown : s.vm.findClass RJ3 = some m.cls := findClass_of_methodNamed B.named
  have hlocks := B.notSynchronized
  subst hsz
  have hD := hD0
  have hS : va_S (zN s.heap.size) s.heap s.heap [] := va_S.rf
  have hA : ∀ q9 : Nat, s.heap.size ≤ q9 → (zN s.heap.size) q9 := fun q9 h => h
  have hl := lv_entry ([.int (iI v), .int (iI n1), .null]) (n := 3) (Nat.le_of_ble_eq_true rfl)
  rw [lg_entry_eq]
  generalize (lg_sl ([.int (iI v), .int (iI n1), .null]) ++ List.replicate (3 - (lg_sl ([.int (iI v), .int (iI n1), .null])).length) Slot.unset).toArray = ls at hl ⊢
  have hl : lv_has ls 3 [(0, .int (iI v)), (1, .int (iI n1)), (2, .null)] := hl
  refine lv_iload_n hx hb dJ3_checkIndex_8e157_0 rfl (lv_at hl 0 rfl) ?_
  refine zi_if_lt (tgt := 9) hx hb dJ3_checkIndex_8e157_1 (by decide) (by omega) (fun c1 => ?_) (fun c1 => ?_)
  · exact absurd c1 (by omega)
  · skip
    refine lv_iload_n hx hb dJ3_checkIndex_8e157_4 rfl (lv_at hl 0 rfl) ?_
    refine lv_iload_n hx hb dJ3_checkIndex_8e157_5 rfl (lv_at hl 1 rfl) ?_
    refine zi_icmp_lt (tgt := 16) hx hb dJ3_checkIndex_8e157_6 (by decide) (by omega) (by omega) (fun c6 => ?_) (fun c6 => ?_)
    · skip
      refine lv_iload_n hx hb dJ3_checkIndex_8e157_16 rfl (lv_at hl 0 rfl) ?_
      exact W.iret (v := iI v) hx hb hr (fun t ht hW => ⟨⟨iI v, (), rfl, congrArg iI (show v = v from by rfl), trivial⟩, hS.F ht⟩) hS.2.2 dJ3_checkIndex_8e157_17
    · exact absurd c6 (by omega)
set_option maxHeartbeats 4000000 in
set_option maxRecDepth 100000 in
/-- String.checkIndex, in range -/
theorem c_J0_checkIndex_df160 (l : Launch) (D : va_G) (sz : Nat) (tys : List (ClassId × FieldType)) (cA : ClassId) (hty : tys[0]? = some (cA, .int)) (t1 t2 : Nat) (cB : ClassId) (htb : tys[2]? = some (cB, .byte)) (v n1 : Int) (gv : 0 ≤ v ∧ v < n1) (gn : n1 ≤ 2147483647) : Met l yJ0_checkIndex_df160 wsJ0_checkIndex_df160 ({ frames := 1, cells := 0, slots := 0, locals := 22 }) (zPs D [.int (iI v), .int (iI n1)] sz [] tys t1 t2) (zRv sz) 0 0 (zN sz) := by
  refine va_MetF (cc := cJ0_checkIndex_df160) (maxL := 2) (ret := none) (by decide +kernel) rfl ?_
  intro p e s m args below meth c s₁ B hml hv
  obtain ⟨rfl, hsz, hP, hK, hD0, hZ⟩ := hv
  have hx := B.exec
  have hb := B.bytes
  have hr := B.returns
  have hts := atoms_spec (ws := wsJ0_checkIndex_df160) B.pre
  have hown : s.vm.findClass RJ0 = some m.cls := findClass_of_methodNamed B.named
  have hlocks := B.notSynchronized
  subst hsz
  have hD := hD0
  have hZ := hZ.moved (B := zN s.heap.size) (Vm.Alike.refl s.vm) (fun _ _ _ => rfl) (fun q h => Or.inr h)
  have hS : va_S (zN s.heap.size) s.heap s.heap [] := va_S.rf
  have hA : ∀ q9 : Nat, s.heap.size ≤ q9 → (zN s.heap.size) q9 := fun q9 h => h
  have hl := lv_entry ([.int (iI v), .int (iI n1)]) (n := 2) (Nat.le_of_ble_eq_true rfl)
  rw [lg_entry_eq]
  generalize (lg_sl ([.int (iI v), .int (iI n1)]) ++ List.replicate (2 - (lg_sl ([.int (iI v), .int (iI n1)])).length) Slot.unset).toArray = ls at hl ⊢
  have hl : lv_has ls 2 [(0, .int (iI v)), (1, .int (iI n1))] := hl
  refine lv_iload_n hx hb dJ0_checkIndex_df160_0 rfl (lv_at hl 0 rfl) ?_
  refine lv_iload_n hx hb dJ0_checkIndex_df160_1 rfl (lv_at hl 1 rfl) ?_
  rcases hZ.2.2.2.2.2 with h7 | ⟨h9, h7⟩
  · skip
    refine va_gets (C := "jdk/internal/util/Preconditions") (n := "SIOOBE_FORMATTER") (d := "Ljava/util/function/BiFunction;") (v := .null) hx hb h7 hS hown (hts (.fieldLink RJ0 1053 "jdk/internal/util/Preconditions" "SIOOBE_FORMATTER" "Ljava/util/function/BiFunction;") (by decide +kernel)) (fun _ h9 => h9) dJ0_checkIndex_df160_2 ?_
    refine zc_riS (As := [.int (iI v), .int (iI n1), .null]) (rest := []) ⟨hx, hb, hml, hown, hts⟩ (c_J3_checkIndex_8e157n l D _ tys cA hty v n1 (by omega) (by omega)) (va_cwS 3 hts gJ0_checkIndex_df160_J3_checkIndex_8e157 rfl rfl rfl (by decide +kernel) ⟨(Nat.le_of_ble_eq_true rfl), (Nat.le_of_ble_eq_true rfl)⟩) hP hK hD hS hA [] rfl rfl rfl hl.1 rfl (Nat.le_of_ble_eq_true rfl) dJ0_checkIndex_df160_5 ⟨Nat.zero_le _, Nat.zero_le _⟩ (fun H locs hP hS => ?_)
    refine lv_pop hx hb dJ0_checkIndex_df160_8 rfl ?_
    exact W.vret hx hb hr (fun t ht hW => ⟨⟨(), rfl, trivial, trivial⟩, hS.F ht⟩) hS.2.2 dJ0_checkIndex_df160_9
  · skip
    refine va_gets (C := "jdk/internal/util/Preconditions") (n := "SIOOBE_FORMATTER") (d := "Ljava/util/function/BiFunction;") (v := .ref h9) hx hb h7 hS hown (hts (.fieldLink RJ0 1053 "jdk/internal/util/Preconditions" "SIOOBE_FORMATTER" "Ljava/util/function/BiFunction;") (by decide +kernel)) (fun _ h9 => h9) dJ0_checkIndex_df160_2 ?_
    refine zc_riS (As := [.int (iI v), .int (iI n1), .ref h9]) (rest := []) ⟨hx, hb, hml, hown, hts⟩ (c_J3_checkIndex_8e157 l D _ tys cA hty v n1 h9 (by omega) (by omega)) (va_cwS 3 hts gJ0_checkIndex_df160_J3_checkIndex_8e157 rfl rfl rfl (by decide +kernel) ⟨(Nat.le_of_ble_eq_true rfl), (Nat.le_of_ble_eq_true rfl)⟩) hP hK hD hS hA [] rfl rfl rfl hl.1 rfl (Nat.le_of_ble_eq_true rfl) dJ0_checkIndex_df160_5 ⟨Nat.zero_le _, Nat.zero_le _⟩ (fun H locs hP hS => ?_)
    refine lv_pop hx hb dJ0_checkIndex_df160_8 rfl ?_
    exact W.vret hx hb hr (fun t ht hW => ⟨⟨(), rfl, trivial, trivial⟩, hS.F ht⟩) hS.2.2 dJ0_checkIndex_df160_9
