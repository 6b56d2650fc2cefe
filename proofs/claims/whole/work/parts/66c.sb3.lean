theorem iz_J5_append_c97b9_J4 : ∀ w ∈ u_ws RJ4 TJ4 4, w ∈ wsJ5_append_c97b9 := by decide +kernel
set_option maxHeartbeats 4000000 in
set_option maxRecDepth 100000 in
/-- AbstractStringBuilder.append(int), of 0 to 999 -/
theorem c_J5_append_c97b9 (l : Launch) (D : va_G) (sz : Nat) (tys : List (ClassId × FieldType)) (cA : ClassId) (hty : tys[0]? = some (cA, .int)) (t1 t2 : Nat) (cB : ClassId) (htb : tys[2]? = some (cB, .byte)) (b0 b1 : Nat) (v cn : Int) (T1 : Int → Int) (gv : 0 ≤ v ∧ v ≤ 999) (gc : 0 ≤ cn ∧ cn + zDg v ≤ 16) : Met l yJ5_append_c97b9 wsJ5_append_c97b9 ({ frames := 1, cells := 0, slots := 0, locals := 26 }) (zPs D [.ref b0, .int (iI v)] sz [(b0, .inr (0, [.ref b1, .int (iI 0), .int (iI 0), .int (iI cn)])), (b1, .inl (cB, 16, .inl (zF T1)))] tys t1 t2) (zWr (fun (u : Int → Int) => ∀ j : Int, u j = (if cn ≤ j ∧ j < cn + zDg v then zDt v (j - cn) else T1 j)) D (fun (u : Int → Int) => [(b0, .inr (0, [.ref b1, .int (iI 0), .int (iI 0), .int (iI (cn + zDg v))])), (b1, .inl (cB, 16, .inl (zF u)))]) [(b0, .inr (0, [.ref b1, .int (iI 0), .int (iI 0), .int (iI cn)])), (b1, .inl (cB, 16, .inl (zF T1)))] b0 sz) 0 0 (va_A [(b0, .inr (0, [.ref b1, .int (iI 0), .int (iI 0), .int (iI cn)])), (b1, .inl (cB, 16, .inl (zF T1)))] sz) := by
  refine va_MetF (cc := cJ5_append_c97b9) (maxL := 4) (ret := (some (.object "java/lang/AbstractStringBuilder"))) (by decide +kernel) rfl ?_
  intro p e s m args below meth c s₁ B hml hv
  obtain ⟨rfl, hsz, hP, hK, hD0, hZ⟩ := hv
  have hx := B.exec
  have hb := B.bytes
  have hr := B.returns
  have hts := atoms_spec (ws := wsJ5_append_c97b9) B.pre
  have hown : s.vm.findClass RJ5 = some m.cls := findClass_of_methodNamed B.named
  have hlocks := B.notSynchronized
  subst hsz
  have hD : va_D (va_A [(b0, .inr (0, [.ref b1, .int (iI 0), .int (iI 0), .int (iI cn)])), (b1, .inl (cB, 16, .inl (zF T1)))] s.heap.size) [(b0, .inr (0, [.ref b1, .int (iI 0), .int (iI 0), .int (iI cn)])), (b1, .inl (cB, 16, .inl (zF T1)))] := hD0.self
  have hS : va_S (va_A [(b0, .inr (0, [.ref b1, .int (iI 0), .int (iI 0), .int (iI cn)])), (b1, .inl (cB, 16, .inl (zF T1)))] s.heap.size) s.heap s.heap [] := va_S.rf
  have hA : ∀ q9 : Nat, s.heap.size ≤ q9 → (va_A [(b0, .inr (0, [.ref b1, .int (iI 0), .int (iI 0), .int (iI cn)])), (b1, .inl (cB, 16, .inl (zF T1)))] s.heap.size) q9 := fun q9 h => Or.inr h
  have hl := lv_entry ([.ref b0, .int (iI v)]) (n := 4) (Nat.le_of_ble_eq_true rfl)
  rw [lg_entry_eq]
  generalize (lg_sl ([.ref b0, .int (iI v)]) ++ List.replicate (4 - (lg_sl ([.ref b0, .int (iI v)])).length) Slot.unset).toArray = ls at hl ⊢
  have hl : lv_has ls 4 [(0, .ref b0), (1, .int (iI v))] := hl
  have z0 := zDg_rg v
  refine lv_aload_n hx hb dJ5_append_c97b9_0 rfl (lv_at hl 0 rfl) ?_
  refine va_get (ci := 0) (v := .int (iI cn)) (C := RJ4) (T := TJ4) (N := 4) hx hb hts iz_J5_append_c97b9_J4 hown hK hP 0 rfl rfl 3 (by decide) (hts (.fieldLink RJ5 79 "java/lang/AbstractStringBuilder" "count" "I") (by decide +kernel)) (fun _ h9 => h9) rfl dJ5_append_c97b9_1 ?_
  refine lv_istore_n (lv' := [(2, .int (iI cn)), (0, .ref b0), (1, .int (iI v))]) hx hb dJ5_append_c97b9_4 rfl hl (by decide) rfl (fun ls hl => ?_)
  refine lv_iload_n hx hb dJ5_append_c97b9_5 rfl (lv_at hl 0 rfl) ?_
  refine lv_iload_n hx hb dJ5_append_c97b9_6 rfl (lv_at hl 2 rfl) ?_
  refine zc_riS (As := [.int (iI v)]) (rest := [.int (iI cn)]) ⟨hx, hb, hml, hown, hts⟩ (c_J6_stringSize_0f7a4 l D _ tys cA hty v (by omega)) (va_cwS 1 hts gJ5_append_c97b9_J6_stringSize_0f7a4 rfl rfl rfl (by decide +kernel) ⟨(Nat.le_of_ble_eq_true rfl), (Nat.le_of_ble_eq_true rfl)⟩) hP hK hD hS hA [] rfl rfl rfl hl.1 rfl (Nat.le_of_ble_eq_true rfl) dJ5_append_c97b9_7 ⟨Nat.zero_le _, Nat.zero_le _⟩ (fun H locs hP hS => ?_)
  refine zi_iadd hx hb dJ5_append_c97b9_10 ?_
  refine lv_istore_n (lv' := [(3, .int (iI (cn + (zDg v)))), (2, .int (iI cn)), (0, .ref b0), (1, .int (iI v))]) hx hb dJ5_append_c97b9_11 rfl hl (by decide) rfl (fun ls hl => ?_)
  refine lv_aload_n hx hb dJ5_append_c97b9_12 rfl (lv_at hl 2 rfl) ?_
  refine lv_iload_n hx hb dJ5_append_c97b9_13 rfl (lv_at hl 0 rfl) ?_
  refine zs_rv (va_runU (As := [.int (iI (cn + (zDg v)))]) (rest := []) ⟨hx, hb, hml, hown, hts⟩ (c_J5_ensureCapacityInternal_d00df l D _ tys cA hty t1 t2 cB htb b0 b1 cn (cn + (zDg v)) T1 (by omega)) (va_cwU 1 hts gJ5_append_c97b9_J5_ensureCapacityInternal_d00df_u100J4 rfl rfl rfl rfl (by decide +kernel) ⟨(Nat.le_of_ble_eq_true rfl), (Nat.le_of_ble_eq_true rfl)⟩) (zPs_V (ci := 0) (zsub_P hP [0, 1] rfl) hK (hD.sub [0, 1] rfl rfl) (zSta_call hZ hS (fun _ h => h) hD hA [0, 1] rfl) rfl rfl) rfl rfl hl.1 rfl (lv_room (Nat.le_of_ble_eq_true rfl)) dJ5_append_c97b9_14 ⟨(Nat.le_of_ble_eq_true rfl), (Nat.le_of_ble_eq_true rfl)⟩) hP hS hA (fun H locs hP hS => ?_)
  refine lv_aload_n hx hb dJ5_append_c97b9_17 rfl (lv_at hl 2 rfl) ?_
  refine zs_ri (va_runU (As := []) (rest := []) ⟨hx, hb, hml, hown, hts⟩ (c_J5_isLatin1_aae02 l D _ tys cA hty t1 t2 cB htb b0 b1 cn) (va_cwU 0 hts gJ5_append_c97b9_J5_isLatin1_aae02_u83J4 rfl rfl rfl rfl (by decide +kernel) ⟨(Nat.le_of_ble_eq_true rfl), (Nat.le_of_ble_eq_true rfl)⟩) (zPs_V (ci := 0) (zsub_P hP [0] rfl) hK (hD.sub [0] rfl rfl) (zSta_call hZ hS (fun _ h => h) hD hA [0] rfl) rfl rfl) rfl rfl hl.1 rfl (lv_room (Nat.le_of_ble_eq_true rfl)) dJ5_append_c97b9_18 ⟨(Nat.le_of_ble_eq_true rfl), (Nat.le_of_ble_eq_true rfl)⟩) hP hS hA (fun H locs hP hS => ?_)
  refine zi_if_eq (tgt := 37) hx hb dJ5_append_c97b9_21 (by decide) (by omega) (fun c21 => ?_) (fun c21 => ?_)
  · exact absurd c21 (by omega)
  · skip
    refine lv_iload_n hx hb dJ5_append_c97b9_24 rfl (lv_at hl 3 rfl) ?_
    refine lv_iload_n hx hb dJ5_append_c97b9_25 rfl (lv_at hl 0 rfl) ?_
    refine lv_aload_n hx hb dJ5_append_c97b9_26 rfl (lv_at hl 2 rfl) ?_
    refine va_get (ci := 0) (v := .ref b1) (C := RJ4) (T := TJ4) (N := 4) hx hb hts iz_J5_append_c97b9_J4 hown hK hP 0 rfl rfl 0 (by decide) (hts (.fieldLink RJ5 15 "java/lang/AbstractStringBuilder" "value" "[B") (by decide +kernel)) (fun _ h9 => h9) rfl dJ5_append_c97b9_27 ?_
    refine zs_wi (wr := [(b0, .inr (0, [.ref b1, .int (iI 0), .int (iI 0), .int (iI cn)]))]) (va_runS (As := [.int (iI v), .int (iI (cn + (zDg v))), .ref b1]) (rest := []) ⟨hx, hb, hml, hown, hts⟩ (c_J6_getChars_ba4f3 l D _ tys cA hty t1 t2 cB htb v (cn + (zDg v)) b1 T1 (by omega) (by omega)) (va_cwS 3 hts gJ5_append_c97b9_J6_getChars_ba4f3 rfl rfl rfl (by decide +kernel) ⟨(Nat.le_of_ble_eq_true rfl), (Nat.le_of_ble_eq_true rfl)⟩) (zPs_S (zsub_P hP [1] rfl) hK (hD.sub [1] rfl rfl) (zSta_call hZ hS (fun _ h => h) hD hA [1] rfl)) rfl rfl hl.1 rfl (lv_room (Nat.le_of_ble_eq_true rfl)) dJ5_append_c97b9_30 ⟨(Nat.le_of_ble_eq_true rfl), (Nat.le_of_ble_eq_true rfl)⟩) hP hD hS hA [1] rfl [0] [0, 1] rfl rfl (by decide) (fun _ => rfl) rfl (ws1 := fun (u9 : Int → Int) => [(b0, .inr (0, [.ref b1, .int (iI 0), .int (iI 0), .int (iI cn)])), (b1, .inl (cB, 16, .inl (zF u9)))]) (fun u30 H locs w30 hP hD hS => ?_)
    obtain ⟨T30, rfl⟩ : ∃ z, z = u30 := ⟨_, rfl⟩
    have hP : va_P D vwCl [(b0, .inr (0, [.ref b1, .int (iI 0), .int (iI 0), .int (iI cn)])), (b1, .inl (cB, 16, .inl (zF T30)))] H := hP
    have hD : va_D _ [(b0, .inr (0, [.ref b1, .int (iI 0), .int (iI 0), .int (iI cn)])), (b1, .inl (cB, 16, .inl (zF T30)))] := hD
    refine lv_pop hx hb dJ5_append_c97b9_33 rfl ?_
    refine lv_goto (tgt := 48) hx hb dJ5_append_c97b9_34 (by decide) ?_
    refine lv_aload_n hx hb dJ5_append_c97b9_48 rfl (lv_at hl 2 rfl) ?_
    refine lv_iload_n hx hb dJ5_append_c97b9_49 rfl (lv_at hl 0 rfl) ?_
    refine va_put (ci := 0) (v := .int (iI (cn + (zDg v)))) (ty := .int) (C := RJ4) (T := TJ4) (N := 4) hx hb hts iz_J5_append_c97b9_J4 tyJ4 tyJ4_ok nmJ4 hown hK hP hD hS 0 rfl rfl 3 (by decide) (hts (.fieldLink RJ5 79 "java/lang/AbstractStringBuilder" "count" "I") (by decide +kernel)) (fun _ h9 => h9) rfl (by decide +kernel) rfl rfl (Nat.le_of_ble_eq_true rfl) dJ5_append_c97b9_50 (fun H locs hP hD hS => ?_)
    have hP : va_P D vwCl [(b0, .inr (0, [.ref b1, .int (iI 0), .int (iI 0), .int (iI (cn + (zDg v)))])), (b1, .inl (cB, 16, .inl (zF T30)))] H := hP
    have hD : va_D _ [(b0, .inr (0, [.ref b1, .int (iI 0), .int (iI 0), .int (iI (cn + (zDg v)))])), (b1, .inl (cB, 16, .inl (zF T30)))] := hD
    refine lv_aload_n hx hb dJ5_append_c97b9_53 rfl (lv_at hl 2 rfl) ?_
    exact W.aret (v := .ref b0) hx hb hr (Or.inl ⟨_, rfl⟩) (Or.inr ⟨_, rfl⟩) (fun t ht hW => ⟨⟨T30, _, rfl, (fun j => by have z := w30 j; rw [show cn + zDg v - zDg v = cn by omega] at z; exact z), rfl, ⟨by rw [ht]; exact hP, hD⟩⟩, hS.F ht⟩) hS.2.2 dJ5_append_c97b9_54
theorem iz_J5_append_3fe6f_J4 : ∀ w ∈ u_ws RJ4 TJ4 4, w ∈ wsJ5_append_3fe6f := by decide +kernel
set_option maxHeartbeats 4000000 in
set_option maxRecDepth 100000 in
/-- AbstractStringBuilder.append(char), of 0 to 127 -/
theorem c_J5_append_3fe6f (l : Launch) (D : va_G) (sz : Nat) (tys : List (ClassId × FieldType)) (cA : ClassId) (hty : tys[0]? = some (cA, .int)) (t1 t2 : Nat) (cB : ClassId) (htb : tys[2]? = some (cB, .byte)) (b0 b1 : Nat) (v cn : Int) (T1 : Int → Int) (gv : 0 ≤ v ∧ v ≤ 127) (gc : 0 ≤ cn ∧ cn ≤ 15) : Met l yJ5_append_3fe6f wsJ5_append_3fe6f ({ frames := 1, cells := 0, slots := 0, locals := 22 }) (zPs D [.ref b0, .int (iI v)] sz [(b0, .inr (0, [.ref b1, .int (iI 0), .int (iI 0), .int (iI cn)])), (b1, .inl (cB, 16, .inl (zF T1)))] tys t1 t2) (zWr (fun (u : Unit) => True) D (fun (u : Unit) => [(b0, .inr (0, [.ref b1, .int (iI 0), .int (iI 0), .int (iI (cn + 1))])), (b1, .inl (cB, 16, .inl (zF (zU T1 cn v))))]) [(b0, .inr (0, [.ref b1, .int (iI 0), .int (iI 0), .int (iI cn)])), (b1, .inl (cB, 16, .inl (zF T1)))] b0 sz) 0 0 (va_A [(b0, .inr (0, [.ref b1, .int (iI 0), .int (iI 0), .int (iI cn)])), (b1, .inl (cB, 16, .inl (zF T1)))] sz) := by
  refine va_MetF (cc := cJ5_append_3fe6f) (maxL := 2) (ret := (some (.object "java/lang/AbstractStringBuilder"))) (by decide +kernel) rfl ?_
  intro p e s m args below meth c s₁ B hml hv
  obtain ⟨rfl, hsz, hP, hK, hD0, hZ⟩ := hv
  have hx := B.exec
  have hb := B.bytes
  have hr := B.returns
  have hts := atoms_spec (ws := wsJ5_append_3fe6f) B.pre
  have hown : s.vm.findClass RJ5 = some m.cls := findClass_of_methodNamed B.named
  have hlocks := B.notSynchronized
  subst hsz
  have hD : va_D (va_A [(b0, .inr (0, [.ref b1, .int (iI 0), .int (iI 0), .int (iI cn)])), (b1, .inl (cB, 16, .inl (zF T1)))] s.heap.size) [(b0, .inr (0, [.ref b1, .int (iI 0), .int (iI 0), .int (iI cn)])), (b1, .inl (cB, 16, .inl (zF T1)))] := hD0.self
  have hS : va_S (va_A [(b0, .inr (0, [.ref b1, .int (iI 0), .int (iI 0), .int (iI cn)])), (b1, .inl (cB, 16, .inl (zF T1)))] s.heap.size) s.heap s.heap [] := va_S.rf
  have hA : ∀ q9 : Nat, s.heap.size ≤ q9 → (va_A [(b0, .inr (0, [.ref b1, .int (iI 0), .int (iI 0), .int (iI cn)])), (b1, .inl (cB, 16, .inl (zF T1)))] s.heap.size) q9 := fun q9 h => Or.inr h
  have hl := lv_entry ([.ref b0, .int (iI v)]) (n := 2) (Nat.le_of_ble_eq_true rfl)
  rw [lg_entry_eq]
  generalize (lg_sl ([.ref b0, .int (iI v)]) ++ List.replicate (2 - (lg_sl ([.ref b0, .int (iI v)])).length) Slot.unset).toArray = ls at hl ⊢
  have hl : lv_has ls 2 [(0, .ref b0), (1, .int (iI v))] := hl
  refine lv_aload_n hx hb dJ5_append_3fe6f_0 rfl (lv_at hl 0 rfl) ?_
  refine lv_aload_n hx hb dJ5_append_3fe6f_1 rfl (lv_at hl 0 rfl) ?_
  refine va_get (ci := 0) (v := .int (iI cn)) (C := RJ4) (T := TJ4) (N := 4) hx hb hts iz_J5_append_3fe6f_J4 hown hK hP 0 rfl rfl 3 (by decide) (hts (.fieldLink RJ5 79 "java/lang/AbstractStringBuilder" "count" "I") (by decide +kernel)) (fun _ h9 => h9) rfl dJ5_append_3fe6f_2 ?_
  refine lv_iconst (v := iI 1) hx hb dJ5_append_3fe6f_5 rfl ?_
  refine zi_iadd hx hb dJ5_append_3fe6f_6 ?_
  refine zs_rv (va_runU (As := [.int (iI (cn + 1))]) (rest := []) ⟨hx, hb, hml, hown, hts⟩ (c_J5_ensureCapacityInternal_d00df l D _ tys cA hty t1 t2 cB htb b0 b1 cn (cn + 1) T1 (by omega)) (va_cwU 1 hts gJ5_append_3fe6f_J5_ensureCapacityInternal_d00df_u100J4 rfl rfl rfl rfl (by decide +kernel) ⟨(Nat.le_of_ble_eq_true rfl), (Nat.le_of_ble_eq_true rfl)⟩) (zPs_V (ci := 0) (zsub_P hP [0, 1] rfl) hK (hD.sub [0, 1] rfl rfl) (zSta_call hZ hS (fun _ h => h) hD hA [0, 1] rfl) rfl rfl) rfl rfl hl.1 rfl (lv_room (Nat.le_of_ble_eq_true rfl)) dJ5_append_3fe6f_7 ⟨(Nat.le_of_ble_eq_true rfl), (Nat.le_of_ble_eq_true rfl)⟩) hP hS hA (fun H locs hP hS => ?_)
  refine lv_aload_n hx hb dJ5_append_3fe6f_10 rfl (lv_at hl 0 rfl) ?_
  refine zs_ri (va_runU (As := []) (rest := []) ⟨hx, hb, hml, hown, hts⟩ (c_J5_isLatin1_aae02 l D _ tys cA hty t1 t2 cB htb b0 b1 cn) (va_cwU 0 hts gJ5_append_3fe6f_J5_isLatin1_aae02_u83J4 rfl rfl rfl rfl (by decide +kernel) ⟨(Nat.le_of_ble_eq_true rfl), (Nat.le_of_ble_eq_true rfl)⟩) (zPs_V (ci := 0) (zsub_P hP [0] rfl) hK (hD.sub [0] rfl rfl) (zSta_call hZ hS (fun _ h => h) hD hA [0] rfl) rfl rfl) rfl rfl hl.1 rfl (lv_room (Nat.le_of_ble_eq_true rfl)) dJ5_append_3fe6f_11 ⟨(Nat.le_of_ble_eq_true rfl), (Nat.le_of_ble_eq_true rfl)⟩) hP hS hA (fun H locs hP hS => ?_)
  refine zi_if_eq (tgt := 45) hx hb dJ5_append_3fe6f_14 (by decide) (by omega) (fun c14 => ?_) (fun c14 => ?_)
  · exact absurd c14 (by omega)
  · skip
    refine lv_iload_n hx hb dJ5_append_3fe6f_17 rfl (lv_at hl 1 rfl) ?_
    refine zc_riS (As := [.int (iI v)]) (rest := []) ⟨hx, hb, hml, hown, hts⟩ (c_J1_canEncode_fc78d l D _ tys cA hty v (by omega)) (va_cwS 1 hts gJ5_append_3fe6f_J1_canEncode_fc78d rfl rfl rfl (by decide +kernel) ⟨(Nat.le_of_ble_eq_true rfl), (Nat.le_of_ble_eq_true rfl)⟩) hP hK hD hS hA [] rfl rfl rfl hl.1 rfl (Nat.le_of_ble_eq_true rfl) dJ5_append_3fe6f_18 ⟨Nat.zero_le _, Nat.zero_le _⟩ (fun H locs hP hS => ?_)
    refine zi_if_eq (tgt := 45) hx hb dJ5_append_3fe6f_21 (by decide) (by omega) (fun c21 => ?_) (fun c21 => ?_)
    · exact absurd c21 (by omega)
    · skip
      refine lv_aload_n hx hb dJ5_append_3fe6f_24 rfl (lv_at hl 0 rfl) ?_
      refine va_get (ci := 0) (v := .ref b1) (C := RJ4) (T := TJ4) (N := 4) hx hb hts iz_J5_append_3fe6f_J4 hown hK hP 0 rfl rfl 0 (by decide) (hts (.fieldLink RJ5 15 "java/lang/AbstractStringBuilder" "value" "[B") (by decide +kernel)) (fun _ h9 => h9) rfl dJ5_append_3fe6f_25 ?_
      refine lv_aload_n hx hb dJ5_append_3fe6f_28 rfl (lv_at hl 0 rfl) ?_
      refine lv_dup hx hb dJ5_append_3fe6f_29 rfl ?_
      refine va_get (ci := 0) (v := .int (iI cn)) (C := RJ4) (T := TJ4) (N := 4) hx hb hts iz_J5_append_3fe6f_J4 hown hK hP 0 rfl rfl 3 (by decide) (hts (.fieldLink RJ5 79 "java/lang/AbstractStringBuilder" "count" "I") (by decide +kernel)) (fun _ h9 => h9) rfl dJ5_append_3fe6f_30 ?_
      refine lv_dup_x1 hx hb dJ5_append_3fe6f_33 rfl rfl ?_
      refine lv_iconst (v := iI 1) hx hb dJ5_append_3fe6f_34 rfl ?_
      refine zi_iadd hx hb dJ5_append_3fe6f_35 ?_
      refine va_put (ci := 0) (v := .int (iI (cn + 1))) (ty := .int) (C := RJ4) (T := TJ4) (N := 4) hx hb hts iz_J5_append_3fe6f_J4 tyJ4 tyJ4_ok nmJ4 hown hK hP hD hS 0 rfl rfl 3 (by decide) (hts (.fieldLink RJ5 79 "java/lang/AbstractStringBuilder" "count" "I") (by decide +kernel)) (fun _ h9 => h9) rfl (by decide +kernel) rfl rfl (Nat.le_of_ble_eq_true rfl) dJ5_append_3fe6f_36 (fun H locs hP hD hS => ?_)
      have hP : va_P D vwCl [(b0, .inr (0, [.ref b1, .int (iI 0), .int (iI 0), .int (iI (cn + 1))])), (b1, .inl (cB, 16, .inl (zF T1)))] H := hP
      have hD : va_D _ [(b0, .inr (0, [.ref b1, .int (iI 0), .int (iI 0), .int (iI (cn + 1))])), (b1, .inl (cB, 16, .inl (zF T1)))] := hD
      refine lv_iload_n hx hb dJ5_append_3fe6f_39 rfl (lv_at hl 1 rfl) ?_
      refine lv_i2b (v := iI v) hx hb dJ5_append_3fe6f_40 (iI_b (by omega)) ?_
      refine zi_bast hx hb hK hP hD hS 1 2 rfl htb (by decide) (by omega) (by omega) dJ5_append_3fe6f_41 (fun H locs hP hD hS => ?_)
      have hP : va_P D vwCl [(b0, .inr (0, [.ref b1, .int (iI 0), .int (iI 0), .int (iI (cn + 1))])), (b1, .inl (cB, 16, .inl (zF (zU T1 cn v))))] H := hP
      have hD : va_D _ [(b0, .inr (0, [.ref b1, .int (iI 0), .int (iI 0), .int (iI (cn + 1))])), (b1, .inl (cB, 16, .inl (zF (zU T1 cn v))))] := hD
      refine lv_goto (tgt := 75) hx hb dJ5_append_3fe6f_42 (by decide) ?_
      refine lv_aload_n hx hb dJ5_append_3fe6f_75 rfl (lv_at hl 0 rfl) ?_
      exact W.aret (v := .ref b0) hx hb hr (Or.inl ⟨_, rfl⟩) (Or.inr ⟨_, rfl⟩) (fun t ht hW => ⟨⟨(), _, rfl, trivial, rfl, ⟨by rw [ht]; exact hP, hD⟩⟩, hS.F ht⟩) hS.2.2 dJ5_append_3fe6f_76
set_option maxHeartbeats 4000000 in
set_option maxRecDepth 100000 in
/-- StringBuilder.append(int), of 0 to 999 -/
theorem c_J4_append_bf812 (l : Launch) (D : va_G) (sz : Nat) (tys : List (ClassId × FieldType)) (cA : ClassId) (hty : tys[0]? = some (cA, .int)) (t1 t2 : Nat) (cB : ClassId) (htb : tys[2]? = some (cB, .byte)) (b0 b1 : Nat) (v cn : Int) (T1 : Int → Int) (gv : 0 ≤ v ∧ v ≤ 999) (gc : 0 ≤ cn ∧ cn + zDg v ≤ 16) : Met l yJ4_append_bf812 wsJ4_append_bf812 ({ frames := 2, cells := 0, slots := 0, locals := 49 }) (zPs D [.ref b0, .int (iI v)] sz [(b0, .inr (0, [.ref b1, .int (iI 0), .int (iI 0), .int (iI cn)])), (b1, .inl (cB, 16, .inl (zF T1)))] tys t1 t2) (zWr (fun (u : Int → Int) => ∀ j : Int, u j = (if cn ≤ j ∧ j < cn + zDg v then zDt v (j - cn) else T1 j)) D (fun (u : Int → Int) => [(b0, .inr (0, [.ref b1, .int (iI 0), .int (iI 0), .int (iI (cn + zDg v))])), (b1, .inl (cB, 16, .inl (zF u)))]) [(b0, .inr (0, [.ref b1, .int (iI 0), .int (iI 0), .int (iI cn)])), (b1, .inl (cB, 16, .inl (zF T1)))] b0 sz) 0 0 (va_A [(b0, .inr (0, [.ref b1, .int (iI 0), .int (iI 0), .int (iI cn)])), (b1, .inl (cB, 16, .inl (zF T1)))] sz) := by
  refine va_MetF (cc := cJ4_append_bf812) (maxL := 2) (ret := (some (.object "java/lang/StringBuilder"))) (by decide +kernel) rfl ?_
  intro p e s m args below meth c s₁ B hml hv
  obtain ⟨rfl, hsz, hP, hK, hD0, hZ⟩ := hv
  have hx := B.exec
  have hb := B.bytes
  have hr := B.returns
  have hts := atoms_spec (ws := wsJ4_append_bf812) B.pre
  have hown : s.vm.findClass RJ4 = some m.cls := findClass_of_methodNamed B.named
  have hlocks := B.notSynchronized
  subst hsz
  have hD : va_D (va_A [(b0, .inr (0, [.ref b1, .int (iI 0), .int (iI 0), .int (iI cn)])), (b1, .inl (cB, 16, .inl (zF T1)))] s.heap.size) [(b0, .inr (0, [.ref b1, .int (iI 0), .int (iI 0), .int (iI cn)])), (b1, .inl (cB, 16, .inl (zF T1)))] := hD0.self
  have hS : va_S (va_A [(b0, .inr (0, [.ref b1, .int (iI 0), .int (iI 0), .int (iI cn)])), (b1, .inl (cB, 16, .inl (zF T1)))] s.heap.size) s.heap s.heap [] := va_S.rf
  have hA : ∀ q9 : Nat, s.heap.size ≤ q9 → (va_A [(b0, .inr (0, [.ref b1, .int (iI 0), .int (iI 0), .int (iI cn)])), (b1, .inl (cB, 16, .inl (zF T1)))] s.heap.size) q9 := fun q9 h => Or.inr h
  have hl := lv_entry ([.ref b0, .int (iI v)]) (n := 2) (Nat.le_of_ble_eq_true rfl)
  rw [lg_entry_eq]
  generalize (lg_sl ([.ref b0, .int (iI v)]) ++ List.replicate (2 - (lg_sl ([.ref b0, .int (iI v)])).length) Slot.unset).toArray = ls at hl ⊢
  have hl : lv_has ls 2 [(0, .ref b0), (1, .int (iI v))] := hl
  refine lv_aload_n hx hb dJ4_append_bf812_0 rfl (lv_at hl 0 rfl) ?_
  refine lv_iload_n hx hb dJ4_append_bf812_1 rfl (lv_at hl 1 rfl) ?_
  refine zs_wr (wr := []) (va_runSU (hK.1 0 _ rfl).2 (As := [.int (iI v)]) (rest := []) ⟨hx, hb, hml, hown, hts⟩ (c_J5_append_c97b9 l D _ tys cA hty t1 t2 cB htb b0 b1 v cn T1 gv gc) (va_cwSU 1 hts gJ4_append_bf812_J5_append_c97b9_s53 rfl rfl rfl (by decide +kernel) ⟨(Nat.le_of_ble_eq_true rfl), (Nat.le_of_ble_eq_true rfl)⟩) (zPs_V (ci := 0) (zsub_P hP [0, 1] rfl) hK (hD.sub [0, 1] rfl rfl) (zSta_call hZ hS (fun _ h => h) hD hA [0, 1] rfl) rfl rfl) rfl rfl hl.1 rfl (lv_room (Nat.le_of_ble_eq_true rfl)) dJ4_append_bf812_2 ⟨(Nat.le_of_ble_eq_true rfl), (Nat.le_of_ble_eq_true rfl)⟩) hP hD hS hA [0, 1] rfl [] [0, 1] rfl rfl (by decide) (fun _ => rfl) rfl (ws1 := fun (u9 : Int → Int) => [(b0, .inr (0, [.ref b1, .int (iI 0), .int (iI 0), .int (iI (cn + zDg v))])), (b1, .inl (cB, 16, .inl (zF u9)))]) (fun u2 H locs w2 hP hD hS => ?_)
  obtain ⟨T2, rfl⟩ : ∃ z, z = u2 := ⟨_, rfl⟩
  have hP : va_P D vwCl [(b0, .inr (0, [.ref b1, .int (iI 0), .int (iI 0), .int (iI (cn + zDg v))])), (b1, .inl (cB, 16, .inl (zF T2)))] H := hP
  have hD : va_D _ [(b0, .inr (0, [.ref b1, .int (iI 0), .int (iI 0), .int (iI (cn + zDg v))])), (b1, .inl (cB, 16, .inl (zF T2)))] := hD
  refine lv_pop hx hb dJ4_append_bf812_5 rfl ?_
  refine lv_aload_n hx hb dJ4_append_bf812_6 rfl (lv_at hl 0 rfl) ?_
  exact W.aret (v := .ref b0) hx hb hr (Or.inl ⟨_, rfl⟩) (Or.inr ⟨_, rfl⟩) (fun t ht hW => ⟨⟨T2, _, rfl, w2, rfl, ⟨by rw [ht]; exact hP, hD⟩⟩, hS.F ht⟩) hS.2.2 dJ4_append_bf812_7
set_option maxHeartbeats 4000000 in
set_option maxRecDepth 100000 in
/-- StringBuilder.append(char), of 0 to 127 -/
theorem c_J4_append_cf468 (l : Launch) (D : va_G) (sz : Nat) (tys : List (ClassId × FieldType)) (cA : ClassId) (hty : tys[0]? = some (cA, .int)) (t1 t2 : Nat) (cB : ClassId) (htb : tys[2]? = some (cB, .byte)) (b0 b1 : Nat) (v cn : Int) (T1 : Int → Int) (gv : 0 ≤ v ∧ v ≤ 127) (gc : 0 ≤ cn ∧ cn ≤ 15) : Met l yJ4_append_cf468 wsJ4_append_cf468 ({ frames := 2, cells := 0, slots := 0, locals := 43 }) (zPs D [.ref b0, .int (iI v)] sz [(b0, .inr (0, [.ref b1, .int (iI 0), .int (iI 0), .int (iI cn)])), (b1, .inl (cB, 16, .inl (zF T1)))] tys t1 t2) (zWr (fun (u : Unit) => True) D (fun (u : Unit) => [(b0, .inr (0, [.ref b1, .int (iI 0), .int (iI 0), .int (iI (cn + 1))])), (b1, .inl (cB, 16, .inl (zF (zU T1 cn v))))]) [(b0, .inr (0, [.ref b1, .int (iI 0), .int (iI 0), .int (iI cn)])), (b1, .inl (cB, 16, .inl (zF T1)))] b0 sz) 0 0 (va_A [(b0, .inr (0, [.ref b1, .int (iI 0), .int (iI 0), .int (iI cn)])), (b1, .inl (cB, 16, .inl (zF T1)))] sz) := by
  refine va_MetF (cc := cJ4_append_cf468) (maxL := 2) (ret := (some (.object "java/lang/StringBuilder"))) (by decide +kernel) rfl ?_
  intro p e s m args below meth c s₁ B hml hv
  obtain ⟨rfl, hsz, hP, hK, hD0, hZ⟩ := hv
  have hx := B.exec
  have hb := B.bytes
  have hr := B.returns
  have hts := atoms_spec (ws := wsJ4_append_cf468) B.pre
  have hown : s.vm.findClass RJ4 = some m.cls := findClass_of_methodNamed B.named
  have hlocks := B.notSynchronized
  subst hsz
  have hD : va_D (va_A [(b0, .inr (0, [.ref b1, .int (iI 0), .int (iI 0), .int (iI cn)])), (b1, .inl (cB, 16, .inl (zF T1)))] s.heap.size) [(b0, .inr (0, [.ref b1, .int (iI 0), .int (iI 0), .int (iI cn)])), (b1, .inl (cB, 16, .inl (zF T1)))] := hD0.self
  have hS : va_S (va_A [(b0, .inr (0, [.ref b1, .int (iI 0), .int (iI 0), .int (iI cn)])), (b1, .inl (cB, 16, .inl (zF T1)))] s.heap.size) s.heap s.heap [] := va_S.rf
  have hA : ∀ q9 : Nat, s.heap.size ≤ q9 → (va_A [(b0, .inr (0, [.ref b1, .int (iI 0), .int (iI 0), .int (iI cn)])), (b1, .inl (cB, 16, .inl (zF T1)))] s.heap.size) q9 := fun q9 h => Or.inr h
  have hl := lv_entry ([.ref b0, .int (iI v)]) (n := 2) (Nat.le_of_ble_eq_true rfl)
  rw [lg_entry_eq]
  generalize (lg_sl ([.ref b0, .int (iI v)]) ++ List.replicate (2 - (lg_sl ([.ref b0, .int (iI v)])).length) Slot.unset).toArray = ls at hl ⊢
  have hl : lv_has ls 2 [(0, .ref b0), (1, .int (iI v))] := hl
  refine lv_aload_n hx hb dJ4_append_cf468_0 rfl (lv_at hl 0 rfl) ?_
  refine lv_iload_n hx hb dJ4_append_cf468_1 rfl (lv_at hl 1 rfl) ?_
  refine zs_wr (wr := []) (va_runSU (hK.1 0 _ rfl).2 (As := [.int (iI v)]) (rest := []) ⟨hx, hb, hml, hown, hts⟩ (c_J5_append_3fe6f l D _ tys cA hty t1 t2 cB htb b0 b1 v cn T1 gv gc) (va_cwSU 1 hts gJ4_append_cf468_J5_append_3fe6f_s50 rfl rfl rfl (by decide +kernel) ⟨(Nat.le_of_ble_eq_true rfl), (Nat.le_of_ble_eq_true rfl)⟩) (zPs_V (ci := 0) (zsub_P hP [0, 1] rfl) hK (hD.sub [0, 1] rfl rfl) (zSta_call hZ hS (fun _ h => h) hD hA [0, 1] rfl) rfl rfl) rfl rfl hl.1 rfl (lv_room (Nat.le_of_ble_eq_true rfl)) dJ4_append_cf468_2 ⟨(Nat.le_of_ble_eq_true rfl), (Nat.le_of_ble_eq_true rfl)⟩) hP hD hS hA [0, 1] rfl [] [0, 1] rfl rfl (by decide) (fun _ => rfl) rfl (ws1 := fun (_ : Unit) => [(b0, .inr (0, [.ref b1, .int (iI 0), .int (iI 0), .int (iI (cn + 1))])), (b1, .inl (cB, 16, .inl (zF (zU T1 cn v))))]) (fun u2 H locs w2 hP hD hS => ?_)
  have hP : va_P D vwCl [(b0, .inr (0, [.ref b1, .int (iI 0), .int (iI 0), .int (iI (cn + 1))])), (b1, .inl (cB, 16, .inl (zF (zU T1 cn v))))] H := hP
  have hD : va_D _ [(b0, .inr (0, [.ref b1, .int (iI 0), .int (iI 0), .int (iI (cn + 1))])), (b1, .inl (cB, 16, .inl (zF (zU T1 cn v))))] := hD
  refine lv_pop hx hb dJ4_append_cf468_5 rfl ?_
  refine lv_aload_n hx hb dJ4_append_cf468_6 rfl (lv_at hl 0 rfl) ?_
  exact W.aret (v := .ref b0) hx hb hr (Or.inl ⟨_, rfl⟩) (Or.inr ⟨_, rfl⟩) (fun t ht hW => ⟨⟨(), _, rfl, trivial, rfl, ⟨by rw [ht]; exact hP, hD⟩⟩, hS.F ht⟩) hS.2.2 dJ4_append_cf468_7
set_option maxHeartbeats 4000000 in
set_option maxRecDepth 100000 in
/-- StringBuilder.length -/
theorem c_J4_length_8abf5 (l : Launch) (D : va_G) (sz : Nat) (tys : List (ClassId × FieldType)) (cA : ClassId) (hty : tys[0]? = some (cA, .int)) (b0 b1 : Nat) (cn : Int)  : Met l yJ4_length_8abf5 wsJ4_length_8abf5 ({ frames := 1, cells := 0, slots := 0, locals := 20 }) (zP D [.ref b0] sz [(b0, .inr (0, [.ref b1, .int (iI 0), .int (iI 0), .int (iI cn)]))] tys) (zRi cn sz) 0 0 (zN sz) := by
  refine va_MetF (cc := cJ4_length_8abf5) (maxL := 1) (ret := (some .int)) (by decide +kernel) rfl ?_
  intro p e s m args below meth c s₁ B hml hv
  obtain ⟨rfl, hsz, hP, hK, hD0⟩ := hv
  have hx := B.exec
  have hb := B.bytes
  have hr := B.returns
  have hts := atoms_spec (ws := wsJ4_length_8abf5) B.pre
  have hown : s.vm.findClass RJ4 = some m.cls := findClass_of_methodNamed B.named
  have hlocks := B.notSynchronized
  subst hsz
  have hD := hD0
  have hS : va_S (zN s.heap.size) s.heap s.heap [] := va_S.rf
  have hA : ∀ q9 : Nat, s.heap.size ≤ q9 → (zN s.heap.size) q9 := fun q9 h => h
  have hl := lv_entry ([.ref b0]) (n := 1) (Nat.le_of_ble_eq_true rfl)
  rw [lg_entry_eq]
  generalize (lg_sl ([.ref b0]) ++ List.replicate (1 - (lg_sl ([.ref b0])).length) Slot.unset).toArray = ls at hl ⊢
  have hl : lv_has ls 1 [(0, .ref b0)] := hl
  refine lv_aload_n hx hb dJ4_length_8abf5_0 rfl (lv_at hl 0 rfl) ?_
  refine zs_ri (va_runSU (hK.1 0 _ rfl).2 (As := []) (rest := []) ⟨hx, hb, hml, hown, hts⟩ (c_J5_length_8abf5 l D _ tys cA hty b0 b1 cn) (va_cwSU 0 hts gJ4_length_8abf5_J5_length_8abf5_s343 rfl rfl rfl (by decide +kernel) ⟨(Nat.le_of_ble_eq_true rfl), (Nat.le_of_ble_eq_true rfl)⟩) (zP_V (ci := 0) (zsub_P hP [0] rfl) hK (hD.sub [0] rfl rfl) rfl rfl) rfl rfl hl.1 rfl (lv_room (Nat.le_of_ble_eq_true rfl)) dJ4_length_8abf5_1 ⟨(Nat.le_of_ble_eq_true rfl), (Nat.le_of_ble_eq_true rfl)⟩) hP hS hA (fun H locs hP hS => ?_)
  exact W.iret (v := iI cn) hx hb hr (fun t ht hW => ⟨⟨iI cn, (), rfl, congrArg iI (show cn = cn from by rfl), trivial⟩, hS.F ht⟩) hS.2.2 dJ4_length_8abf5_4
theorem iz_J5_charAt_5068e_J4 : ∀ w ∈ u_ws RJ4 TJ4 4, w ∈ wsJ5_charAt_5068e := by decide +kernel
set_option maxHeartbeats 4000000 in
set_option maxRecDepth 100000 in
/-- AbstractStringBuilder.charAt, in range -/
theorem c_J5_charAt_5068e (l : Launch) (D : va_G) (sz : Nat) (tys : List (ClassId × FieldType)) (cA : ClassId) (hty : tys[0]? = some (cA, .int)) (t1 t2 : Nat) (cB : ClassId) (htb : tys[2]? = some (cB, .byte)) (b0 b1 : Nat) (v cn : Int) (T1 : Int → Int) (gv : 0 ≤ v ∧ v < cn) (gc : 0 ≤ cn ∧ cn ≤ 16) (gT : 0 ≤ T1 v ∧ T1 v ≤ 127) : Met l yJ5_charAt_5068e wsJ5_charAt_5068e ({ frames := 2, cells := 0, slots := 0, locals := 43 }) (zPs D [.ref b0, .int (iI v)] sz [(b0, .inr (0, [.ref b1, .int (iI 0), .int (iI 0), .int (iI cn)])), (b1, .inl (cB, 16, .inl (zF T1)))] tys t1 t2) (zRi (T1 v) sz) 0 0 (zN sz) := by
  refine va_MetF (cc := cJ5_charAt_5068e) (maxL := 5) (ret := (some .char)) (by decide +kernel) rfl ?_
  intro p e s m args below meth c s₁ B hml hv
  obtain ⟨rfl, hsz, hP, hK, hD0, hZ⟩ := hv
  have hx := B.exec
  have hb := B.bytes
  have hr := B.returns
  have hts := atoms_spec (ws := wsJ5_charAt_5068e) B.pre
  have hown : s.vm.findClass RJ5 = some m.cls := findClass_of_methodNamed B.named
  have hlocks := B.notSynchronized
  subst hsz
  have hD := hD0
  have hZ0 := hZ
  have hZ := hZ.moved (B := zN s.heap.size) (Vm.Alike.refl s.vm) (fun _ _ _ => rfl) (fun q h => Or.inr h)
  have hS : va_S (zN s.heap.size) s.heap s.heap [] := va_S.rf
  have hA : ∀ q9 : Nat, s.heap.size ≤ q9 → (zN s.heap.size) q9 := fun q9 h => h
  have hl := lv_entry ([.ref b0, .int (iI v)]) (n := 5) (Nat.le_of_ble_eq_true rfl)
  rw [lg_entry_eq]
  generalize (lg_sl ([.ref b0, .int (iI v)]) ++ List.replicate (5 - (lg_sl ([.ref b0, .int (iI v)])).length) Slot.unset).toArray = ls at hl ⊢
  have hl : lv_has ls 5 [(0, .ref b0), (1, .int (iI v))] := hl
  refine lv_aload_n hx hb dJ5_charAt_5068e_0 rfl (lv_at hl 0 rfl) ?_
  refine va_get (ci := 0) (v := .int (iI 0)) (C := RJ4) (T := TJ4) (N := 4) hx hb hts iz_J5_charAt_5068e_J4 hown hK hP 0 rfl rfl 1 (by decide) (hts (.fieldLink RJ5 22 "java/lang/AbstractStringBuilder" "coder" "B") (by decide +kernel)) (fun _ h9 => h9) rfl dJ5_charAt_5068e_1 ?_
  refine lv_istore_n (lv' := [(2, .int (iI 0)), (0, .ref b0), (1, .int (iI v))]) hx hb dJ5_charAt_5068e_4 rfl hl (by decide) rfl (fun ls hl => ?_)
  refine lv_aload_n hx hb dJ5_charAt_5068e_5 rfl (lv_at hl 1 rfl) ?_
  refine va_get (ci := 0) (v := .ref b1) (C := RJ4) (T := TJ4) (N := 4) hx hb hts iz_J5_charAt_5068e_J4 hown hK hP 0 rfl rfl 0 (by decide) (hts (.fieldLink RJ5 15 "java/lang/AbstractStringBuilder" "value" "[B") (by decide +kernel)) (fun _ h9 => h9) rfl dJ5_charAt_5068e_6 ?_
  refine lv_astore_n (lv' := [(3, .ref b1), (2, .int (iI 0)), (0, .ref b0), (1, .int (iI v))]) hx hb dJ5_charAt_5068e_9 rfl hl (by decide) rfl (fun ls hl => ?_)
  refine lv_aload_n hx hb dJ5_charAt_5068e_10 rfl (lv_at hl 2 rfl) ?_
  refine va_get (ci := 0) (v := .int (iI cn)) (C := RJ4) (T := TJ4) (N := 4) hx hb hts iz_J5_charAt_5068e_J4 hown hK hP 0 rfl rfl 3 (by decide) (hts (.fieldLink RJ5 79 "java/lang/AbstractStringBuilder" "count" "I") (by decide +kernel)) (fun _ h9 => h9) rfl dJ5_charAt_5068e_11 ?_
  refine lv_aload_n hx hb dJ5_charAt_5068e_14 rfl (lv_at hl 0 rfl) ?_
  refine va_alen hx hb hK hP 1 2 rfl htb (v := iI 16) (show Int32.ofNat 16 = iI 16 by decide +kernel) dJ5_charAt_5068e_15 ?_
  refine lv_iload_n hx hb dJ5_charAt_5068e_16 rfl (lv_at hl 1 rfl) ?_
  refine lv_ishr hx hb dJ5_charAt_5068e_17 ?_
  rw [show (iI 16 >>> (iI 0 &&& 31)) = iI 16 by decide]
  refine zi_min hx hb (hml.trans hl.1.symm) hown (hts (.methodLink RJ5 138 Lib.Math.min.name) (by decide +kernel)) (hts (.static Lib.Math.min.name) (by decide +kernel)) (hts (.initialized "java/lang/Math") (by decide +kernel)) (hts (.code Lib.Math.min.name Lib.Math.min.code 2 (some .int)) (by decide +kernel)) (Nat.le_of_ble_eq_true rfl) (Nat.le_of_ble_eq_true rfl) (Nat.zero_le _) (Nat.zero_le _) dJ5_charAt_5068e_18 (by omega) (by omega) ?_
  refine lv_istore (lv' := [(4, .int (iI (min cn 16))), (3, .ref b1), (2, .int (iI 0)), (0, .ref b0), (1, .int (iI v))]) hx hb dJ5_charAt_5068e_21 hl (by decide) rfl (fun ls hl => ?_)
  refine lv_iload_n hx hb dJ5_charAt_5068e_23 rfl (lv_at hl 4 rfl) ?_
  refine lv_iload hx hb dJ5_charAt_5068e_24 (lv_at hl 0 rfl) ?_
  refine zs_rv (va_runS (As := [.int (iI v), .int (iI (min cn 16))]) (rest := []) ⟨hx, hb, hml, hown, hts⟩ (c_J0_checkIndex_df160 l D _ tys cA hty t1 t2 cB htb v (min cn 16) (by omega) (by omega)) (va_cwS 2 hts gJ5_charAt_5068e_J0_checkIndex_df160 rfl rfl rfl (by decide +kernel) ⟨(Nat.le_of_ble_eq_true rfl), (Nat.le_of_ble_eq_true rfl)⟩) (zPs_S (zsub_P hP [] rfl) hK (hD.sub [] rfl rfl) (zSta_call hZ0 hS (fun _ h => Or.inr h) hD0.self (fun _ h => Or.inr h) [] rfl)) rfl rfl hl.1 rfl (lv_room (Nat.le_of_ble_eq_true rfl)) dJ5_charAt_5068e_26 ⟨(Nat.le_of_ble_eq_true rfl), (Nat.le_of_ble_eq_true rfl)⟩) hP hS hA (fun H locs hP hS => ?_)
  refine lv_iload_n hx hb dJ5_charAt_5068e_29 rfl (lv_at hl 2 rfl) ?_
  refine zi_if_ne (tgt := 42) hx hb dJ5_charAt_5068e_30 (by decide) (by omega) (fun c30 => ?_) (fun c30 => ?_)
  · exact absurd c30 (by omega)
  · skip
    refine lv_aload_n hx hb dJ5_charAt_5068e_33 rfl (lv_at hl 1 rfl) ?_
    refine lv_iload_n hx hb dJ5_charAt_5068e_34 rfl (lv_at hl 4 rfl) ?_
    refine zi_bald hx hb hK hP 1 2 rfl htb (by decide) (by omega) dJ5_charAt_5068e_35 ?_
    refine lv_sipush (v := iI 255) hx hb dJ5_charAt_5068e_36 (by decide +kernel) ?_
    refine lv_iand hx hb dJ5_charAt_5068e_39 ?_
    rw [iI_m255 (by omega)]
    refine lv_i2c (v := iI (T1 v)) hx hb dJ5_charAt_5068e_40 (iI_c2 (by omega)) ?_
    exact W.zret (v := iI (T1 v)) (ty := .char) hx hb hr (iI_nch (by omega)) (fun t ht hW => ⟨⟨iI (T1 v), (), rfl, congrArg iI (show T1 v = T1 v from by rfl), trivial⟩, hS.F ht⟩) hS.2.2 dJ5_charAt_5068e_41
set_option maxHeartbeats 4000000 in
set_option maxRecDepth 100000 in
/-- StringBuilder.charAt, in range -/
theorem c_J4_charAt_5068e (l : Launch) (D : va_G) (sz : Nat) (tys : List (ClassId × FieldType)) (cA : ClassId) (hty : tys[0]? = some (cA, .int)) (t1 t2 : Nat) (cB : ClassId) (htb : tys[2]? = some (cB, .byte)) (b0 b1 : Nat) (v cn : Int) (T1 : Int → Int) (gv : 0 ≤ v ∧ v < cn) (gc : 0 ≤ cn ∧ cn ≤ 16) (gT : 0 ≤ T1 v ∧ T1 v ≤ 127) : Met l yJ4_charAt_5068e wsJ4_charAt_5068e ({ frames := 3, cells := 0, slots := 0, locals := 67 }) (zPs D [.ref b0, .int (iI v)] sz [(b0, .inr (0, [.ref b1, .int (iI 0), .int (iI 0), .int (iI cn)])), (b1, .inl (cB, 16, .inl (zF T1)))] tys t1 t2) (zRi (T1 v) sz) 0 0 (zN sz) := by
  refine va_MetF (cc := cJ4_charAt_5068e) (maxL := 2) (ret := (some .char)) (by decide +kernel) rfl ?_
  intro p e s m args below meth c s₁ B hml hv
  obtain ⟨rfl, hsz, hP, hK, hD0, hZ⟩ := hv
  have hx := B.exec
  have hb := B.bytes
  have hr := B.returns
  have hts := atoms_spec (ws := wsJ4_charAt_5068e) B.pre
  have hown : s.vm.findClass RJ4 = some m.cls := findClass_of_methodNamed B.named
  have hlocks := B.notSynchronized
  subst hsz
  have hD := hD0
  have hZ0 := hZ
  have hZ := hZ.moved (B := zN s.heap.size) (Vm.Alike.refl s.vm) (fun _ _ _ => rfl) (fun q h => Or.inr h)
  have hS : va_S (zN s.heap.size) s.heap s.heap [] := va_S.rf
  have hA : ∀ q9 : Nat, s.heap.size ≤ q9 → (zN s.heap.size) q9 := fun q9 h => h
  have hl := lv_entry ([.ref b0, .int (iI v)]) (n := 2) (Nat.le_of_ble_eq_true rfl)
  rw [lg_entry_eq]
  generalize (lg_sl ([.ref b0, .int (iI v)]) ++ List.replicate (2 - (lg_sl ([.ref b0, .int (iI v)])).length) Slot.unset).toArray = ls at hl ⊢
  have hl : lv_has ls 2 [(0, .ref b0), (1, .int (iI v))] := hl
  refine lv_aload_n hx hb dJ4_charAt_5068e_0 rfl (lv_at hl 0 rfl) ?_
  refine lv_iload_n hx hb dJ4_charAt_5068e_1 rfl (lv_at hl 1 rfl) ?_
  refine zs_ri (va_runSU (hK.1 0 _ rfl).2 (As := [.int (iI v)]) (rest := []) ⟨hx, hb, hml, hown, hts⟩ (c_J5_charAt_5068e l D _ tys cA hty t1 t2 cB htb b0 b1 v cn T1 gv gc gT) (va_cwSU 1 hts gJ4_charAt_5068e_J5_charAt_5068e_s329 rfl rfl rfl (by decide +kernel) ⟨(Nat.le_of_ble_eq_true rfl), (Nat.le_of_ble_eq_true rfl)⟩) (zPs_V (ci := 0) (zsub_P hP [0, 1] rfl) hK (hD.sub [0, 1] rfl rfl) (zSta_call hZ0 hS (fun _ h => Or.inr h) hD0.self (fun _ h => Or.inr h) [0, 1] rfl) rfl rfl) rfl rfl hl.1 rfl (lv_room (Nat.le_of_ble_eq_true rfl)) dJ4_charAt_5068e_2 ⟨(Nat.le_of_ble_eq_true rfl), (Nat.le_of_ble_eq_true rfl)⟩) hP hS hA (fun H locs hP hS => ?_)
  exact W.zret (v := iI (T1 v)) (ty := .char) hx hb hr (iI_nch (by omega)) (fun t ht hW => ⟨⟨iI (T1 v), (), rfl, congrArg iI (show T1 v = T1 v from by rfl), trivial⟩, hS.F ht⟩) hS.2.2 dJ4_charAt_5068e_5
theorem iz_J5_init_d00df_J4 : ∀ w ∈ u_ws RJ4 TJ4 4, w ∈ wsJ5_init_d00df := by decide +kernel
set_option maxHeartbeats 4000000 in
set_option maxRecDepth 100000 in
/-- AbstractStringBuilder.<init>(16) -/
theorem c_J5_init_d00df (l : Launch) (D : va_G) (sz : Nat) (tys : List (ClassId × FieldType)) (cA : ClassId) (hty : tys[0]? = some (cA, .int)) (t1 t2 : Nat) (cB : ClassId) (htb : tys[2]? = some (cB, .byte)) (b0 : Nat)  : Met l yJ5_init_d00df wsJ5_init_d00df ({ frames := 1, cells := 1, slots := 16, locals := 14 }) (zPs D [.ref b0, .int (iI 16)] sz [(b0, .inr (0, [.null, .int (iI 0), .int (iI 0), .int (iI 0)]))] tys t1 t2) (zWv (fun (u : Nat) => True) D (fun (u : Nat) => [(b0, .inr (0, [.ref u, .int (iI 0), .int (iI 0), .int (iI 0)])), (u, .inl (cB, 16, .inl (zF (fun _ => 0))))]) [(b0, .inr (0, [.null, .int (iI 0), .int (iI 0), .int (iI 0)]))] sz) 1 16 (va_A [(b0, .inr (0, [.null, .int (iI 0), .int (iI 0), .int (iI 0)]))] sz) := by
  refine va_MetF (cc := cJ5_init_d00df) (maxL := 2) (ret := none) (by decide +kernel) rfl ?_
  intro p e s m args below meth c s₁ B hml hv
  obtain ⟨rfl, hsz, hP, hK, hD0, hZ⟩ := hv
  have hx := B.exec
  have hb := B.bytes
  have hr := B.returns
  have hts := atoms_spec (ws := wsJ5_init_d00df) B.pre
  have hown : s.vm.findClass RJ5 = some m.cls := findClass_of_methodNamed B.named
  have hlocks := B.notSynchronized
  have hin : meth.name = "<init>" := (name_of_methodNamed B.named B.method).1
  subst hsz
  have hD : va_D (va_A [(b0, .inr (0, [.null, .int (iI 0), .int (iI 0), .int (iI 0)]))] s.heap.size) [(b0, .inr (0, [.null, .int (iI 0), .int (iI 0), .int (iI 0)]))] := hD0.self
  have hS : va_S (va_A [(b0, .inr (0, [.null, .int (iI 0), .int (iI 0), .int (iI 0)]))] s.heap.size) s.heap s.heap [] := va_S.rf
  have hA : ∀ q9 : Nat, s.heap.size ≤ q9 → (va_A [(b0, .inr (0, [.null, .int (iI 0), .int (iI 0), .int (iI 0)]))] s.heap.size) q9 := fun q9 h => Or.inr h
  have hl := lv_entry ([.ref b0, .int (iI 16)]) (n := 2) (Nat.le_of_ble_eq_true rfl)
  rw [lg_entry_eq]
  generalize (lg_sl ([.ref b0, .int (iI 16)]) ++ List.replicate (2 - (lg_sl ([.ref b0, .int (iI 16)])).length) Slot.unset).toArray = ls at hl ⊢
  have hl : lv_has ls 2 [(0, .ref b0), (1, .int (iI 16))] := hl
  refine lv_aload_n hx hb dJ5_init_d00df_0 rfl (lv_at hl 0 rfl) ?_
  refine W.objInit hx hb hown (hts (.methodLink RJ5 3 objectInit) (by decide +kernel)) (hts (.instanceMethod objectInit) (by decide +kernel)) (hts _ (List.mem_cons_of_mem _ (List.mem_append_left _ (List.mem_of_getElem? (i := 2) rfl)))) rfl (by rw [hml]; exact hl.1) rfl dJ5_init_d00df_1 (Nat.le_of_ble_eq_true rfl) (Nat.le_of_ble_eq_true rfl) ?_
  refine W.eq (g2 := F0 m 4 ls []) rfl ?_
  refine va_gets (C := "java/lang/String") (n := "COMPACT_STRINGS") (d := "Z") (v := .int (iI 1)) hx hb hZ.1 hS hown (hts (.fieldLink RJ5 18 "java/lang/String" "COMPACT_STRINGS" "Z") (by decide +kernel)) (fun _ h9 => h9) dJ5_init_d00df_4 ?_
  refine zi_if_eq (tgt := 25) hx hb dJ5_init_d00df_7 (by decide) (by omega) (fun c7 => ?_) (fun c7 => ?_)
  · exact absurd c7 (by omega)
  · skip
    refine lv_aload_n hx hb dJ5_init_d00df_10 rfl (lv_at hl 0 rfl) ?_
    refine lv_iload_n hx hb dJ5_init_d00df_11 rfl (lv_at hl 1 rfl) ?_
    refine zi_newb (n := 16) (N' := 16) hx hb (hts (.arrayClass .byte) (by decide +kernel)) hK hP hD hS hA htb (by decide) (by decide) (by decide) (Nat.le_of_ble_eq_true rfl) (Nat.le_of_ble_eq_true rfl) dJ5_init_d00df_12 (fun n12 H hP hD hS => ?_)
    have hP : va_P D vwCl [(b0, .inr (0, [.null, .int (iI 0), .int (iI 0), .int (iI 0)])), (n12, .inl (cB, 16, .inl (zF (fun _ => 0))))] H := hP
    have hD : va_D _ [(b0, .inr (0, [.null, .int (iI 0), .int (iI 0), .int (iI 0)])), (n12, .inl (cB, 16, .inl (zF (fun _ => 0))))] := hD
    refine va_put (ci := 0) (v := .ref n12) (ty := .array .byte) (C := RJ4) (T := TJ4) (N := 4) hx hb hts iz_J5_init_d00df_J4 tyJ4 tyJ4_ok nmJ4 hown hK hP hD hS 0 rfl rfl 0 (by decide) (hts (.fieldLink RJ5 15 "java/lang/AbstractStringBuilder" "value" "[B") (by decide +kernel)) (fun _ h9 => h9) rfl (by decide +kernel) rfl rfl (Nat.le_of_ble_eq_true rfl) dJ5_init_d00df_14 (fun H locs hP hD hS => ?_)
    have hP : va_P D vwCl [(b0, .inr (0, [.ref n12, .int (iI 0), .int (iI 0), .int (iI 0)])), (n12, .inl (cB, 16, .inl (zF (fun _ => 0))))] H := hP
    have hD : va_D _ [(b0, .inr (0, [.ref n12, .int (iI 0), .int (iI 0), .int (iI 0)])), (n12, .inl (cB, 16, .inl (zF (fun _ => 0))))] := hD
    refine lv_aload_n hx hb dJ5_init_d00df_17 rfl (lv_at hl 0 rfl) ?_
    refine lv_iconst (v := iI 0) hx hb dJ5_init_d00df_18 rfl ?_
    refine va_put (ci := 0) (v := .int (iI 0)) (ty := .byte) (C := RJ4) (T := TJ4) (N := 4) hx hb hts iz_J5_init_d00df_J4 tyJ4 tyJ4_ok nmJ4 hown hK hP hD hS 0 rfl rfl 1 (by decide) (hts (.fieldLink RJ5 22 "java/lang/AbstractStringBuilder" "coder" "B") (by decide +kernel)) (fun _ h9 => h9) rfl (by decide +kernel) (by decide) (by decide) (Nat.le_of_ble_eq_true rfl) dJ5_init_d00df_19 (fun H locs hP hD hS => ?_)
    have hP : va_P D vwCl [(b0, .inr (0, [.ref n12, .int (iI 0), .int (iI 0), .int (iI 0)])), (n12, .inl (cB, 16, .inl (zF (fun _ => 0))))] H := hP
    have hD : va_D _ [(b0, .inr (0, [.ref n12, .int (iI 0), .int (iI 0), .int (iI 0)])), (n12, .inl (cB, 16, .inl (zF (fun _ => 0))))] := hD
    refine lv_goto (tgt := 38) hx hb dJ5_init_d00df_22 (by decide) ?_
    exact W.vret hx hb hr (fun t ht hW => ⟨⟨n12, rfl, trivial, ⟨by rw [ht]; exact hP, hD⟩⟩, hS.F ht⟩) hS.2.2 dJ5_init_d00df_38
set_option maxHeartbeats 4000000 in
set_option maxRecDepth 100000 in
/-- StringBuilder.<init> -/
theorem c_J4_init_da8c8 (l : Launch) (D : va_G) (sz : Nat) (tys : List (ClassId × FieldType)) (cA : ClassId) (hty : tys[0]? = some (cA, .int)) (t1 t2 : Nat) (cB : ClassId) (htb : tys[2]? = some (cB, .byte)) (b0 : Nat)  : Met l yJ4_init_da8c8 wsJ4_init_da8c8 ({ frames := 2, cells := 1, slots := 16, locals := 35 }) (zPs D [.ref b0] sz [(b0, .inr (0, [.null, .int (iI 0), .int (iI 0), .int (iI 0)]))] tys t1 t2) (zWv (fun (u : Nat) => True) D (fun (u : Nat) => [(b0, .inr (0, [.ref u, .int (iI 0), .int (iI 0), .int (iI 0)])), (u, .inl (cB, 16, .inl (zF (fun _ => 0))))]) [(b0, .inr (0, [.null, .int (iI 0), .int (iI 0), .int (iI 0)]))] sz) 1 16 (va_A [(b0, .inr (0, [.null, .int (iI 0), .int (iI 0), .int (iI 0)]))] sz) := by
  refine va_MetF (cc := cJ4_init_da8c8) (maxL := 1) (ret := none) (by decide +kernel) rfl ?_
  intro p e s m args below meth c s₁ B hml hv
  obtain ⟨rfl, hsz, hP, hK, hD0, hZ⟩ := hv
  have hx := B.exec
  have hb := B.bytes
  have hr := B.returns
  have hts := atoms_spec (ws := wsJ4_init_da8c8) B.pre
  have hown : s.vm.findClass RJ4 = some m.cls := findClass_of_methodNamed B.named
  have hlocks := B.notSynchronized
  have hin : meth.name = "<init>" := (name_of_methodNamed B.named B.method).1
  subst hsz
  have hD : va_D (va_A [(b0, .inr (0, [.null, .int (iI 0), .int (iI 0), .int (iI 0)]))] s.heap.size) [(b0, .inr (0, [.null, .int (iI 0), .int (iI 0), .int (iI 0)]))] := hD0.self
  have hS : va_S (va_A [(b0, .inr (0, [.null, .int (iI 0), .int (iI 0), .int (iI 0)]))] s.heap.size) s.heap s.heap [] := va_S.rf
  have hA : ∀ q9 : Nat, s.heap.size ≤ q9 → (va_A [(b0, .inr (0, [.null, .int (iI 0), .int (iI 0), .int (iI 0)]))] s.heap.size) q9 := fun q9 h => Or.inr h
  have hl := lv_entry ([.ref b0]) (n := 1) (Nat.le_of_ble_eq_true rfl)
  rw [lg_entry_eq]
  generalize (lg_sl ([.ref b0]) ++ List.replicate (1 - (lg_sl ([.ref b0])).length) Slot.unset).toArray = ls at hl ⊢
  have hl : lv_has ls 1 [(0, .ref b0)] := hl
  refine lv_aload_n hx hb dJ4_init_da8c8_0 rfl (lv_at hl 0 rfl) ?_
  refine lv_bipush (v := iI 16) hx hb dJ4_init_da8c8_1 (by decide +kernel) ?_
  refine zs_wv (wr := []) (va_runI (As := [.int (iI 16)]) (rest := []) ⟨hx, hb, hml, hown, hts⟩ (c_J5_init_d00df l D _ tys cA hty t1 t2 cB htb b0) (cwI 1 hts ggJ4_init_da8c8_J5_init_d00df rfl rfl rfl (hts (.initialized RJ5) (by decide +kernel)) (hts (.methodLink RJ4 1 yJ5_init_d00df) (by decide +kernel)) (hts (.instanceMethod yJ5_init_d00df) (by decide +kernel)) rfl (by decide +kernel) ⟨(Nat.le_of_ble_eq_true rfl), (Nat.le_of_ble_eq_true rfl)⟩) (zPs_S (zsub_P hP [0] rfl) hK (hD.sub [0] rfl rfl) (zSta_call hZ hS (fun _ h => h) hD hA [0] rfl)) rfl rfl hl.1 rfl (lv_room (Nat.le_of_ble_eq_true rfl)) dJ4_init_da8c8_3 ⟨(Nat.le_of_ble_eq_true rfl), (Nat.le_of_ble_eq_true rfl)⟩) hP hD hS hA [0] rfl [] [0, 1] rfl rfl (by decide) (fun _ => rfl) rfl (ws1 := fun (u9 : Nat) => [(b0, .inr (0, [.ref u9, .int (iI 0), .int (iI 0), .int (iI 0)])), (u9, .inl (cB, 16, .inl (zF (fun _ => 0))))]) (fun u3 H locs w3 hP hD hS => ?_)
  obtain ⟨n3_0, rfl⟩ : ∃ z, z = u3 := ⟨_, rfl⟩
  have hP : va_P D vwCl [(b0, .inr (0, [.ref n3_0, .int (iI 0), .int (iI 0), .int (iI 0)])), (n3_0, .inl (cB, 16, .inl (zF (fun _ => 0))))] H := hP
  have hD : va_D _ [(b0, .inr (0, [.ref n3_0, .int (iI 0), .int (iI 0), .int (iI 0)])), (n3_0, .inl (cB, 16, .inl (zF (fun _ => 0))))] := hD
  exact W.vret hx hb hr (fun t ht hW => ⟨⟨n3_0, rfl, trivial, ⟨by rw [ht]; exact hP, hD⟩⟩, hS.F ht⟩) hS.2.2 dJ4_init_da8c8_6
