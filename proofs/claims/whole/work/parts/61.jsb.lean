set_option maxHeartbeats 4000000 in
set_option maxRecDepth 100000 in
/-- Integer.stringSize, of 0 to 999 -/
theorem c_J6_stringSize_0f7a4 (l : Launch) (D : va_G) (sz : Nat) (tys : List (ClassId × FieldType)) (cA : ClassId) (hty : tys[0]? = some (cA, .int)) (v : Int) (gv : 0 ≤ v ∧ v ≤ 999) : Met l yJ6_stringSize_0f7a4 wsJ6_stringSize_0f7a4 ({ frames := 0, cells := 0, slots := 0, locals := 0 }) (zP D [.int (iI v)] sz [] tys) (zRi (zDg v) sz) 0 0 (zN sz) := by
  refine va_MetF (cc := cJ6_stringSize_0f7a4) (maxL := 4) (ret := (some .int)) (by decide +kernel) rfl ?_
  intro p e s m args below meth c s₁ B hml hv
  obtain ⟨rfl, hsz, hP, hK, hD0⟩ := hv
  have hx := B.exec
  have hb := B.bytes
  have hr := B.returns
  have hts := atoms_spec (ws := wsJ6_stringSize_0f7a4) B.pre
  have hown : s.vm.findClass RJ6 = some m.cls := findClass_of_methodNamed B.named
  have hlocks := B.notSynchronized
  subst hsz
  have hD := hD0
  have hS : va_S (zN s.heap.size) s.heap s.heap [] := va_S.rf
  have hA : ∀ q9 : Nat, s.heap.size ≤ q9 → (zN s.heap.size) q9 := fun q9 h => h
  have hl := lv_entry ([.int (iI v)]) (n := 4) (Nat.le_of_ble_eq_true rfl)
  rw [lg_entry_eq]
  generalize (lg_sl ([.int (iI v)]) ++ List.replicate (4 - (lg_sl ([.int (iI v)])).length) Slot.unset).toArray = ls at hl ⊢
  have hl : lv_has ls 4 [(0, .int (iI v))] := hl
  refine lv_iconst (v := iI 1) hx hb dJ6_stringSize_0f7a4_0 rfl ?_
  refine lv_istore_n (lv' := [(1, .int (iI 1)), (0, .int (iI v))]) hx hb dJ6_stringSize_0f7a4_1 rfl hl (by decide) rfl (fun ls hl => ?_)
  refine lv_iload_n hx hb dJ6_stringSize_0f7a4_2 rfl (lv_at hl 1 rfl) ?_
  refine zi_if_lt (tgt := 11) hx hb dJ6_stringSize_0f7a4_3 (by decide) (by omega) (fun c3 => ?_) (fun c3 => ?_)
  · exact absurd c3 (by omega)
  · skip
    refine lv_iconst (v := iI 0) hx hb dJ6_stringSize_0f7a4_6 rfl ?_
    refine lv_istore_n (lv' := [(1, .int (iI 0)), (0, .int (iI v))]) hx hb dJ6_stringSize_0f7a4_7 rfl hl (by decide) rfl (fun ls hl => ?_)
    refine lv_iload_n hx hb dJ6_stringSize_0f7a4_8 rfl (lv_at hl 1 rfl) ?_
    refine zi_ineg hx hb dJ6_stringSize_0f7a4_9 ?_
    refine lv_istore_n (lv' := [(0, .int (iI (-v))), (1, .int (iI 0))]) hx hb dJ6_stringSize_0f7a4_10 rfl hl (by decide) rfl (fun ls hl => ?_)
    refine lv_bipush (v := iI (-10)) hx hb dJ6_stringSize_0f7a4_11 (by decide +kernel) ?_
    refine lv_istore_n (lv' := [(2, .int (iI (-10))), (0, .int (iI (-v))), (1, .int (iI 0))]) hx hb dJ6_stringSize_0f7a4_13 rfl hl (by decide) rfl (fun ls hl => ?_)
    refine lv_iconst (v := iI 1) hx hb dJ6_stringSize_0f7a4_14 rfl ?_
    refine lv_istore_n (lv' := [(3, .int (iI 1)), (2, .int (iI (-10))), (0, .int (iI (-v))), (1, .int (iI 0))]) hx hb dJ6_stringSize_0f7a4_15 rfl hl (by decide) rfl (fun ls hl => ?_)
    have L16 : ∀ (n : Nat) (i : Int) (p1 : Int), (10 - i < (n : Int)) → ((i = 1 ∧ p1 = -10) ∨ (i = 2 ∧ p1 = -100 ∧ 10 ≤ v) ∨ (i = 3 ∧ p1 = -1000 ∧ 100 ≤ v)) → ∀ (H : Heap) (locs : List Loc) (ls : Array Slot), va_P D vwCl [] H → va_S (zN s.heap.size) s.heap H locs → lv_has ls 4 [(0, .int (iI (-v))), (1, .int (iI 0)), (2, .int (iI p1)), (3, .int (iI i))] → W p l e (headSpec wsJ6_stringSize_0f7a4 ({ frames := 0, cells := 0, slots := 0, locals := 0 })).room s m ([.int (iI v)] : List Value).toArray below meth c H locs 0 0 (MQ below (zRi (zDg v) s.heap.size) ([.int (iI v)] : List Value).toArray s 0 0 (zN s.heap.size)) (F0 m 16 ls []) := by
      intro n
      induction n with
      | zero =>
        intro i p1 hn9 h1 H locs ls hP hS hl
        exact absurd hn9 (by omega)
      | succ n ih16 =>
        intro i p1 hn9 h1 H locs ls hP hS hl
        refine lv_iload_n hx hb dJ6_stringSize_0f7a4_16 rfl (lv_at hl 3 rfl) ?_
        refine lv_bipush (v := iI 10) hx hb dJ6_stringSize_0f7a4_17 (by decide +kernel) ?_
        refine zi_icmp_ge (tgt := 42) hx hb dJ6_stringSize_0f7a4_19 (by decide) (by omega) (by omega) (fun c19 => ?_) (fun c19 => ?_)
        · skip
          refine lv_bipush (v := iI 10) hx hb dJ6_stringSize_0f7a4_42 (by decide +kernel) ?_
          refine lv_iload_n hx hb dJ6_stringSize_0f7a4_44 rfl (lv_at hl 1 rfl) ?_
          refine zi_iadd hx hb dJ6_stringSize_0f7a4_45 ?_
          exact W.iret (v := iI (10 + 0)) hx hb hr (fun t ht hW => ⟨⟨iI (10 + 0), (), rfl, congrArg iI (show 10 + 0 = zDg v from by exfalso; omega), trivial⟩, hS.F ht⟩) hS.2.2 dJ6_stringSize_0f7a4_46
        · skip
          refine lv_iload_n hx hb dJ6_stringSize_0f7a4_22 rfl (lv_at hl 0 rfl) ?_
          refine lv_iload_n hx hb dJ6_stringSize_0f7a4_23 rfl (lv_at hl 2 rfl) ?_
          refine zi_icmp_le (tgt := 31) hx hb dJ6_stringSize_0f7a4_24 (by decide) (by omega) (by omega) (fun c24 => ?_) (fun c24 => ?_)
          · skip
            refine lv_bipush (v := iI 10) hx hb dJ6_stringSize_0f7a4_31 (by decide +kernel) ?_
            refine lv_iload_n hx hb dJ6_stringSize_0f7a4_33 rfl (lv_at hl 2 rfl) ?_
            refine zi_imul hx hb dJ6_stringSize_0f7a4_34 ?_
            refine lv_istore_n (lv' := [(2, .int (iI (10 * p1))), (0, .int (iI (-v))), (1, .int (iI 0)), (3, .int (iI i))]) hx hb dJ6_stringSize_0f7a4_35 rfl hl (by decide) rfl (fun ls hl => ?_)
            refine lv_iinc (v := iI (i + 1)) (lv' := [(3, .int (iI (i + 1))), (2, .int (iI (10 * p1))), (0, .int (iI (-v))), (1, .int (iI 0))]) hx hb dJ6_stringSize_0f7a4_36 hl (k := 3) rfl (iI_add i 1) (by decide) rfl (fun ls hl => ?_)
            refine lv_goto (tgt := 16) hx hb dJ6_stringSize_0f7a4_39 (by decide) ?_
            exact ih16 (i + 1) (10 * p1) (by omega) (by omega) _ _ _ hP hS (lv_sub hl [2, 3, 1, 0] rfl)
          · skip
            refine lv_iload_n hx hb dJ6_stringSize_0f7a4_27 rfl (lv_at hl 3 rfl) ?_
            refine lv_iload_n hx hb dJ6_stringSize_0f7a4_28 rfl (lv_at hl 1 rfl) ?_
            refine zi_iadd hx hb dJ6_stringSize_0f7a4_29 ?_
            exact W.iret (v := iI (i + 0)) hx hb hr (fun t ht hW => ⟨⟨iI (i + 0), (), rfl, congrArg iI (show i + 0 = zDg v from by unfold zDg; split <;> first | omega | (split <;> omega) | fail), trivial⟩, hS.F ht⟩) hS.2.2 dJ6_stringSize_0f7a4_30
    exact L16 (((10 - 1 : Int)).toNat + 1) 1 (-10) (by omega) (by omega) _ _ _ hP hS (lv_sub hl [2, 3, 1, 0] rfl)
set_option maxHeartbeats 4000000 in
set_option maxRecDepth 100000 in
/-- StringLatin1.canEncode -/
theorem c_J1_canEncode_fc78d (l : Launch) (D : va_G) (sz : Nat) (tys : List (ClassId × FieldType)) (cA : ClassId) (hty : tys[0]? = some (cA, .int)) (v : Int) (gv : 0 ≤ v ∧ v ≤ 255) : Met l yJ1_canEncode_fc78d wsJ1_canEncode_fc78d ({ frames := 0, cells := 0, slots := 0, locals := 0 }) (zP D [.int (iI v)] sz [] tys) (zRi 1 sz) 0 0 (zN sz) := by
  refine va_MetF (cc := cJ1_canEncode_fc78d) (maxL := 1) (ret := (some .boolean)) (by decide +kernel) rfl ?_
  intro p e s m args below meth c s₁ B hml hv
  obtain ⟨rfl, hsz, hP, hK, hD0⟩ := hv
  have hx := B.exec
  have hb := B.bytes
  have hr := B.returns
  have hts := atoms_spec (ws := wsJ1_canEncode_fc78d) B.pre
  have hown : s.vm.findClass RJ1 = some m.cls := findClass_of_methodNamed B.named
  have hlocks := B.notSynchronized
  subst hsz
  have hD := hD0
  have hS : va_S (zN s.heap.size) s.heap s.heap [] := va_S.rf
  have hA : ∀ q9 : Nat, s.heap.size ≤ q9 → (zN s.heap.size) q9 := fun q9 h => h
  have hl := lv_entry ([.int (iI v)]) (n := 1) (Nat.le_of_ble_eq_true rfl)
  rw [lg_entry_eq]
  generalize (lg_sl ([.int (iI v)]) ++ List.replicate (1 - (lg_sl ([.int (iI v)])).length) Slot.unset).toArray = ls at hl ⊢
  have hl : lv_has ls 1 [(0, .int (iI v))] := hl
  refine lv_iload_n hx hb dJ1_canEncode_fc78d_0 rfl (lv_at hl 0 rfl) ?_
  refine lv_sipush (v := iI 255) hx hb dJ1_canEncode_fc78d_1 (by decide +kernel) ?_
  refine zi_icmp_gt (tgt := 11) hx hb dJ1_canEncode_fc78d_4 (by decide) (by omega) (by omega) (fun c4 => ?_) (fun c4 => ?_)
  · exact absurd c4 (by omega)
  · skip
    refine lv_iconst (v := iI 1) hx hb dJ1_canEncode_fc78d_7 rfl ?_
    refine lv_goto (tgt := 12) hx hb dJ1_canEncode_fc78d_8 (by decide) ?_
    exact W.zret (v := iI 1) (ty := .boolean) hx hb hr (by decide) (fun t ht hW => ⟨⟨iI 1, (), rfl, congrArg iI (show 1 = 1 from by rfl), trivial⟩, hS.F ht⟩) hS.2.2 dJ1_canEncode_fc78d_12
