set_option maxHeartbeats 4000000 in
set_option maxRecDepth 100000 in
/-- Integer.getChars, of 0 to 999 -/
theorem c_J6_getChars_ba4f3 (l : Launch) (D : va_G) (sz : Nat) (tys : List (ClassId × FieldType)) (cA : ClassId) (hty : tys[0]? = some (cA, .int)) (t1 t2 : Nat) (cB : ClassId) (htb : tys[2]? = some (cB, .byte)) (v ix : Int) (b1 : Nat) (T1 : Int → Int) (gv : 0 ≤ v ∧ v ≤ 999) (gx : zDg v ≤ ix ∧ ix ≤ 16) : Met l yJ6_getChars_ba4f3 wsJ6_getChars_ba4f3 ({ frames := 0, cells := 0, slots := 0, locals := 0 }) (zPs D [.int (iI v), .int (iI ix), .ref b1] sz [(b1, .inl (cB, 16, .inl (zF T1)))] tys t1 t2) (zWi (fun (u : Int → Int) => ix - zDg v) (fun (u : Int → Int) => ∀ j : Int, u j = (if ix - zDg v ≤ j ∧ j < ix then zDt v (j - (ix - zDg v)) else T1 j)) D (fun (u : Int → Int) => [(b1, .inl (cB, 16, .inl (zF u)))]) [(b1, .inl (cB, 16, .inl (zF T1)))] sz) 0 0 (va_A [(b1, .inl (cB, 16, .inl (zF T1)))] sz) := by
  refine va_MetF (cc := cJ6_getChars_ba4f3) (maxL := 7) (ret := (some .int)) (by decide +kernel) rfl ?_
  intro p e s m args below meth c s₁ B hml hv
  obtain ⟨rfl, hsz, hP, hK, hD0, hZ⟩ := hv
  have hx := B.exec
  have hb := B.bytes
  have hr := B.returns
  have hts := atoms_spec (ws := wsJ6_getChars_ba4f3) B.pre
  have hown : s.vm.findClass RJ6 = some m.cls := findClass_of_methodNamed B.named
  have hlocks := B.notSynchronized
  subst hsz
  have hD : va_D (va_A [(b1, .inl (cB, 16, .inl (zF T1)))] s.heap.size) [(b1, .inl (cB, 16, .inl (zF T1)))] := hD0.self
  have hS : va_S (va_A [(b1, .inl (cB, 16, .inl (zF T1)))] s.heap.size) s.heap s.heap [] := va_S.rf
  have hA : ∀ q9 : Nat, s.heap.size ≤ q9 → (va_A [(b1, .inl (cB, 16, .inl (zF T1)))] s.heap.size) q9 := fun q9 h => Or.inr h
  have hl := lv_entry ([.int (iI v), .int (iI ix), .ref b1]) (n := 7) (Nat.le_of_ble_eq_true rfl)
  rw [lg_entry_eq]
  generalize (lg_sl ([.int (iI v), .int (iI ix), .ref b1]) ++ List.replicate (7 - (lg_sl ([.int (iI v), .int (iI ix), .ref b1])).length) Slot.unset).toArray = ls at hl ⊢
  have hl : lv_has ls 7 [(0, .int (iI v)), (1, .int (iI ix)), (2, .ref b1)] := hl
  have zd : (v < 10 ∧ zDg v = 1) ∨ (10 ≤ v ∧ v < 100 ∧ zDg v = 2) ∨ (100 ≤ v ∧ zDg v = 3) := by unfold zDg; split <;> first | omega | (split <;> omega)
  refine lv_iload_n hx hb dJ6_getChars_ba4f3_0 rfl (lv_at hl 1 rfl) ?_
  refine lv_istore (lv' := [(5, .int (iI ix)), (0, .int (iI v)), (1, .int (iI ix)), (2, .ref b1)]) hx hb dJ6_getChars_ba4f3_1 hl (by decide) rfl (fun ls hl => ?_)
  refine lv_iload_n hx hb dJ6_getChars_ba4f3_3 rfl (lv_at hl 1 rfl) ?_
  refine zi_if_ge (tgt := 11) hx hb dJ6_getChars_ba4f3_4 (by decide) (by omega) (fun c4 => ?_) (fun c4 => ?_)
  · skip
    refine lv_iconst (v := iI 0) hx hb dJ6_getChars_ba4f3_11 rfl ?_
    refine lv_istore (lv' := [(6, .int (iI 0)), (5, .int (iI ix)), (0, .int (iI v)), (1, .int (iI ix)), (2, .ref b1)]) hx hb dJ6_getChars_ba4f3_12 hl (by decide) rfl (fun ls hl => ?_)
    refine lv_iload hx hb dJ6_getChars_ba4f3_14 (lv_at hl 0 rfl) ?_
    refine zi_if_ne (tgt := 22) hx hb dJ6_getChars_ba4f3_16 (by decide) (by omega) (fun c16 => ?_) (fun c16 => ?_)
    · exact absurd c16 (by omega)
    · skip
      refine lv_iload_n hx hb dJ6_getChars_ba4f3_19 rfl (lv_at hl 2 rfl) ?_
      refine zi_ineg hx hb dJ6_getChars_ba4f3_20 ?_
      refine lv_istore_n (lv' := [(0, .int (iI (-v))), (6, .int (iI 0)), (5, .int (iI ix)), (1, .int (iI ix)), (2, .ref b1)]) hx hb dJ6_getChars_ba4f3_21 rfl hl (by decide) rfl (fun ls hl => ?_)
      have L22 : ∀ (n : Nat) (i : Int) (cp : Int) (T2 : Int → Int), (0 - i < (n : Int)) → ((i = -v ∧ cp = ix) ∨ (100 ≤ v ∧ i = -(v / 100) ∧ cp = ix - 2)) → ((i = -v → T2 = T1) ∧ (¬ i = -v → T2 = zU (zU T1 (ix - 1) (48 + (v % 100) % 10)) (ix - 2) (48 + (v % 100) / 10))) → ∀ (H : Heap) (locs : List Loc) (ls : Array Slot), va_P D vwCl [(b1, .inl (cB, 16, .inl (zF T2)))] H → va_D (va_A [(b1, .inl (cB, 16, .inl (zF T1)))] s.heap.size) [(b1, .inl (cB, 16, .inl (zF T2)))] → va_S (va_A [(b1, .inl (cB, 16, .inl (zF T1)))] s.heap.size) s.heap H locs → lv_has ls 7 [(0, .int (iI i)), (1, .int (iI ix)), (2, .ref b1), (5, .int (iI cp)), (6, .int (iI 0))] → W p l e (headSpec wsJ6_getChars_ba4f3 ({ frames := 0, cells := 0, slots := 0, locals := 0 })).room s m ([.int (iI v), .int (iI ix), .ref b1] : List Value).toArray below meth c H locs 0 0 (MQ below (zWi (fun (u : Int → Int) => ix - zDg v) (fun (u : Int → Int) => ∀ j : Int, u j = (if ix - zDg v ≤ j ∧ j < ix then zDt v (j - (ix - zDg v)) else T1 j)) D (fun (u : Int → Int) => [(b1, .inl (cB, 16, .inl (zF u)))]) [(b1, .inl (cB, 16, .inl (zF T1)))] s.heap.size) ([.int (iI v), .int (iI ix), .ref b1] : List Value).toArray s 0 0 (va_A [(b1, .inl (cB, 16, .inl (zF T1)))] s.heap.size)) (F0 m 22 ls []) := by
        intro n
        induction n with
        | zero =>
          intro i cp T2 hn9 h1 h2 H locs ls hP hD hS hl
          exact absurd hn9 (by omega)
        | succ n ih22 =>
          intro i cp T2 hn9 h1 h2 H locs ls hP hD hS hl
          refine lv_iload_n hx hb dJ6_getChars_ba4f3_22 rfl (lv_at hl 0 rfl) ?_
          refine lv_bipush (v := iI (-100)) hx hb dJ6_getChars_ba4f3_23 (by decide +kernel) ?_
          refine zi_icmp_gt (tgt := 72) hx hb dJ6_getChars_ba4f3_25 (by decide) (by omega) (by omega) (fun c25 => ?_) (fun c25 => ?_)
          · skip
            refine lv_aload_n hx hb dJ6_getChars_ba4f3_72 rfl (lv_at hl 2 rfl) ?_
            refine lv_iinc (v := iI (cp + (-1))) (lv' := [(5, .int (iI (cp + (-1)))), (0, .int (iI i)), (1, .int (iI ix)), (2, .ref b1), (6, .int (iI 0))]) hx hb dJ6_getChars_ba4f3_73 hl (k := 3) rfl (iI_add cp (-1)) (by decide) rfl (fun ls hl => ?_)
            refine lv_iload hx hb dJ6_getChars_ba4f3_76 (lv_at hl 0 rfl) ?_
            refine va_gets (C := "java/lang/Integer") (n := "DigitOnes") (d := "[B") (v := .ref t1) hx hb hZ.2.1 hS hown (hts (.fieldLink RJ6 83 "java/lang/Integer" "DigitOnes" "[B") (by decide +kernel)) (fun _ h9 => h9) dJ6_getChars_ba4f3_78 ?_
            refine lv_iload_n hx hb dJ6_getChars_ba4f3_81 rfl (lv_at hl 1 rfl) ?_
            refine zi_ineg hx hb dJ6_getChars_ba4f3_82 ?_
            refine zi_tb (g := fun j => 48 + j % 10) hx hb hZ.2.2.2.1 hS (by decide) (by omega) dJ6_getChars_ba4f3_83 ?_
            refine zi_bast hx hb hK hP hD hS 0 2 rfl htb (by decide) (by omega) (by omega) dJ6_getChars_ba4f3_84 (fun H locs hP hD hS => ?_)
            have hP : va_P D vwCl [(b1, .inl (cB, 16, .inl (zF (zU T2 (cp + (-1)) (48 + (-i) % 10)))))] H := hP
            have hD : va_D _ [(b1, .inl (cB, 16, .inl (zF (zU T2 (cp + (-1)) (48 + (-i) % 10)))))] := hD
            refine lv_iload_n hx hb dJ6_getChars_ba4f3_85 rfl (lv_at hl 1 rfl) ?_
            refine lv_bipush (v := iI (-9)) hx hb dJ6_getChars_ba4f3_86 (by decide +kernel) ?_
            refine zi_icmp_ge (tgt := 104) hx hb dJ6_getChars_ba4f3_88 (by decide) (by omega) (by omega) (fun c88 => ?_) (fun c88 => ?_)
            · skip
              refine lv_iload hx hb dJ6_getChars_ba4f3_104 (lv_at hl 4 rfl) ?_
              refine zi_if_eq (tgt := 118) hx hb dJ6_getChars_ba4f3_106 (by decide) (by omega) (fun c106 => ?_) (fun c106 => ?_)
              · skip
                refine lv_iload hx hb dJ6_getChars_ba4f3_118 (lv_at hl 0 rfl) ?_
                exact W.iret (v := iI (cp + (-1))) hx hb hr (fun t ht hW => ⟨⟨iI (cp + (-1)), zU T2 (cp + (-1)) (48 + (-i) % 10), rfl, ⟨congrArg iI (by dsimp only; omega), (by first | exact zGch1 gv h1 h2 (by omega) | exact zGch2 gv h1 h2 (by omega) (by omega) | fail)⟩, ⟨by rw [ht]; exact hP, hD⟩⟩, hS.F ht⟩) hS.2.2 dJ6_getChars_ba4f3_120
              · exact absurd c106 (by omega)
            · skip
              refine lv_aload_n hx hb dJ6_getChars_ba4f3_91 rfl (lv_at hl 3 rfl) ?_
              refine lv_iinc (v := iI (cp + (-1) + (-1))) (lv' := [(5, .int (iI (cp + (-1) + (-1)))), (0, .int (iI i)), (1, .int (iI ix)), (2, .ref b1), (6, .int (iI 0))]) hx hb dJ6_getChars_ba4f3_92 hl (k := 0) rfl (iI_add (cp + (-1)) (-1)) (by decide) rfl (fun ls hl => ?_)
              refine lv_iload hx hb dJ6_getChars_ba4f3_95 (lv_at hl 0 rfl) ?_
              refine va_gets (C := "java/lang/Integer") (n := "DigitTens") (d := "[B") (v := .ref t2) hx hb hZ.2.2.1 hS hown (hts (.fieldLink RJ6 87 "java/lang/Integer" "DigitTens" "[B") (by decide +kernel)) (fun _ h9 => h9) dJ6_getChars_ba4f3_97 ?_
              refine lv_iload_n hx hb dJ6_getChars_ba4f3_100 rfl (lv_at hl 1 rfl) ?_
              refine zi_ineg hx hb dJ6_getChars_ba4f3_101 ?_
              refine zi_tb (g := fun j => 48 + j / 10) hx hb hZ.2.2.2.2.1 hS (by decide) (by omega) dJ6_getChars_ba4f3_102 ?_
              refine zi_bast hx hb hK hP hD hS 0 2 rfl htb (by decide) (by omega) (by omega) dJ6_getChars_ba4f3_103 (fun H locs hP hD hS => ?_)
              have hP : va_P D vwCl [(b1, .inl (cB, 16, .inl (zF (zU (zU T2 (cp + (-1)) (48 + (-i) % 10)) (cp + (-1) + (-1)) (48 + (-i) / 10)))))] H := hP
              have hD : va_D _ [(b1, .inl (cB, 16, .inl (zF (zU (zU T2 (cp + (-1)) (48 + (-i) % 10)) (cp + (-1) + (-1)) (48 + (-i) / 10)))))] := hD
              refine lv_iload hx hb dJ6_getChars_ba4f3_104 (lv_at hl 4 rfl) ?_
              refine zi_if_eq (tgt := 118) hx hb dJ6_getChars_ba4f3_106 (by decide) (by omega) (fun c106 => ?_) (fun c106 => ?_)
              · skip
                refine lv_iload hx hb dJ6_getChars_ba4f3_118 (lv_at hl 0 rfl) ?_
                exact W.iret (v := iI (cp + (-1) + (-1))) hx hb hr (fun t ht hW => ⟨⟨iI (cp + (-1) + (-1)), zU (zU T2 (cp + (-1)) (48 + (-i) % 10)) (cp + (-1) + (-1)) (48 + (-i) / 10), rfl, ⟨congrArg iI (by dsimp only; omega), (by first | exact zGch1 gv h1 h2 (by omega) | exact zGch2 gv h1 h2 (by omega) (by omega) | fail)⟩, ⟨by rw [ht]; exact hP, hD⟩⟩, hS.F ht⟩) hS.2.2 dJ6_getChars_ba4f3_120
              · exact absurd c106 (by omega)
          · skip
            refine lv_iload_n hx hb dJ6_getChars_ba4f3_28 rfl (lv_at hl 0 rfl) ?_
            refine lv_bipush (v := iI 100) hx hb dJ6_getChars_ba4f3_29 (by decide +kernel) ?_
            have e0 : i = -v := by omega
            have z1 : i.tdiv 100 = -(v / 100) := by rw [e0, Int.neg_tdiv, Int.tdiv_eq_ediv_of_nonneg (by omega)]
            refine zi_idiv hx hb dJ6_getChars_ba4f3_31 (by omega) (by omega) (by omega) (by omega) ?_
            refine lv_istore_n (lv' := [(3, .int (iI (i.tdiv 100))), (0, .int (iI i)), (1, .int (iI ix)), (2, .ref b1), (5, .int (iI cp)), (6, .int (iI 0))]) hx hb dJ6_getChars_ba4f3_32 rfl hl (by decide) rfl (fun ls hl => ?_)
            refine lv_iload_n hx hb dJ6_getChars_ba4f3_33 rfl (lv_at hl 0 rfl) ?_
            refine lv_bipush (v := iI 100) hx hb dJ6_getChars_ba4f3_34 (by decide +kernel) ?_
            refine zi_imul hx hb dJ6_getChars_ba4f3_36 ?_
            refine lv_iload_n hx hb dJ6_getChars_ba4f3_37 rfl (lv_at hl 1 rfl) ?_
            refine zi_isub hx hb dJ6_getChars_ba4f3_38 ?_
            refine lv_istore (lv' := [(4, .int (iI (((i.tdiv 100) * 100) - i))), (3, .int (iI (i.tdiv 100))), (0, .int (iI i)), (1, .int (iI ix)), (2, .ref b1), (5, .int (iI cp)), (6, .int (iI 0))]) hx hb dJ6_getChars_ba4f3_39 hl (by decide) rfl (fun ls hl => ?_)
            refine lv_iload_n hx hb dJ6_getChars_ba4f3_41 rfl (lv_at hl 1 rfl) ?_
            refine lv_istore_n (lv' := [(0, .int (iI (i.tdiv 100))), (4, .int (iI (((i.tdiv 100) * 100) - i))), (3, .int (iI (i.tdiv 100))), (1, .int (iI ix)), (2, .ref b1), (5, .int (iI cp)), (6, .int (iI 0))]) hx hb dJ6_getChars_ba4f3_42 rfl hl (by decide) rfl (fun ls hl => ?_)
            refine lv_aload_n hx hb dJ6_getChars_ba4f3_43 rfl (lv_at hl 4 rfl) ?_
            refine lv_iinc (v := iI (cp + (-1))) (lv' := [(5, .int (iI (cp + (-1)))), (0, .int (iI (i.tdiv 100))), (4, .int (iI (((i.tdiv 100) * 100) - i))), (3, .int (iI (i.tdiv 100))), (1, .int (iI ix)), (2, .ref b1), (6, .int (iI 0))]) hx hb dJ6_getChars_ba4f3_44 hl (k := 5) rfl (iI_add cp (-1)) (by decide) rfl (fun ls hl => ?_)
            refine lv_iload hx hb dJ6_getChars_ba4f3_47 (lv_at hl 0 rfl) ?_
            refine va_gets (C := "java/lang/Integer") (n := "DigitOnes") (d := "[B") (v := .ref t1) hx hb hZ.2.1 hS hown (hts (.fieldLink RJ6 83 "java/lang/Integer" "DigitOnes" "[B") (by decide +kernel)) (fun _ h9 => h9) dJ6_getChars_ba4f3_49 ?_
            refine lv_iload hx hb dJ6_getChars_ba4f3_52 (lv_at hl 2 rfl) ?_
            refine zi_tb (g := fun j => 48 + j % 10) hx hb hZ.2.2.2.1 hS (by decide) (by omega) dJ6_getChars_ba4f3_54 ?_
            refine zi_bast hx hb hK hP hD hS 0 2 rfl htb (by decide) (by omega) (by omega) dJ6_getChars_ba4f3_55 (fun H locs hP hD hS => ?_)
            have hP : va_P D vwCl [(b1, .inl (cB, 16, .inl (zF (zU T2 (cp + (-1)) (48 + (((i.tdiv 100) * 100) - i) % 10)))))] H := hP
            have hD : va_D _ [(b1, .inl (cB, 16, .inl (zF (zU T2 (cp + (-1)) (48 + (((i.tdiv 100) * 100) - i) % 10)))))] := hD
            refine lv_aload_n hx hb dJ6_getChars_ba4f3_56 rfl (lv_at hl 5 rfl) ?_
            refine lv_iinc (v := iI (cp + (-1) + (-1))) (lv' := [(5, .int (iI (cp + (-1) + (-1)))), (0, .int (iI (i.tdiv 100))), (4, .int (iI (((i.tdiv 100) * 100) - i))), (3, .int (iI (i.tdiv 100))), (1, .int (iI ix)), (2, .ref b1), (6, .int (iI 0))]) hx hb dJ6_getChars_ba4f3_57 hl (k := 0) rfl (iI_add (cp + (-1)) (-1)) (by decide) rfl (fun ls hl => ?_)
            refine lv_iload hx hb dJ6_getChars_ba4f3_60 (lv_at hl 0 rfl) ?_
            refine va_gets (C := "java/lang/Integer") (n := "DigitTens") (d := "[B") (v := .ref t2) hx hb hZ.2.2.1 hS hown (hts (.fieldLink RJ6 87 "java/lang/Integer" "DigitTens" "[B") (by decide +kernel)) (fun _ h9 => h9) dJ6_getChars_ba4f3_62 ?_
            refine lv_iload hx hb dJ6_getChars_ba4f3_65 (lv_at hl 2 rfl) ?_
            refine zi_tb (g := fun j => 48 + j / 10) hx hb hZ.2.2.2.2.1 hS (by decide) (by omega) dJ6_getChars_ba4f3_67 ?_
            refine zi_bast hx hb hK hP hD hS 0 2 rfl htb (by decide) (by omega) (by omega) dJ6_getChars_ba4f3_68 (fun H locs hP hD hS => ?_)
            have hP : va_P D vwCl [(b1, .inl (cB, 16, .inl (zF (zU (zU T2 (cp + (-1)) (48 + (((i.tdiv 100) * 100) - i) % 10)) (cp + (-1) + (-1)) (48 + (((i.tdiv 100) * 100) - i) / 10)))))] H := hP
            have hD : va_D _ [(b1, .inl (cB, 16, .inl (zF (zU (zU T2 (cp + (-1)) (48 + (((i.tdiv 100) * 100) - i) % 10)) (cp + (-1) + (-1)) (48 + (((i.tdiv 100) * 100) - i) / 10)))))] := hD
            refine lv_goto (tgt := 22) hx hb dJ6_getChars_ba4f3_69 (by decide) ?_
            exact ih22 (i.tdiv 100) (cp + (-1) + (-1)) (zU (zU T2 (cp + (-1)) (48 + (((i.tdiv 100) * 100) - i) % 10)) (cp + (-1) + (-1)) (48 + (((i.tdiv 100) * 100) - i) / 10)) (by omega) (by omega) (⟨fun z => absurd z (by omega), fun _ => by rw [h2.1 e0, show cp + (-1) + (-1) = ix - 2 by omega, show cp + (-1) = ix - 1 by omega, show i.tdiv 100 * 100 - i = v % 100 by omega]⟩) _ _ _ hP hD hS (lv_sub hl [1, 4, 5, 0, 6] rfl)
      exact L22 (((0 - (-v) : Int)).toNat + 1) (-v) ix T1 (by omega) (by omega) (⟨fun _ => rfl, fun z => absurd rfl z⟩) _ _ _ hP hD hS (lv_sub hl [0, 3, 4, 2, 1] rfl)
  · exact absurd c4 (by omega)
