set_option maxHeartbeats 4000000 in
set_option maxRecDepth 100000 in
/-- Math.floorDiv, of a divisor above 0 -/
theorem c_J9_floorDiv_7cf53 (l : Launch) (D : va_G) (sz : Nat) (tys : List (ClassId × FieldType)) (cA : ClassId) (hty : tys[0]? = some (cA, .int)) (x y : Int) (gx : -1000000 ≤ x ∧ x ≤ 1000000) (gy : 0 < y ∧ y ≤ 1000000) : Met l yJ9_floorDiv_7cf53 wsJ9_floorDiv_7cf53 ({ frames := 0, cells := 0, slots := 0, locals := 0 }) (zP D [.int (iI x), .int (iI y)] sz [] tys) (zRi (x / y) sz) 0 0 (zN sz) := by
  refine va_MetF (cc := cJ9_floorDiv_7cf53) (maxL := 3) (ret := (some .int)) (by decide +kernel) rfl ?_
  intro p e s m args below meth c s₁ B hml hv
  obtain ⟨rfl, hsz, hP, hK, hD0⟩ := hv
  have hx := B.exec
  have hb := B.bytes
  have hr := B.returns
  have hts := atoms_spec (ws := wsJ9_floorDiv_7cf53) B.pre
  have hown : s.vm.findClass RJ9 = some m.cls := findClass_of_methodNamed B.named
  have hlocks := B.notSynchronized
  subst hsz
  have hD := hD0
  have hS : va_S (zN s.heap.size) s.heap s.heap [] := va_S.rf
  have hA : ∀ q9 : Nat, s.heap.size ≤ q9 → (zN s.heap.size) q9 := fun q9 h => h
  have hl := lv_entry ([.int (iI x), .int (iI y)]) (n := 3) (Nat.le_of_ble_eq_true rfl)
  rw [lg_entry_eq]
  generalize (lg_sl ([.int (iI x), .int (iI y)]) ++ List.replicate (3 - (lg_sl ([.int (iI x), .int (iI y)])).length) Slot.unset).toArray = ls at hl ⊢
  have hl : lv_has ls 3 [(0, .int (iI x)), (1, .int (iI y))] := hl
  refine lv_iload_n hx hb dJ9_floorDiv_7cf53_0 rfl (lv_at hl 0 rfl) ?_
  refine lv_iload_n hx hb dJ9_floorDiv_7cf53_1 rfl (lv_at hl 1 rfl) ?_
  refine zi_idiv hx hb dJ9_floorDiv_7cf53_2 (by omega) (by omega) (by omega) (by omega) ?_
  refine lv_istore_n (lv' := [(2, .int (iI (x.tdiv y))), (0, .int (iI x)), (1, .int (iI y))]) hx hb dJ9_floorDiv_7cf53_3 rfl hl (by decide) rfl (fun ls hl => ?_)
  refine lv_iload_n hx hb dJ9_floorDiv_7cf53_4 rfl (lv_at hl 1 rfl) ?_
  refine lv_iload_n hx hb dJ9_floorDiv_7cf53_5 rfl (lv_at hl 2 rfl) ?_
  refine zi_xor_ge (tgt := 21) hx hb dJ9_floorDiv_7cf53_6 dJ9_floorDiv_7cf53_7 (by decide) (by omega) (by omega) (fun c6 => ?_) (fun c6 => ?_)
  · skip
    refine lv_iload_n hx hb dJ9_floorDiv_7cf53_21 rfl (lv_at hl 0 rfl) ?_
    exact W.iret (v := iI (x.tdiv y)) hx hb hr (fun t ht hW => ⟨⟨iI (x.tdiv y), (), rfl, congrArg iI (show x.tdiv y = x / y from by first | exact Int.tdiv_eq_ediv_of_nonneg c6 | exact zfd_2 gy.1 c14), trivial⟩, hS.F ht⟩) hS.2.2 dJ9_floorDiv_7cf53_22
  · skip
    have z1 := zfd_r gy.1 (show x < 0 by omega)
    refine lv_iload_n hx hb dJ9_floorDiv_7cf53_10 rfl (lv_at hl 0 rfl) ?_
    refine lv_iload_n hx hb dJ9_floorDiv_7cf53_11 rfl (lv_at hl 2 rfl) ?_
    refine zi_imul hx hb dJ9_floorDiv_7cf53_12 ?_
    refine lv_iload_n hx hb dJ9_floorDiv_7cf53_13 rfl (lv_at hl 1 rfl) ?_
    refine zi_icmp_eq (tgt := 21) hx hb dJ9_floorDiv_7cf53_14 (by decide) (by omega) (by omega) (fun c14 => ?_) (fun c14 => ?_)
    · skip
      refine lv_iload_n hx hb dJ9_floorDiv_7cf53_21 rfl (lv_at hl 0 rfl) ?_
      exact W.iret (v := iI (x.tdiv y)) hx hb hr (fun t ht hW => ⟨⟨iI (x.tdiv y), (), rfl, congrArg iI (show x.tdiv y = x / y from by first | exact Int.tdiv_eq_ediv_of_nonneg c6 | exact zfd_2 gy.1 c14), trivial⟩, hS.F ht⟩) hS.2.2 dJ9_floorDiv_7cf53_22
    · skip
      refine lv_iload_n hx hb dJ9_floorDiv_7cf53_17 rfl (lv_at hl 0 rfl) ?_
      refine lv_iconst (v := iI 1) hx hb dJ9_floorDiv_7cf53_18 rfl ?_
      refine zi_isub hx hb dJ9_floorDiv_7cf53_19 ?_
      exact W.iret (v := iI ((x.tdiv y) - 1)) hx hb hr (fun t ht hW => ⟨⟨iI ((x.tdiv y) - 1), (), rfl, congrArg iI (show (x.tdiv y) - 1 = x / y from by exact zfd_3 gy.1 (by omega) (fun z => c14 z)), trivial⟩, hS.F ht⟩) hS.2.2 dJ9_floorDiv_7cf53_20
theorem iz_X1_ownerAt_X1 : ∀ w ∈ u_ws RX1 TX1 3, w ∈ wsX1_ownerAt := by decide +kernel
theorem iz_X1_ownerAt_X4 : ∀ w ∈ u_ws RX4 TX4 5, w ∈ wsX1_ownerAt := by decide +kernel
set_option maxHeartbeats 4000000 in
set_option maxRecDepth 100000 in
/-- Cells.ownerAt -/
theorem c_X1_ownerAt (l : Launch) (D : va_G) (sz : Nat) (tys : List (ClassId × FieldType)) (cA : ClassId) (hty : tys[0]? = some (cA, .int)) (a : Nat → Nat) (N : Int) (Xs Ys Wt Cp : Int → Int) (cf cl : Int) (x y : Int) (gB : zBd Xs Ys Wt) (gN : 0 ≤ N ∧ N ≤ 12) (gx : 0 ≤ x ∧ x ≤ 40) (gy : 0 ≤ y ∧ y ≤ 40) : Met l yX1_ownerAt wsX1_ownerAt ({ frames := 2, cells := 0, slots := 0, locals := 46 }) (zP D [.ref (a 10), .int (iI x), .int (iI y)] sz [(a 10, .inr (2, [.ref (a 1), .int (iI cf), .int (iI cl)])), (a 1, .inr (5, [.ref (a 2), .ref (a 4), .ref (a 6), .ref (a 8), .int (iI N)])), (a 2, .inr (6, [.ref (a 3)])), (a 3, .inl (cA, 12, .inl (zF Xs))), (a 4, .inr (6, [.ref (a 5)])), (a 5, .inl (cA, 12, .inl (zF Ys))), (a 6, .inr (6, [.ref (a 7)])), (a 7, .inl (cA, 12, .inl (zF Wt))), (a 8, .inr (6, [.ref (a 9)])), (a 9, .inl (cA, 12, .inl (zF Cp)))] tys) (zRi (zOA Xs Ys Wt x y N) sz) 0 0 (zN sz) := by
  refine Met.ofW (cc := cX1_ownerAt) (maxL := 7) (ret := (some .int)) (by decide +kernel) rfl ?_
  intro p e s m args below meth c s₁ B hml hv
  obtain ⟨rfl, hsz, hP, hK, hD0⟩ := hv
  have hx := B.exec
  have hb := B.bytes
  have hr := B.returns
  have hts := atoms_spec (ws := wsX1_ownerAt) B.pre
  have hown : s.vm.findClass RX1 = some m.cls := findClass_of_methodNamed B.named
  have hlocks := B.notSynchronized
  subst hsz
  have hD := hD0
  have hS : va_S (zN s.heap.size) s.heap s.heap [] := va_S.rf
  have hA : ∀ q9 : Nat, s.heap.size ≤ q9 → (zN s.heap.size) q9 := fun q9 h => h
  have hl := lv_entry ([.ref (a 10), .int (iI x), .int (iI y)]) (n := 7) (Nat.le_of_ble_eq_true rfl)
  rw [lg_entry_eq]
  generalize (lg_sl ([.ref (a 10), .int (iI x), .int (iI y)]) ++ List.replicate (7 - (lg_sl ([.ref (a 10), .int (iI x), .int (iI y)])).length) Slot.unset).toArray = ls at hl ⊢
  have hl : lv_has ls 7 [(0, .ref (a 10)), (1, .int (iI x)), (2, .int (iI y))] := hl
  refine lv_iconst (v := iI (-1)) hx hb dX1_ownerAt_0 rfl ?_
  refine lv_istore_n (lv' := [(3, .int (iI (-1))), (0, .ref (a 10)), (1, .int (iI x)), (2, .int (iI y))]) hx hb dX1_ownerAt_1 rfl hl (by decide) rfl (fun ls hl => ?_)
  refine lv_iconst (v := iI 0) hx hb dX1_ownerAt_2 rfl ?_
  refine lv_istore (lv' := [(4, .int (iI 0)), (3, .int (iI (-1))), (0, .ref (a 10)), (1, .int (iI x)), (2, .int (iI y))]) hx hb dX1_ownerAt_3 hl (by decide) rfl (fun ls hl => ?_)
  refine lv_iconst (v := iI 0) hx hb dX1_ownerAt_5 rfl ?_
  refine lv_istore (lv' := [(5, .int (iI 0)), (4, .int (iI 0)), (3, .int (iI (-1))), (0, .ref (a 10)), (1, .int (iI x)), (2, .int (iI y))]) hx hb dX1_ownerAt_6 hl (by decide) rfl (fun ls hl => ?_)
  have L8 : ∀ (n : Nat) (i : Int) (own : Int) (least : Int), (N - i < (n : Int)) → (0 ≤ i ∧ i ≤ N) → (own = zOA Xs Ys Wt x y i) → (own ≠ -1 → least = zPw Xs Ys Wt own x y) → (-999 ≤ least ∧ least ≤ 4199) → ∀ (H : Heap) (locs : List Loc) (ls : Array Slot), va_P D vwCl [(a 10, .inr (2, [.ref (a 1), .int (iI cf), .int (iI cl)])), (a 1, .inr (5, [.ref (a 2), .ref (a 4), .ref (a 6), .ref (a 8), .int (iI N)])), (a 2, .inr (6, [.ref (a 3)])), (a 3, .inl (cA, 12, .inl (zF Xs))), (a 4, .inr (6, [.ref (a 5)])), (a 5, .inl (cA, 12, .inl (zF Ys))), (a 6, .inr (6, [.ref (a 7)])), (a 7, .inl (cA, 12, .inl (zF Wt))), (a 8, .inr (6, [.ref (a 9)])), (a 9, .inl (cA, 12, .inl (zF Cp)))] H → va_S (zN s.heap.size) s.heap H locs → lv_has ls 7 [(0, .ref (a 10)), (1, .int (iI x)), (2, .int (iI y)), (3, .int (iI own)), (4, .int (iI least)), (5, .int (iI i))] → W p l e (headSpec wsX1_ownerAt ({ frames := 2, cells := 0, slots := 0, locals := 46 })).room s m ([.ref (a 10), .int (iI x), .int (iI y)] : List Value).toArray below meth c H locs 0 0 (MQ below (zRi (zOA Xs Ys Wt x y N) s.heap.size) ([.ref (a 10), .int (iI x), .int (iI y)] : List Value).toArray s 0 0 (zN s.heap.size)) (F0 m 8 ls []) := by
    intro n
    induction n with
    | zero =>
      intro i own least hn9 h1 h2 h3 h4 H locs ls hP hS hl
      exact absurd hn9 (by omega)
    | succ n ih8 =>
      intro i own least hn9 h1 h2 h3 h4 H locs ls hP hS hl
      have h5 := zOA_rg Xs Ys Wt x y h1.1
      rw [← h2] at h5
      have h6 := zPw_rg gB i gx gy
      refine lv_iload hx hb dX1_ownerAt_8 (lv_at hl 5 rfl) ?_
      refine lv_aload_n hx hb dX1_ownerAt_10 rfl (lv_at hl 0 rfl) ?_
      refine va_get (ci := 2) (v := .ref (a 1)) (C := RX1) (T := TX1) (N := 3) hx hb hts iz_X1_ownerAt_X1 hown hK hP 0 rfl rfl 0 (by decide) (hts (.fieldLink RX1 9 "PowerPlot$Cells" "places" "LPowerPlot$Places;") (by decide +kernel)) (fun _ h9 => h9) rfl dX1_ownerAt_11 ?_
      refine va_get (ci := 5) (v := .int (iI N)) (C := RX4) (T := TX4) (N := 5) hx hb hts iz_X1_ownerAt_X4 hown hK hP 1 rfl rfl 4 (by decide) (hts (.fieldLink RX1 15 "PowerPlot$Places" "count" "I") (by decide +kernel)) (fun _ h9 => h9) rfl dX1_ownerAt_14 ?_
      refine zi_icmp_ge (tgt := 58) hx hb dX1_ownerAt_17 (by decide) (by omega) (by omega) (fun c17 => ?_) (fun c17 => ?_)
      · skip
        refine lv_iload_n hx hb dX1_ownerAt_58 rfl (lv_at hl 3 rfl) ?_
        exact W.iret (v := iI own) hx hb hr (fun t ht hW => ⟨⟨iI own, (), rfl, congrArg iI (show own = zOA Xs Ys Wt x y N from by rw [h2, show i = N by omega]), trivial⟩, hS.F ht⟩) hS.2.2 dX1_ownerAt_59
      · skip
        refine lv_aload_n hx hb dX1_ownerAt_20 rfl (lv_at hl 0 rfl) ?_
        refine va_get (ci := 2) (v := .ref (a 1)) (C := RX1) (T := TX1) (N := 3) hx hb hts iz_X1_ownerAt_X1 hown hK hP 0 rfl rfl 0 (by decide) (hts (.fieldLink RX1 9 "PowerPlot$Cells" "places" "LPowerPlot$Places;") (by decide +kernel)) (fun _ h9 => h9) rfl dX1_ownerAt_21 ?_
        refine lv_iload hx hb dX1_ownerAt_24 (lv_at hl 5 rfl) ?_
        refine lv_iload_n hx hb dX1_ownerAt_26 rfl (lv_at hl 1 rfl) ?_
        refine lv_iload_n hx hb dX1_ownerAt_27 rfl (lv_at hl 2 rfl) ?_
        refine zc_ri (As := [.int (iI i), .int (iI x), .int (iI y)]) (rest := []) ⟨hx, hb, hml, hown, hts⟩ (c_X4_powerAt l D _ tys cA hty a N Xs Ys Wt Cp i x y (by omega)) (cwV 3 hts gX1_ownerAt_X4_powerAt rfl rfl rfl (by decide +kernel) ⟨(Nat.le_of_ble_eq_true rfl), (Nat.le_of_ble_eq_true rfl)⟩) hP hK hD hS hA [1, 2, 3, 4, 5, 6, 7, 8, 9] rfl rfl rfl rfl rfl hl.1 rfl (Nat.le_of_ble_eq_true rfl) dX1_ownerAt_28 ⟨Nat.zero_le _, Nat.zero_le _⟩ (fun H locs hP hS => ?_)
        refine lv_istore (lv' := [(6, .int (iI (zPw Xs Ys Wt i x y))), (0, .ref (a 10)), (1, .int (iI x)), (2, .int (iI y)), (3, .int (iI own)), (4, .int (iI least)), (5, .int (iI i))]) hx hb dX1_ownerAt_31 hl (by decide) rfl (fun ls hl => ?_)
        refine lv_iload_n hx hb dX1_ownerAt_33 rfl (lv_at hl 4 rfl) ?_
        refine lv_iconst (v := iI (-1)) hx hb dX1_ownerAt_34 rfl ?_
        refine zi_icmp_eq (tgt := 45) hx hb dX1_ownerAt_35 (by decide) (by omega) (by omega) (fun c35 => ?_) (fun c35 => ?_)
        · skip
          refine lv_iload hx hb dX1_ownerAt_45 (lv_at hl 6 rfl) ?_
          refine lv_istore_n (lv' := [(3, .int (iI i)), (6, .int (iI (zPw Xs Ys Wt i x y))), (0, .ref (a 10)), (1, .int (iI x)), (2, .int (iI y)), (4, .int (iI least)), (5, .int (iI i))]) hx hb dX1_ownerAt_47 rfl hl (by decide) rfl (fun ls hl => ?_)
          refine lv_iload hx hb dX1_ownerAt_48 (lv_at hl 1 rfl) ?_
          refine lv_istore (lv' := [(4, .int (iI (zPw Xs Ys Wt i x y))), (3, .int (iI i)), (6, .int (iI (zPw Xs Ys Wt i x y))), (0, .ref (a 10)), (1, .int (iI x)), (2, .int (iI y)), (5, .int (iI i))]) hx hb dX1_ownerAt_50 hl (by decide) rfl (fun ls hl => ?_)
          refine lv_iinc (v := iI (i + 1)) (lv' := [(5, .int (iI (i + 1))), (4, .int (iI (zPw Xs Ys Wt i x y))), (3, .int (iI i)), (6, .int (iI (zPw Xs Ys Wt i x y))), (0, .ref (a 10)), (1, .int (iI x)), (2, .int (iI y))]) hx hb dX1_ownerAt_52 hl (k := 6) rfl (iI_add i 1) (by decide) rfl (fun ls hl => ?_)
          refine lv_goto (tgt := 8) hx hb dX1_ownerAt_55 (by decide) ?_
          exact ih8 (i + 1) i (zPw Xs Ys Wt i x y) (by omega) (by omega) (by rw [zOA_s Xs Ys Wt x y h1.1, ← h2]; split <;> omega) (by first | exact fun _ => rfl | exact h3) (by omega) _ _ _ hP hS (lv_sub hl [4, 5, 6, 2, 1, 0] rfl)
        · skip
          refine lv_iload hx hb dX1_ownerAt_38 (lv_at hl 0 rfl) ?_
          refine lv_iload hx hb dX1_ownerAt_40 (lv_at hl 5 rfl) ?_
          refine zi_icmp_ge (tgt := 52) hx hb dX1_ownerAt_42 (by decide) (by omega) (by omega) (fun c42 => ?_) (fun c42 => ?_)
          · skip
            refine lv_iinc (v := iI (i + 1)) (lv' := [(5, .int (iI (i + 1))), (6, .int (iI (zPw Xs Ys Wt i x y))), (0, .ref (a 10)), (1, .int (iI x)), (2, .int (iI y)), (3, .int (iI own)), (4, .int (iI least))]) hx hb dX1_ownerAt_52 hl (k := 6) rfl (iI_add i 1) (by decide) rfl (fun ls hl => ?_)
            refine lv_goto (tgt := 8) hx hb dX1_ownerAt_55 (by decide) ?_
            exact ih8 (i + 1) own least (by omega) (by omega) (by rw [zOA_s Xs Ys Wt x y h1.1, ← h2]; split <;> omega) (by first | exact fun _ => rfl | exact h3) (by omega) _ _ _ hP hS (lv_sub hl [2, 3, 4, 5, 6, 0] rfl)
          · skip
            refine lv_iload hx hb dX1_ownerAt_45 (lv_at hl 6 rfl) ?_
            refine lv_istore_n (lv' := [(3, .int (iI i)), (6, .int (iI (zPw Xs Ys Wt i x y))), (0, .ref (a 10)), (1, .int (iI x)), (2, .int (iI y)), (4, .int (iI least)), (5, .int (iI i))]) hx hb dX1_ownerAt_47 rfl hl (by decide) rfl (fun ls hl => ?_)
            refine lv_iload hx hb dX1_ownerAt_48 (lv_at hl 1 rfl) ?_
            refine lv_istore (lv' := [(4, .int (iI (zPw Xs Ys Wt i x y))), (3, .int (iI i)), (6, .int (iI (zPw Xs Ys Wt i x y))), (0, .ref (a 10)), (1, .int (iI x)), (2, .int (iI y)), (5, .int (iI i))]) hx hb dX1_ownerAt_50 hl (by decide) rfl (fun ls hl => ?_)
            refine lv_iinc (v := iI (i + 1)) (lv' := [(5, .int (iI (i + 1))), (4, .int (iI (zPw Xs Ys Wt i x y))), (3, .int (iI i)), (6, .int (iI (zPw Xs Ys Wt i x y))), (0, .ref (a 10)), (1, .int (iI x)), (2, .int (iI y))]) hx hb dX1_ownerAt_52 hl (k := 6) rfl (iI_add i 1) (by decide) rfl (fun ls hl => ?_)
            refine lv_goto (tgt := 8) hx hb dX1_ownerAt_55 (by decide) ?_
            exact ih8 (i + 1) i (zPw Xs Ys Wt i x y) (by omega) (by omega) (by rw [zOA_s Xs Ys Wt x y h1.1, ← h2]; split <;> omega) (by first | exact fun _ => rfl | exact h3) (by omega) _ _ _ hP hS (lv_sub hl [4, 5, 6, 2, 1, 0] rfl)
  exact L8 (((N - 0 : Int)).toNat + 1) 0 (-1) 0 (by omega) (by omega) ((zOA_0 Xs Ys Wt x y).symm) (fun z => absurd rfl z) (by omega) _ _ _ hP hS (lv_sub hl [3, 4, 5, 2, 1, 0] rfl)
set_option maxHeartbeats 4000000 in
set_option maxRecDepth 100000 in
/-- Cells.countByPoints -/
theorem c_X1_countByPoints (l : Launch) (D : va_G) (sz : Nat) (tys : List (ClassId × FieldType)) (cA : ClassId) (hty : tys[0]? = some (cA, .int)) (a : Nat → Nat) (N : Int) (Xs Ys Wt Cp : Int → Int) (cf cl : Int) (k : Int) (gB : zBd Xs Ys Wt) (gN : 0 ≤ N ∧ N ≤ 12) (gk : 0 ≤ k ∧ k < N) : Met l yX1_countByPoints wsX1_countByPoints ({ frames := 3, cells := 0, slots := 0, locals := 72 }) (zP D [.ref (a 10), .int (iI k)] sz [(a 10, .inr (2, [.ref (a 1), .int (iI cf), .int (iI cl)])), (a 1, .inr (5, [.ref (a 2), .ref (a 4), .ref (a 6), .ref (a 8), .int (iI N)])), (a 2, .inr (6, [.ref (a 3)])), (a 3, .inl (cA, 12, .inl (zF Xs))), (a 4, .inr (6, [.ref (a 5)])), (a 5, .inl (cA, 12, .inl (zF Ys))), (a 6, .inr (6, [.ref (a 7)])), (a 7, .inl (cA, 12, .inl (zF Wt))), (a 8, .inr (6, [.ref (a 9)])), (a 9, .inl (cA, 12, .inl (zF Cp)))] tys) (zRi (zSh Xs Ys Wt N k) sz) 0 0 (zN sz) := by
  refine Met.ofW (cc := cX1_countByPoints) (maxL := 5) (ret := (some .int)) (by decide +kernel) rfl ?_
  intro p e s m args below meth c s₁ B hml hv
  obtain ⟨rfl, hsz, hP, hK, hD0⟩ := hv
  have hx := B.exec
  have hb := B.bytes
  have hr := B.returns
  have hts := atoms_spec (ws := wsX1_countByPoints) B.pre
  have hown : s.vm.findClass RX1 = some m.cls := findClass_of_methodNamed B.named
  have hlocks := B.notSynchronized
  subst hsz
  have hD := hD0
  have hS : va_S (zN s.heap.size) s.heap s.heap [] := va_S.rf
  have hA : ∀ q9 : Nat, s.heap.size ≤ q9 → (zN s.heap.size) q9 := fun q9 h => h
  have hl := lv_entry ([.ref (a 10), .int (iI k)]) (n := 5) (Nat.le_of_ble_eq_true rfl)
  rw [lg_entry_eq]
  generalize (lg_sl ([.ref (a 10), .int (iI k)]) ++ List.replicate (5 - (lg_sl ([.ref (a 10), .int (iI k)])).length) Slot.unset).toArray = ls at hl ⊢
  have hl : lv_has ls 5 [(0, .ref (a 10)), (1, .int (iI k))] := hl
  refine lv_iconst (v := iI 0) hx hb dX1_countByPoints_0 rfl ?_
  refine lv_istore_n (lv' := [(2, .int (iI 0)), (0, .ref (a 10)), (1, .int (iI k))]) hx hb dX1_countByPoints_1 rfl hl (by decide) rfl (fun ls hl => ?_)
  refine lv_iconst (v := iI 0) hx hb dX1_countByPoints_2 rfl ?_
  refine lv_istore_n (lv' := [(3, .int (iI 0)), (2, .int (iI 0)), (0, .ref (a 10)), (1, .int (iI k))]) hx hb dX1_countByPoints_3 rfl hl (by decide) rfl (fun ls hl => ?_)
  have L4 : ∀ (n : Nat) (i : Int) (pts : Int), (41 - i < (n : Int)) → (0 ≤ i ∧ i ≤ 41) → (pts = zSm (fun y => zRw Xs Ys Wt N k y) i) → (0 ≤ pts ∧ pts ≤ 41 * i) → ∀ (H : Heap) (locs : List Loc) (ls : Array Slot), va_P D vwCl [(a 10, .inr (2, [.ref (a 1), .int (iI cf), .int (iI cl)])), (a 1, .inr (5, [.ref (a 2), .ref (a 4), .ref (a 6), .ref (a 8), .int (iI N)])), (a 2, .inr (6, [.ref (a 3)])), (a 3, .inl (cA, 12, .inl (zF Xs))), (a 4, .inr (6, [.ref (a 5)])), (a 5, .inl (cA, 12, .inl (zF Ys))), (a 6, .inr (6, [.ref (a 7)])), (a 7, .inl (cA, 12, .inl (zF Wt))), (a 8, .inr (6, [.ref (a 9)])), (a 9, .inl (cA, 12, .inl (zF Cp)))] H → va_S (zN s.heap.size) s.heap H locs → lv_has ls 5 [(0, .ref (a 10)), (1, .int (iI k)), (2, .int (iI pts)), (3, .int (iI i))] → W p l e (headSpec wsX1_countByPoints ({ frames := 3, cells := 0, slots := 0, locals := 72 })).room s m ([.ref (a 10), .int (iI k)] : List Value).toArray below meth c H locs 0 0 (MQ below (zRi (zSh Xs Ys Wt N k) s.heap.size) ([.ref (a 10), .int (iI k)] : List Value).toArray s 0 0 (zN s.heap.size)) (F0 m 4 ls []) := by
    intro n
    induction n with
    | zero =>
      intro i pts hn9 h1 h2 h3 H locs ls hP hS hl
      exact absurd hn9 (by omega)
    | succ n ih4 =>
      intro i pts hn9 h1 h2 h3 H locs ls hP hS hl
      refine lv_iload_n hx hb dX1_countByPoints_4 rfl (lv_at hl 3 rfl) ?_
      refine lv_bipush (v := iI 40) hx hb dX1_countByPoints_5 (by decide +kernel) ?_
      refine zi_icmp_gt (tgt := 46) hx hb dX1_countByPoints_7 (by decide) (by omega) (by omega) (fun c7 => ?_) (fun c7 => ?_)
      · skip
        refine lv_iload_n hx hb dX1_countByPoints_46 rfl (lv_at hl 2 rfl) ?_
        exact W.iret (v := iI pts) hx hb hr (fun t ht hW => ⟨⟨iI pts, (), rfl, congrArg iI (show pts = zSh Xs Ys Wt N k from by rw [h2, show i = 41 by omega]; rfl), trivial⟩, hS.F ht⟩) hS.2.2 dX1_countByPoints_47
      · skip
        refine lv_iconst (v := iI 0) hx hb dX1_countByPoints_10 rfl ?_
        refine lv_istore (lv' := [(4, .int (iI 0)), (0, .ref (a 10)), (1, .int (iI k)), (2, .int (iI pts)), (3, .int (iI i))]) hx hb dX1_countByPoints_11 hl (by decide) rfl (fun ls hl => ?_)
        have L13 : ∀ (n : Nat) (j : Int) (pt2 : Int), (41 - j < (n : Int)) → (0 ≤ j ∧ j ≤ 41) → (pt2 = pts + zSm (fun x => bI (zOA Xs Ys Wt x i N = k)) j) → (0 ≤ pt2 ∧ pt2 ≤ 41 * i + j) → ∀ (H : Heap) (locs : List Loc) (ls : Array Slot), va_P D vwCl [(a 10, .inr (2, [.ref (a 1), .int (iI cf), .int (iI cl)])), (a 1, .inr (5, [.ref (a 2), .ref (a 4), .ref (a 6), .ref (a 8), .int (iI N)])), (a 2, .inr (6, [.ref (a 3)])), (a 3, .inl (cA, 12, .inl (zF Xs))), (a 4, .inr (6, [.ref (a 5)])), (a 5, .inl (cA, 12, .inl (zF Ys))), (a 6, .inr (6, [.ref (a 7)])), (a 7, .inl (cA, 12, .inl (zF Wt))), (a 8, .inr (6, [.ref (a 9)])), (a 9, .inl (cA, 12, .inl (zF Cp)))] H → va_S (zN s.heap.size) s.heap H locs → lv_has ls 5 [(0, .ref (a 10)), (1, .int (iI k)), (2, .int (iI pt2)), (3, .int (iI i)), (4, .int (iI j))] → W p l e (headSpec wsX1_countByPoints ({ frames := 3, cells := 0, slots := 0, locals := 72 })).room s m ([.ref (a 10), .int (iI k)] : List Value).toArray below meth c H locs 0 0 (MQ below (zRi (zSh Xs Ys Wt N k) s.heap.size) ([.ref (a 10), .int (iI k)] : List Value).toArray s 0 0 (zN s.heap.size)) (F0 m 13 ls []) := by
          intro n
          induction n with
          | zero =>
            intro j pt2 hn9 q1 q2 q3 H locs ls hP hS hl
            exact absurd hn9 (by omega)
          | succ n ih13 =>
            intro j pt2 hn9 q1 q2 q3 H locs ls hP hS hl
            have q4 := zOA_rg Xs Ys Wt j i gN.1
            refine lv_iload hx hb dX1_countByPoints_13 (lv_at hl 4 rfl) ?_
            refine lv_bipush (v := iI 40) hx hb dX1_countByPoints_15 (by decide +kernel) ?_
            refine zi_icmp_gt (tgt := 40) hx hb dX1_countByPoints_17 (by decide) (by omega) (by omega) (fun c17 => ?_) (fun c17 => ?_)
            · skip
              refine lv_iinc (v := iI (i + 1)) (lv' := [(3, .int (iI (i + 1))), (0, .ref (a 10)), (1, .int (iI k)), (2, .int (iI pt2)), (4, .int (iI j))]) hx hb dX1_countByPoints_40 hl (k := 3) rfl (iI_add i 1) (by decide) rfl (fun ls hl => ?_)
              refine lv_goto (tgt := 4) hx hb dX1_countByPoints_43 (by decide) ?_
              exact ih4 (i + 1) pt2 (by omega) (by omega) (by rw [zSm_s _ h1.1, q2, h2, show j = 41 by omega]; rfl) (by omega) _ _ _ hP hS (lv_sub hl [1, 2, 3, 0] rfl)
            · skip
              refine lv_aload_n hx hb dX1_countByPoints_20 rfl (lv_at hl 0 rfl) ?_
              refine lv_iload hx hb dX1_countByPoints_21 (lv_at hl 4 rfl) ?_
              refine lv_iload_n hx hb dX1_countByPoints_23 rfl (lv_at hl 3 rfl) ?_
              refine zc_ri (As := [.int (iI j), .int (iI i)]) (rest := []) ⟨hx, hb, hml, hown, hts⟩ (c_X1_ownerAt l D _ tys cA hty a N Xs Ys Wt Cp cf cl j i gB gN (by omega) (by omega)) (cwV 2 hts gX1_countByPoints_X1_ownerAt rfl rfl rfl (by decide +kernel) ⟨(Nat.le_of_ble_eq_true rfl), (Nat.le_of_ble_eq_true rfl)⟩) hP hK hD hS hA [0, 1, 2, 3, 4, 5, 6, 7, 8, 9] rfl rfl rfl rfl rfl hl.1 rfl (Nat.le_of_ble_eq_true rfl) dX1_countByPoints_24 ⟨Nat.zero_le _, Nat.zero_le _⟩ (fun H locs hP hS => ?_)
              refine lv_iload_n hx hb dX1_countByPoints_27 rfl (lv_at hl 1 rfl) ?_
              refine zi_icmp_ne (tgt := 34) hx hb dX1_countByPoints_28 (by decide) (by omega) (by omega) (fun c28 => ?_) (fun c28 => ?_)
              · skip
                refine lv_iinc (v := iI (j + 1)) (lv' := [(4, .int (iI (j + 1))), (0, .ref (a 10)), (1, .int (iI k)), (2, .int (iI pt2)), (3, .int (iI i))]) hx hb dX1_countByPoints_34 hl (k := 4) rfl (iI_add j 1) (by decide) rfl (fun ls hl => ?_)
                refine lv_goto (tgt := 13) hx hb dX1_countByPoints_37 (by decide) ?_
                exact ih13 (j + 1) pt2 (by omega) (by omega) (by rw [zSm_s _ q1.1]; first | (rw [bI_t c28]; omega) | (rw [bI_f c28]; omega)) (by omega) _ _ _ hP hS (lv_sub hl [1, 2, 3, 4, 0] rfl)
              · skip
                refine lv_iinc (v := iI (pt2 + 1)) (lv' := [(2, .int (iI (pt2 + 1))), (0, .ref (a 10)), (1, .int (iI k)), (3, .int (iI i)), (4, .int (iI j))]) hx hb dX1_countByPoints_31 hl (k := 2) rfl (iI_add pt2 1) (by decide) rfl (fun ls hl => ?_)
                refine lv_iinc (v := iI (j + 1)) (lv' := [(4, .int (iI (j + 1))), (2, .int (iI (pt2 + 1))), (0, .ref (a 10)), (1, .int (iI k)), (3, .int (iI i))]) hx hb dX1_countByPoints_34 hl (k := 4) rfl (iI_add j 1) (by decide) rfl (fun ls hl => ?_)
                refine lv_goto (tgt := 13) hx hb dX1_countByPoints_37 (by decide) ?_
                exact ih13 (j + 1) (pt2 + 1) (by omega) (by omega) (by rw [zSm_s _ q1.1]; first | (rw [bI_t c28]; omega) | (rw [bI_f c28]; omega)) (by omega) _ _ _ hP hS (lv_sub hl [2, 3, 1, 4, 0] rfl)
        exact L13 (((41 - 0 : Int)).toNat + 1) 0 pts (by omega) (by omega) (by rw [zSm_0]; omega) (by omega) _ _ _ hP hS (lv_sub hl [1, 2, 3, 4, 0] rfl)
  exact L4 (((41 - 0 : Int)).toNat + 1) 0 0 (by omega) (by omega) rfl (by omega) _ _ _ hP hS (lv_sub hl [2, 3, 1, 0] rfl)
theorem iz_X1_width_X1 : ∀ w ∈ u_ws RX1 TX1 3, w ∈ wsX1_width := by decide +kernel
set_option maxHeartbeats 4000000 in
set_option maxRecDepth 100000 in
/-- Cells.width -/
theorem c_X1_width (l : Launch) (D : va_G) (sz : Nat) (tys : List (ClassId × FieldType)) (cA : ClassId) (hty : tys[0]? = some (cA, .int)) (a : Nat → Nat) (N : Int) (Xs Ys Wt Cp : Int → Int) (cf cl : Int) (g1 : -9000 ≤ cf ∧ cf ≤ 9000) (g2 : -9000 ≤ cl ∧ cl ≤ 9000) : Met l yX1_width wsX1_width ({ frames := 1, cells := 0, slots := 0, locals := 22 }) (zP D [.ref (a 10)] sz [(a 10, .inr (2, [.ref (a 1), .int (iI cf), .int (iI cl)])), (a 1, .inr (5, [.ref (a 2), .ref (a 4), .ref (a 6), .ref (a 8), .int (iI N)])), (a 2, .inr (6, [.ref (a 3)])), (a 3, .inl (cA, 12, .inl (zF Xs))), (a 4, .inr (6, [.ref (a 5)])), (a 5, .inl (cA, 12, .inl (zF Ys))), (a 6, .inr (6, [.ref (a 7)])), (a 7, .inl (cA, 12, .inl (zF Wt))), (a 8, .inr (6, [.ref (a 9)])), (a 9, .inl (cA, 12, .inl (zF Cp)))] tys) (zRi (max 0 (cl - cf + 1)) sz) 0 0 (zN sz) := by
  refine Met.ofW (cc := cX1_width) (maxL := 1) (ret := (some .int)) (by decide +kernel) rfl ?_
  intro p e s m args below meth c s₁ B hml hv
  obtain ⟨rfl, hsz, hP, hK, hD0⟩ := hv
  have hx := B.exec
  have hb := B.bytes
  have hr := B.returns
  have hts := atoms_spec (ws := wsX1_width) B.pre
  have hown : s.vm.findClass RX1 = some m.cls := findClass_of_methodNamed B.named
  have hlocks := B.notSynchronized
  subst hsz
  have hD := hD0
  have hS : va_S (zN s.heap.size) s.heap s.heap [] := va_S.rf
  have hA : ∀ q9 : Nat, s.heap.size ≤ q9 → (zN s.heap.size) q9 := fun q9 h => h
  have hl := lv_entry ([.ref (a 10)]) (n := 1) (Nat.le_of_ble_eq_true rfl)
  rw [lg_entry_eq]
  generalize (lg_sl ([.ref (a 10)]) ++ List.replicate (1 - (lg_sl ([.ref (a 10)])).length) Slot.unset).toArray = ls at hl ⊢
  have hl : lv_has ls 1 [(0, .ref (a 10))] := hl
  refine lv_iconst (v := iI 0) hx hb dX1_width_0 rfl ?_
  refine lv_aload_n hx hb dX1_width_1 rfl (lv_at hl 0 rfl) ?_
  refine va_get (ci := 2) (v := .int (iI cl)) (C := RX1) (T := TX1) (N := 3) hx hb hts iz_X1_width_X1 hown hK hP 0 rfl rfl 2 (by decide) (hts (.fieldLink RX1 40 "PowerPlot$Cells" "last" "I") (by decide +kernel)) (fun _ h9 => h9) rfl dX1_width_2 ?_
  refine lv_aload_n hx hb dX1_width_5 rfl (lv_at hl 0 rfl) ?_
  refine va_get (ci := 2) (v := .int (iI cf)) (C := RX1) (T := TX1) (N := 3) hx hb hts iz_X1_width_X1 hown hK hP 0 rfl rfl 1 (by decide) (hts (.fieldLink RX1 37 "PowerPlot$Cells" "first" "I") (by decide +kernel)) (fun _ h9 => h9) rfl dX1_width_6 ?_
  refine zi_isub hx hb dX1_width_9 ?_
  refine lv_iconst (v := iI 1) hx hb dX1_width_10 rfl ?_
  refine zi_iadd hx hb dX1_width_11 ?_
  refine zi_max hx hb (hml.trans hl.1.symm) hown (hts (.methodLink RX1 61 Lib.Math.max.name) (by decide +kernel)) (hts (.static Lib.Math.max.name) (by decide +kernel)) (hts (.initialized "java/lang/Math") (by decide +kernel)) (hts (.code Lib.Math.max.name Lib.Math.max.code 2 (some .int)) (by decide +kernel)) (Nat.le_of_ble_eq_true rfl) (Nat.le_of_ble_eq_true rfl) (Nat.zero_le _) (Nat.zero_le _) dX1_width_12 (by omega) (by omega) ?_
  exact W.iret (v := iI (max 0 ((cl - cf) + 1))) hx hb hr (fun t ht hW => ⟨⟨iI (max 0 ((cl - cf) + 1)), (), rfl, congrArg iI (show max 0 ((cl - cf) + 1) = max 0 (cl - cf + 1) from by rfl), trivial⟩, hS.F ht⟩) hS.2.2 dX1_width_15
theorem iz_X1_findSpan_X1 : ∀ w ∈ u_ws RX1 TX1 3, w ∈ wsX1_findSpan := by decide +kernel
theorem iz_X1_findSpan_X4 : ∀ w ∈ u_ws RX4 TX4 5, w ∈ wsX1_findSpan := by decide +kernel
set_option maxHeartbeats 4000000 in
set_option maxRecDepth 100000 in
/-- Cells.findSpan: first and last become the span -/
theorem c_X1_findSpan (l : Launch) (D : va_G) (sz : Nat) (tys : List (ClassId × FieldType)) (cA : ClassId) (hty : tys[0]? = some (cA, .int)) (a : Nat → Nat) (N : Int) (Xs Ys Wt Cp : Int → Int) (cf cl : Int) (k y : Int) (gB : zBd Xs Ys Wt) (gN : 0 ≤ N ∧ N ≤ 12) (gk : 0 ≤ k ∧ k < N) (gy : 0 ≤ y ∧ y ≤ 40) : Met l yX1_findSpan wsX1_findSpan ({ frames := 2, cells := 0, slots := 0, locals := 46 }) (zP D [.ref (a 10), .int (iI k), .int (iI y)] sz [(a 10, .inr (2, [.ref (a 1), .int (iI cf), .int (iI cl)])), (a 1, .inr (5, [.ref (a 2), .ref (a 4), .ref (a 6), .ref (a 8), .int (iI N)])), (a 2, .inr (6, [.ref (a 3)])), (a 3, .inl (cA, 12, .inl (zF Xs))), (a 4, .inr (6, [.ref (a 5)])), (a 5, .inl (cA, 12, .inl (zF Ys))), (a 6, .inr (6, [.ref (a 7)])), (a 7, .inl (cA, 12, .inl (zF Wt))), (a 8, .inr (6, [.ref (a 9)])), (a 9, .inl (cA, 12, .inl (zF Cp)))] tys) (zWv (fun (u : Int × Int) => zSpan Xs Ys Wt k y N u.1 u.2) D (fun (u : Int × Int) => [(a 10, .inr (2, [.ref (a 1), .int (iI u.1), .int (iI u.2)])), (a 1, .inr (5, [.ref (a 2), .ref (a 4), .ref (a 6), .ref (a 8), .int (iI N)])), (a 2, .inr (6, [.ref (a 3)])), (a 3, .inl (cA, 12, .inl (zF Xs))), (a 4, .inr (6, [.ref (a 5)])), (a 5, .inl (cA, 12, .inl (zF Ys))), (a 6, .inr (6, [.ref (a 7)])), (a 7, .inl (cA, 12, .inl (zF Wt))), (a 8, .inr (6, [.ref (a 9)])), (a 9, .inl (cA, 12, .inl (zF Cp)))]) [(a 10, .inr (2, [.ref (a 1), .int (iI cf), .int (iI cl)])), (a 1, .inr (5, [.ref (a 2), .ref (a 4), .ref (a 6), .ref (a 8), .int (iI N)])), (a 2, .inr (6, [.ref (a 3)])), (a 3, .inl (cA, 12, .inl (zF Xs))), (a 4, .inr (6, [.ref (a 5)])), (a 5, .inl (cA, 12, .inl (zF Ys))), (a 6, .inr (6, [.ref (a 7)])), (a 7, .inl (cA, 12, .inl (zF Wt))), (a 8, .inr (6, [.ref (a 9)])), (a 9, .inl (cA, 12, .inl (zF Cp)))] sz) 0 0 (va_A [(a 10, .inr (2, [.ref (a 1), .int (iI cf), .int (iI cl)])), (a 1, .inr (5, [.ref (a 2), .ref (a 4), .ref (a 6), .ref (a 8), .int (iI N)])), (a 2, .inr (6, [.ref (a 3)])), (a 3, .inl (cA, 12, .inl (zF Xs))), (a 4, .inr (6, [.ref (a 5)])), (a 5, .inl (cA, 12, .inl (zF Ys))), (a 6, .inr (6, [.ref (a 7)])), (a 7, .inl (cA, 12, .inl (zF Wt))), (a 8, .inr (6, [.ref (a 9)])), (a 9, .inl (cA, 12, .inl (zF Cp)))] sz) := by
  refine Met.ofW (cc := cX1_findSpan) (maxL := 7) (ret := none) (by decide +kernel) rfl ?_
  intro p e s m args below meth c s₁ B hml hv
  obtain ⟨rfl, hsz, hP, hK, hD0⟩ := hv
  have hx := B.exec
  have hb := B.bytes
  have hr := B.returns
  have hts := atoms_spec (ws := wsX1_findSpan) B.pre
  have hown : s.vm.findClass RX1 = some m.cls := findClass_of_methodNamed B.named
  have hlocks := B.notSynchronized
  subst hsz
  have hD : va_D (va_A [(a 10, .inr (2, [.ref (a 1), .int (iI cf), .int (iI cl)])), (a 1, .inr (5, [.ref (a 2), .ref (a 4), .ref (a 6), .ref (a 8), .int (iI N)])), (a 2, .inr (6, [.ref (a 3)])), (a 3, .inl (cA, 12, .inl (zF Xs))), (a 4, .inr (6, [.ref (a 5)])), (a 5, .inl (cA, 12, .inl (zF Ys))), (a 6, .inr (6, [.ref (a 7)])), (a 7, .inl (cA, 12, .inl (zF Wt))), (a 8, .inr (6, [.ref (a 9)])), (a 9, .inl (cA, 12, .inl (zF Cp)))] s.heap.size) [(a 10, .inr (2, [.ref (a 1), .int (iI cf), .int (iI cl)])), (a 1, .inr (5, [.ref (a 2), .ref (a 4), .ref (a 6), .ref (a 8), .int (iI N)])), (a 2, .inr (6, [.ref (a 3)])), (a 3, .inl (cA, 12, .inl (zF Xs))), (a 4, .inr (6, [.ref (a 5)])), (a 5, .inl (cA, 12, .inl (zF Ys))), (a 6, .inr (6, [.ref (a 7)])), (a 7, .inl (cA, 12, .inl (zF Wt))), (a 8, .inr (6, [.ref (a 9)])), (a 9, .inl (cA, 12, .inl (zF Cp)))] := hD0.self
  have hS : va_S (va_A [(a 10, .inr (2, [.ref (a 1), .int (iI cf), .int (iI cl)])), (a 1, .inr (5, [.ref (a 2), .ref (a 4), .ref (a 6), .ref (a 8), .int (iI N)])), (a 2, .inr (6, [.ref (a 3)])), (a 3, .inl (cA, 12, .inl (zF Xs))), (a 4, .inr (6, [.ref (a 5)])), (a 5, .inl (cA, 12, .inl (zF Ys))), (a 6, .inr (6, [.ref (a 7)])), (a 7, .inl (cA, 12, .inl (zF Wt))), (a 8, .inr (6, [.ref (a 9)])), (a 9, .inl (cA, 12, .inl (zF Cp)))] s.heap.size) s.heap s.heap [] := va_S.rf
  have hA : ∀ q9 : Nat, s.heap.size ≤ q9 → (va_A [(a 10, .inr (2, [.ref (a 1), .int (iI cf), .int (iI cl)])), (a 1, .inr (5, [.ref (a 2), .ref (a 4), .ref (a 6), .ref (a 8), .int (iI N)])), (a 2, .inr (6, [.ref (a 3)])), (a 3, .inl (cA, 12, .inl (zF Xs))), (a 4, .inr (6, [.ref (a 5)])), (a 5, .inl (cA, 12, .inl (zF Ys))), (a 6, .inr (6, [.ref (a 7)])), (a 7, .inl (cA, 12, .inl (zF Wt))), (a 8, .inr (6, [.ref (a 9)])), (a 9, .inl (cA, 12, .inl (zF Cp)))] s.heap.size) q9 := fun q9 h => Or.inr h
  have hl := lv_entry ([.ref (a 10), .int (iI k), .int (iI y)]) (n := 7) (Nat.le_of_ble_eq_true rfl)
  rw [lg_entry_eq]
  generalize (lg_sl ([.ref (a 10), .int (iI k), .int (iI y)]) ++ List.replicate (7 - (lg_sl ([.ref (a 10), .int (iI k), .int (iI y)])).length) Slot.unset).toArray = ls at hl ⊢
  have hl : lv_has ls 7 [(0, .ref (a 10)), (1, .int (iI k)), (2, .int (iI y))] := hl
  refine lv_aload_n hx hb dX1_findSpan_0 rfl (lv_at hl 0 rfl) ?_
  refine lv_iconst (v := iI 0) hx hb dX1_findSpan_1 rfl ?_
  refine va_put (ci := 2) (v := .int (iI 0)) (ty := .int) (C := RX1) (T := TX1) (N := 3) hx hb hts iz_X1_findSpan_X1 tyX1 tyX1_ok nmX1 hown hK hP hD hS 0 rfl rfl 1 (by decide) (hts (.fieldLink RX1 37 "PowerPlot$Cells" "first" "I") (by decide +kernel)) (fun _ h9 => h9) rfl (by decide +kernel) rfl rfl (Nat.le_of_ble_eq_true rfl) dX1_findSpan_2 (fun H locs hP hD hS => ?_)
  have hP : va_P D vwCl [(a 10, .inr (2, [.ref (a 1), .int (iI 0), .int (iI cl)])), (a 1, .inr (5, [.ref (a 2), .ref (a 4), .ref (a 6), .ref (a 8), .int (iI N)])), (a 2, .inr (6, [.ref (a 3)])), (a 3, .inl (cA, 12, .inl (zF Xs))), (a 4, .inr (6, [.ref (a 5)])), (a 5, .inl (cA, 12, .inl (zF Ys))), (a 6, .inr (6, [.ref (a 7)])), (a 7, .inl (cA, 12, .inl (zF Wt))), (a 8, .inr (6, [.ref (a 9)])), (a 9, .inl (cA, 12, .inl (zF Cp)))] H := hP
  have hD : va_D _ [(a 10, .inr (2, [.ref (a 1), .int (iI 0), .int (iI cl)])), (a 1, .inr (5, [.ref (a 2), .ref (a 4), .ref (a 6), .ref (a 8), .int (iI N)])), (a 2, .inr (6, [.ref (a 3)])), (a 3, .inl (cA, 12, .inl (zF Xs))), (a 4, .inr (6, [.ref (a 5)])), (a 5, .inl (cA, 12, .inl (zF Ys))), (a 6, .inr (6, [.ref (a 7)])), (a 7, .inl (cA, 12, .inl (zF Wt))), (a 8, .inr (6, [.ref (a 9)])), (a 9, .inl (cA, 12, .inl (zF Cp)))] := hD
  refine lv_aload_n hx hb dX1_findSpan_5 rfl (lv_at hl 0 rfl) ?_
  refine lv_bipush (v := iI 40) hx hb dX1_findSpan_6 (by decide +kernel) ?_
  refine va_put (ci := 2) (v := .int (iI 40)) (ty := .int) (C := RX1) (T := TX1) (N := 3) hx hb hts iz_X1_findSpan_X1 tyX1 tyX1_ok nmX1 hown hK hP hD hS 0 rfl rfl 2 (by decide) (hts (.fieldLink RX1 40 "PowerPlot$Cells" "last" "I") (by decide +kernel)) (fun _ h9 => h9) rfl (by decide +kernel) rfl rfl (Nat.le_of_ble_eq_true rfl) dX1_findSpan_8 (fun H locs hP hD hS => ?_)
  have hP : va_P D vwCl [(a 10, .inr (2, [.ref (a 1), .int (iI 0), .int (iI 40)])), (a 1, .inr (5, [.ref (a 2), .ref (a 4), .ref (a 6), .ref (a 8), .int (iI N)])), (a 2, .inr (6, [.ref (a 3)])), (a 3, .inl (cA, 12, .inl (zF Xs))), (a 4, .inr (6, [.ref (a 5)])), (a 5, .inl (cA, 12, .inl (zF Ys))), (a 6, .inr (6, [.ref (a 7)])), (a 7, .inl (cA, 12, .inl (zF Wt))), (a 8, .inr (6, [.ref (a 9)])), (a 9, .inl (cA, 12, .inl (zF Cp)))] H := hP
  have hD : va_D _ [(a 10, .inr (2, [.ref (a 1), .int (iI 0), .int (iI 40)])), (a 1, .inr (5, [.ref (a 2), .ref (a 4), .ref (a 6), .ref (a 8), .int (iI N)])), (a 2, .inr (6, [.ref (a 3)])), (a 3, .inl (cA, 12, .inl (zF Xs))), (a 4, .inr (6, [.ref (a 5)])), (a 5, .inl (cA, 12, .inl (zF Ys))), (a 6, .inr (6, [.ref (a 7)])), (a 7, .inl (cA, 12, .inl (zF Wt))), (a 8, .inr (6, [.ref (a 9)])), (a 9, .inl (cA, 12, .inl (zF Cp)))] := hD
  refine lv_aload_n hx hb dX1_findSpan_11 rfl (lv_at hl 0 rfl) ?_
  refine va_get (ci := 2) (v := .ref (a 1)) (C := RX1) (T := TX1) (N := 3) hx hb hts iz_X1_findSpan_X1 hown hK hP 0 rfl rfl 0 (by decide) (hts (.fieldLink RX1 9 "PowerPlot$Cells" "places" "LPowerPlot$Places;") (by decide +kernel)) (fun _ h9 => h9) rfl dX1_findSpan_12 ?_
  refine lv_iload_n hx hb dX1_findSpan_15 rfl (lv_at hl 1 rfl) ?_
  refine lv_iconst (v := iI 0) hx hb dX1_findSpan_16 rfl ?_
  refine lv_iload_n hx hb dX1_findSpan_17 rfl (lv_at hl 2 rfl) ?_
  refine zc_ri (As := [.int (iI k), .int (iI 0), .int (iI y)]) (rest := []) ⟨hx, hb, hml, hown, hts⟩ (c_X4_powerAt l D _ tys cA hty a N Xs Ys Wt Cp k 0 y (by omega)) (cwV 3 hts gX1_findSpan_X4_powerAt rfl rfl rfl (by decide +kernel) ⟨(Nat.le_of_ble_eq_true rfl), (Nat.le_of_ble_eq_true rfl)⟩) hP hK hD hS hA [1, 2, 3, 4, 5, 6, 7, 8, 9] rfl rfl rfl rfl rfl hl.1 rfl (Nat.le_of_ble_eq_true rfl) dX1_findSpan_18 ⟨Nat.zero_le _, Nat.zero_le _⟩ (fun H locs hP hS => ?_)
  refine lv_istore_n (lv' := [(3, .int (iI (zPw Xs Ys Wt k 0 y))), (0, .ref (a 10)), (1, .int (iI k)), (2, .int (iI y))]) hx hb dX1_findSpan_21 rfl hl (by decide) rfl (fun ls hl => ?_)
  refine lv_iconst (v := iI 0) hx hb dX1_findSpan_22 rfl ?_
  refine lv_istore (lv' := [(4, .int (iI 0)), (3, .int (iI (zPw Xs Ys Wt k 0 y))), (0, .ref (a 10)), (1, .int (iI k)), (2, .int (iI y))]) hx hb dX1_findSpan_23 hl (by decide) rfl (fun ls hl => ?_)
  have L25 : ∀ (n : Nat) (i : Int) (f : Int) (v : Int), (N - i < (n : Int)) → (0 ≤ i ∧ i ≤ N) → (zSpan Xs Ys Wt k y i f v) → ∀ (H : Heap) (locs : List Loc) (ls : Array Slot), va_P D vwCl [(a 10, .inr (2, [.ref (a 1), .int (iI f), .int (iI v)])), (a 1, .inr (5, [.ref (a 2), .ref (a 4), .ref (a 6), .ref (a 8), .int (iI N)])), (a 2, .inr (6, [.ref (a 3)])), (a 3, .inl (cA, 12, .inl (zF Xs))), (a 4, .inr (6, [.ref (a 5)])), (a 5, .inl (cA, 12, .inl (zF Ys))), (a 6, .inr (6, [.ref (a 7)])), (a 7, .inl (cA, 12, .inl (zF Wt))), (a 8, .inr (6, [.ref (a 9)])), (a 9, .inl (cA, 12, .inl (zF Cp)))] H → va_D (va_A [(a 10, .inr (2, [.ref (a 1), .int (iI cf), .int (iI cl)])), (a 1, .inr (5, [.ref (a 2), .ref (a 4), .ref (a 6), .ref (a 8), .int (iI N)])), (a 2, .inr (6, [.ref (a 3)])), (a 3, .inl (cA, 12, .inl (zF Xs))), (a 4, .inr (6, [.ref (a 5)])), (a 5, .inl (cA, 12, .inl (zF Ys))), (a 6, .inr (6, [.ref (a 7)])), (a 7, .inl (cA, 12, .inl (zF Wt))), (a 8, .inr (6, [.ref (a 9)])), (a 9, .inl (cA, 12, .inl (zF Cp)))] s.heap.size) [(a 10, .inr (2, [.ref (a 1), .int (iI f), .int (iI v)])), (a 1, .inr (5, [.ref (a 2), .ref (a 4), .ref (a 6), .ref (a 8), .int (iI N)])), (a 2, .inr (6, [.ref (a 3)])), (a 3, .inl (cA, 12, .inl (zF Xs))), (a 4, .inr (6, [.ref (a 5)])), (a 5, .inl (cA, 12, .inl (zF Ys))), (a 6, .inr (6, [.ref (a 7)])), (a 7, .inl (cA, 12, .inl (zF Wt))), (a 8, .inr (6, [.ref (a 9)])), (a 9, .inl (cA, 12, .inl (zF Cp)))] → va_S (va_A [(a 10, .inr (2, [.ref (a 1), .int (iI cf), .int (iI cl)])), (a 1, .inr (5, [.ref (a 2), .ref (a 4), .ref (a 6), .ref (a 8), .int (iI N)])), (a 2, .inr (6, [.ref (a 3)])), (a 3, .inl (cA, 12, .inl (zF Xs))), (a 4, .inr (6, [.ref (a 5)])), (a 5, .inl (cA, 12, .inl (zF Ys))), (a 6, .inr (6, [.ref (a 7)])), (a 7, .inl (cA, 12, .inl (zF Wt))), (a 8, .inr (6, [.ref (a 9)])), (a 9, .inl (cA, 12, .inl (zF Cp)))] s.heap.size) s.heap H locs → lv_has ls 7 [(0, .ref (a 10)), (1, .int (iI k)), (2, .int (iI y)), (3, .int (iI (zPw Xs Ys Wt k 0 y))), (4, .int (iI i))] → W p l e (headSpec wsX1_findSpan ({ frames := 2, cells := 0, slots := 0, locals := 46 })).room s m ([.ref (a 10), .int (iI k), .int (iI y)] : List Value).toArray below meth c H locs 0 0 (MQ below (zWv (fun (u : Int × Int) => zSpan Xs Ys Wt k y N u.1 u.2) D (fun (u : Int × Int) => [(a 10, .inr (2, [.ref (a 1), .int (iI u.1), .int (iI u.2)])), (a 1, .inr (5, [.ref (a 2), .ref (a 4), .ref (a 6), .ref (a 8), .int (iI N)])), (a 2, .inr (6, [.ref (a 3)])), (a 3, .inl (cA, 12, .inl (zF Xs))), (a 4, .inr (6, [.ref (a 5)])), (a 5, .inl (cA, 12, .inl (zF Ys))), (a 6, .inr (6, [.ref (a 7)])), (a 7, .inl (cA, 12, .inl (zF Wt))), (a 8, .inr (6, [.ref (a 9)])), (a 9, .inl (cA, 12, .inl (zF Cp)))]) [(a 10, .inr (2, [.ref (a 1), .int (iI cf), .int (iI cl)])), (a 1, .inr (5, [.ref (a 2), .ref (a 4), .ref (a 6), .ref (a 8), .int (iI N)])), (a 2, .inr (6, [.ref (a 3)])), (a 3, .inl (cA, 12, .inl (zF Xs))), (a 4, .inr (6, [.ref (a 5)])), (a 5, .inl (cA, 12, .inl (zF Ys))), (a 6, .inr (6, [.ref (a 7)])), (a 7, .inl (cA, 12, .inl (zF Wt))), (a 8, .inr (6, [.ref (a 9)])), (a 9, .inl (cA, 12, .inl (zF Cp)))] s.heap.size) ([.ref (a 10), .int (iI k), .int (iI y)] : List Value).toArray s 0 0 (va_A [(a 10, .inr (2, [.ref (a 1), .int (iI cf), .int (iI cl)])), (a 1, .inr (5, [.ref (a 2), .ref (a 4), .ref (a 6), .ref (a 8), .int (iI N)])), (a 2, .inr (6, [.ref (a 3)])), (a 3, .inl (cA, 12, .inl (zF Xs))), (a 4, .inr (6, [.ref (a 5)])), (a 5, .inl (cA, 12, .inl (zF Ys))), (a 6, .inr (6, [.ref (a 7)])), (a 7, .inl (cA, 12, .inl (zF Wt))), (a 8, .inr (6, [.ref (a 9)])), (a 9, .inl (cA, 12, .inl (zF Cp)))] s.heap.size)) (F0 m 25 ls []) := by
    intro n
    induction n with
    | zero =>
      intro i f v hn9 h1 h2 H locs ls hP hD hS hl
      exact absurd hn9 (by omega)
    | succ n ih25 =>
      intro i f v hn9 h1 h2 H locs ls hP hD hS hl
      have q1 := zPw_rg gB i (x := 0) (by omega) gy
      have q2 := zPw_rg gB k (x := 0) (by omega) gy
      have q3 := gB.1 i
      have q4 := gB.1 k
      have q5 := h2.1
      have q6 := h2.2.1
      have q7 := h2.2.2.1
      have q8 := h2.2.2.2.1
      refine lv_iload hx hb dX1_findSpan_25 (lv_at hl 4 rfl) ?_
      refine lv_aload_n hx hb dX1_findSpan_27 rfl (lv_at hl 0 rfl) ?_
      refine va_get (ci := 2) (v := .ref (a 1)) (C := RX1) (T := TX1) (N := 3) hx hb hts iz_X1_findSpan_X1 hown hK hP 0 rfl rfl 0 (by decide) (hts (.fieldLink RX1 9 "PowerPlot$Cells" "places" "LPowerPlot$Places;") (by decide +kernel)) (fun _ h9 => h9) rfl dX1_findSpan_28 ?_
      refine va_get (ci := 5) (v := .int (iI N)) (C := RX4) (T := TX4) (N := 5) hx hb hts iz_X1_findSpan_X4 hown hK hP 1 rfl rfl 4 (by decide) (hts (.fieldLink RX1 15 "PowerPlot$Places" "count" "I") (by decide +kernel)) (fun _ h9 => h9) rfl dX1_findSpan_31 ?_
      refine zi_icmp_ge (tgt := 162) hx hb dX1_findSpan_34 (by decide) (by omega) (by omega) (fun c34 => ?_) (fun c34 => ?_)
      · skip
        exact W.vret hx hb hr (fun t ht hW => ⟨⟨(f, v), rfl, (by rw [show N = i by omega]; exact h2), ⟨by rw [ht]; exact hP, hD⟩⟩, hS.F ht⟩) hS.2.2 dX1_findSpan_162
      · skip
        refine lv_aload_n hx hb dX1_findSpan_37 rfl (lv_at hl 0 rfl) ?_
        refine va_get (ci := 2) (v := .ref (a 1)) (C := RX1) (T := TX1) (N := 3) hx hb hts iz_X1_findSpan_X1 hown hK hP 0 rfl rfl 0 (by decide) (hts (.fieldLink RX1 9 "PowerPlot$Cells" "places" "LPowerPlot$Places;") (by decide +kernel)) (fun _ h9 => h9) rfl dX1_findSpan_38 ?_
        refine lv_iload hx hb dX1_findSpan_41 (lv_at hl 4 rfl) ?_
        refine lv_iconst (v := iI 0) hx hb dX1_findSpan_43 rfl ?_
        refine lv_iload_n hx hb dX1_findSpan_44 rfl (lv_at hl 2 rfl) ?_
        refine zc_ri (As := [.int (iI i), .int (iI 0), .int (iI y)]) (rest := []) ⟨hx, hb, hml, hown, hts⟩ (c_X4_powerAt l D _ tys cA hty a N Xs Ys Wt Cp i 0 y (by omega)) (cwV 3 hts gX1_findSpan_X4_powerAt rfl rfl rfl (by decide +kernel) ⟨(Nat.le_of_ble_eq_true rfl), (Nat.le_of_ble_eq_true rfl)⟩) hP hK hD hS hA [1, 2, 3, 4, 5, 6, 7, 8, 9] rfl rfl rfl rfl rfl hl.1 rfl (Nat.le_of_ble_eq_true rfl) dX1_findSpan_45 ⟨Nat.zero_le _, Nat.zero_le _⟩ (fun H locs hP hS => ?_)
        refine lv_iload_n hx hb dX1_findSpan_48 rfl (lv_at hl 3 rfl) ?_
        refine zi_isub hx hb dX1_findSpan_49 ?_
        refine lv_iload hx hb dX1_findSpan_50 (lv_at hl 4 rfl) ?_
        refine lv_iload_n hx hb dX1_findSpan_52 rfl (lv_at hl 1 rfl) ?_
        have J61 : ∀ (d : Int), (d = bI (i < k)) → ∀ (H : Heap) (locs : List Loc) (ls : Array Slot), va_P D vwCl [(a 10, .inr (2, [.ref (a 1), .int (iI f), .int (iI v)])), (a 1, .inr (5, [.ref (a 2), .ref (a 4), .ref (a 6), .ref (a 8), .int (iI N)])), (a 2, .inr (6, [.ref (a 3)])), (a 3, .inl (cA, 12, .inl (zF Xs))), (a 4, .inr (6, [.ref (a 5)])), (a 5, .inl (cA, 12, .inl (zF Ys))), (a 6, .inr (6, [.ref (a 7)])), (a 7, .inl (cA, 12, .inl (zF Wt))), (a 8, .inr (6, [.ref (a 9)])), (a 9, .inl (cA, 12, .inl (zF Cp)))] H → va_D (va_A [(a 10, .inr (2, [.ref (a 1), .int (iI cf), .int (iI cl)])), (a 1, .inr (5, [.ref (a 2), .ref (a 4), .ref (a 6), .ref (a 8), .int (iI N)])), (a 2, .inr (6, [.ref (a 3)])), (a 3, .inl (cA, 12, .inl (zF Xs))), (a 4, .inr (6, [.ref (a 5)])), (a 5, .inl (cA, 12, .inl (zF Ys))), (a 6, .inr (6, [.ref (a 7)])), (a 7, .inl (cA, 12, .inl (zF Wt))), (a 8, .inr (6, [.ref (a 9)])), (a 9, .inl (cA, 12, .inl (zF Cp)))] s.heap.size) [(a 10, .inr (2, [.ref (a 1), .int (iI f), .int (iI v)])), (a 1, .inr (5, [.ref (a 2), .ref (a 4), .ref (a 6), .ref (a 8), .int (iI N)])), (a 2, .inr (6, [.ref (a 3)])), (a 3, .inl (cA, 12, .inl (zF Xs))), (a 4, .inr (6, [.ref (a 5)])), (a 5, .inl (cA, 12, .inl (zF Ys))), (a 6, .inr (6, [.ref (a 7)])), (a 7, .inl (cA, 12, .inl (zF Wt))), (a 8, .inr (6, [.ref (a 9)])), (a 9, .inl (cA, 12, .inl (zF Cp)))] → va_S (va_A [(a 10, .inr (2, [.ref (a 1), .int (iI cf), .int (iI cl)])), (a 1, .inr (5, [.ref (a 2), .ref (a 4), .ref (a 6), .ref (a 8), .int (iI N)])), (a 2, .inr (6, [.ref (a 3)])), (a 3, .inl (cA, 12, .inl (zF Xs))), (a 4, .inr (6, [.ref (a 5)])), (a 5, .inl (cA, 12, .inl (zF Ys))), (a 6, .inr (6, [.ref (a 7)])), (a 7, .inl (cA, 12, .inl (zF Wt))), (a 8, .inr (6, [.ref (a 9)])), (a 9, .inl (cA, 12, .inl (zF Cp)))] s.heap.size) s.heap H locs → lv_has ls 7 [(0, .ref (a 10)), (1, .int (iI k)), (2, .int (iI y)), (3, .int (iI (zPw Xs Ys Wt k 0 y))), (4, .int (iI i))] → W p l e (headSpec wsX1_findSpan ({ frames := 2, cells := 0, slots := 0, locals := 46 })).room s m ([.ref (a 10), .int (iI k), .int (iI y)] : List Value).toArray below meth c H locs 0 0 (MQ below (zWv (fun (u : Int × Int) => zSpan Xs Ys Wt k y N u.1 u.2) D (fun (u : Int × Int) => [(a 10, .inr (2, [.ref (a 1), .int (iI u.1), .int (iI u.2)])), (a 1, .inr (5, [.ref (a 2), .ref (a 4), .ref (a 6), .ref (a 8), .int (iI N)])), (a 2, .inr (6, [.ref (a 3)])), (a 3, .inl (cA, 12, .inl (zF Xs))), (a 4, .inr (6, [.ref (a 5)])), (a 5, .inl (cA, 12, .inl (zF Ys))), (a 6, .inr (6, [.ref (a 7)])), (a 7, .inl (cA, 12, .inl (zF Wt))), (a 8, .inr (6, [.ref (a 9)])), (a 9, .inl (cA, 12, .inl (zF Cp)))]) [(a 10, .inr (2, [.ref (a 1), .int (iI cf), .int (iI cl)])), (a 1, .inr (5, [.ref (a 2), .ref (a 4), .ref (a 6), .ref (a 8), .int (iI N)])), (a 2, .inr (6, [.ref (a 3)])), (a 3, .inl (cA, 12, .inl (zF Xs))), (a 4, .inr (6, [.ref (a 5)])), (a 5, .inl (cA, 12, .inl (zF Ys))), (a 6, .inr (6, [.ref (a 7)])), (a 7, .inl (cA, 12, .inl (zF Wt))), (a 8, .inr (6, [.ref (a 9)])), (a 9, .inl (cA, 12, .inl (zF Cp)))] s.heap.size) ([.ref (a 10), .int (iI k), .int (iI y)] : List Value).toArray s 0 0 (va_A [(a 10, .inr (2, [.ref (a 1), .int (iI cf), .int (iI cl)])), (a 1, .inr (5, [.ref (a 2), .ref (a 4), .ref (a 6), .ref (a 8), .int (iI N)])), (a 2, .inr (6, [.ref (a 3)])), (a 3, .inl (cA, 12, .inl (zF Xs))), (a 4, .inr (6, [.ref (a 5)])), (a 5, .inl (cA, 12, .inl (zF Ys))), (a 6, .inr (6, [.ref (a 7)])), (a 7, .inl (cA, 12, .inl (zF Wt))), (a 8, .inr (6, [.ref (a 9)])), (a 9, .inl (cA, 12, .inl (zF Cp)))] s.heap.size)) (F0 m 61 ls [.int (iI d), .int (iI (zPw Xs Ys Wt i 0 y - zPw Xs Ys Wt k 0 y))]) := by
          intro d gd H locs ls hP hD hS hl
          have gd2 := bI_rg (i < k)
          rw [← gd] at gd2
          have q9 : -6000 ≤ zPw Xs Ys Wt i 0 y - zPw Xs Ys Wt k 0 y - d ∧ zPw Xs Ys Wt i 0 y - zPw Xs Ys Wt k 0 y - d ≤ 6000 := by omega
          refine zi_isub hx hb dX1_findSpan_61 ?_
          refine lv_istore (lv' := [(5, .int (iI ((zPw Xs Ys Wt i 0 y - zPw Xs Ys Wt k 0 y) - d))), (0, .ref (a 10)), (1, .int (iI k)), (2, .int (iI y)), (3, .int (iI (zPw Xs Ys Wt k 0 y))), (4, .int (iI i))]) hx hb dX1_findSpan_62 hl (by decide) rfl (fun ls hl => ?_)
          refine lv_iconst (v := iI 2) hx hb dX1_findSpan_64 rfl ?_
          refine lv_aload_n hx hb dX1_findSpan_65 rfl (lv_at hl 1 rfl) ?_
          refine va_get (ci := 2) (v := .ref (a 1)) (C := RX1) (T := TX1) (N := 3) hx hb hts iz_X1_findSpan_X1 hown hK hP 0 rfl rfl 0 (by decide) (hts (.fieldLink RX1 9 "PowerPlot$Cells" "places" "LPowerPlot$Places;") (by decide +kernel)) (fun _ h9 => h9) rfl dX1_findSpan_66 ?_
          refine va_get (ci := 5) (v := .ref (a 2)) (C := RX4) (T := TX4) (N := 5) hx hb hts iz_X1_findSpan_X4 hown hK hP 1 rfl rfl 0 (by decide) (hts (.fieldLink RX1 43 "PowerPlot$Places" "xs" "LPowerPlot$Row;") (by decide +kernel)) (fun _ h9 => h9) rfl dX1_findSpan_69 ?_
          refine lv_iload hx hb dX1_findSpan_72 (lv_at hl 5 rfl) ?_
          refine zc_ri (As := [.int (iI i)]) (rest := [.int (iI 2)]) ⟨hx, hb, hml, hown, hts⟩ (c_X5_at l D _ tys cA hty (a 2) (a 3) Xs i (by omega)) (cwV 1 hts gX1_findSpan_X5_at rfl rfl rfl (by decide +kernel) ⟨(Nat.le_of_ble_eq_true rfl), (Nat.le_of_ble_eq_true rfl)⟩) hP hK hD hS hA [2, 3] rfl rfl rfl rfl rfl hl.1 rfl (Nat.le_of_ble_eq_true rfl) dX1_findSpan_74 ⟨Nat.zero_le _, Nat.zero_le _⟩ (fun H locs hP hS => ?_)
          refine lv_aload_n hx hb dX1_findSpan_77 rfl (lv_at hl 1 rfl) ?_
          refine va_get (ci := 2) (v := .ref (a 1)) (C := RX1) (T := TX1) (N := 3) hx hb hts iz_X1_findSpan_X1 hown hK hP 0 rfl rfl 0 (by decide) (hts (.fieldLink RX1 9 "PowerPlot$Cells" "places" "LPowerPlot$Places;") (by decide +kernel)) (fun _ h9 => h9) rfl dX1_findSpan_78 ?_
          refine va_get (ci := 5) (v := .ref (a 2)) (C := RX4) (T := TX4) (N := 5) hx hb hts iz_X1_findSpan_X4 hown hK hP 1 rfl rfl 0 (by decide) (hts (.fieldLink RX1 43 "PowerPlot$Places" "xs" "LPowerPlot$Row;") (by decide +kernel)) (fun _ h9 => h9) rfl dX1_findSpan_81 ?_
          refine lv_iload_n hx hb dX1_findSpan_84 rfl (lv_at hl 2 rfl) ?_
          refine zc_ri (As := [.int (iI k)]) (rest := [.int (iI (Xs i)), .int (iI 2)]) ⟨hx, hb, hml, hown, hts⟩ (c_X5_at l D _ tys cA hty (a 2) (a 3) Xs k (by omega)) (cwV 1 hts gX1_findSpan_X5_at rfl rfl rfl (by decide +kernel) ⟨(Nat.le_of_ble_eq_true rfl), (Nat.le_of_ble_eq_true rfl)⟩) hP hK hD hS hA [2, 3] rfl rfl rfl rfl rfl hl.1 rfl (Nat.le_of_ble_eq_true rfl) dX1_findSpan_85 ⟨Nat.zero_le _, Nat.zero_le _⟩ (fun H locs hP hS => ?_)
          refine zi_isub hx hb dX1_findSpan_88 ?_
          refine zi_imul hx hb dX1_findSpan_89 ?_
          refine lv_istore (lv' := [(6, .int (iI (2 * ((Xs i) - (Xs k))))), (5, .int (iI ((zPw Xs Ys Wt i 0 y - zPw Xs Ys Wt k 0 y) - d))), (0, .ref (a 10)), (1, .int (iI k)), (2, .int (iI y)), (3, .int (iI (zPw Xs Ys Wt k 0 y))), (4, .int (iI i))]) hx hb dX1_findSpan_90 hl (by decide) rfl (fun ls hl => ?_)
          refine lv_iload hx hb dX1_findSpan_92 (lv_at hl 0 rfl) ?_
          refine zi_if_le (tgt := 118) hx hb dX1_findSpan_94 (by decide) (by omega) (fun c94 => ?_) (fun c94 => ?_)
          · skip
            refine lv_iload hx hb dX1_findSpan_118 (lv_at hl 0 rfl) ?_
            refine zi_if_ge (tgt := 146) hx hb dX1_findSpan_120 (by decide) (by omega) (fun c120 => ?_) (fun c120 => ?_)
            · skip
              refine lv_iload hx hb dX1_findSpan_146 (lv_at hl 1 rfl) ?_
              refine zi_if_ge (tgt := 156) hx hb dX1_findSpan_148 (by decide) (by omega) (fun c148 => ?_) (fun c148 => ?_)
              · skip
                refine lv_iinc (v := iI (i + 1)) (lv' := [(4, .int (iI (i + 1))), (6, .int (iI (2 * ((Xs i) - (Xs k))))), (5, .int (iI ((zPw Xs Ys Wt i 0 y - zPw Xs Ys Wt k 0 y) - d))), (0, .ref (a 10)), (1, .int (iI k)), (2, .int (iI y)), (3, .int (iI (zPw Xs Ys Wt k 0 y)))]) hx hb dX1_findSpan_156 hl (k := 6) rfl (iI_add i 1) (by decide) rfl (fun ls hl => ?_)
                refine lv_goto (tgt := 25) hx hb dX1_findSpan_159 (by decide) ?_
                exact ih25 (i + 1) f v (by omega) (by omega) (by first | exact zSpan_p h2 h1.1 (by rw [gd]) rfl q9 (by omega) | exact zSpan_n h2 h1.1 (by rw [gd]) rfl q9 (by omega) | exact (zSpan_z (r := zPw Xs Ys Wt i 0 y - zPw Xs Ys Wt k 0 y - d) h2 h1.1 (by rw [gd]) rfl (by omega)).1 (by omega) | exact (zSpan_z (r := zPw Xs Ys Wt i 0 y - zPw Xs Ys Wt k 0 y - d) h2 h1.1 (by rw [gd]) rfl (by omega)).2 (by omega)) _ _ _ hP hD hS (lv_sub hl [3, 4, 5, 6, 0] rfl)
              · skip
                refine lv_aload_n hx hb dX1_findSpan_151 rfl (lv_at hl 2 rfl) ?_
                refine lv_iconst (v := iI (-1)) hx hb dX1_findSpan_152 rfl ?_
                refine va_put (ci := 2) (v := .int (iI (-1))) (ty := .int) (C := RX1) (T := TX1) (N := 3) hx hb hts iz_X1_findSpan_X1 tyX1 tyX1_ok nmX1 hown hK hP hD hS 0 rfl rfl 2 (by decide) (hts (.fieldLink RX1 40 "PowerPlot$Cells" "last" "I") (by decide +kernel)) (fun _ h9 => h9) rfl (by decide +kernel) rfl rfl (Nat.le_of_ble_eq_true rfl) dX1_findSpan_153 (fun H locs hP hD hS => ?_)
                have hP : va_P D vwCl [(a 10, .inr (2, [.ref (a 1), .int (iI f), .int (iI (-1))])), (a 1, .inr (5, [.ref (a 2), .ref (a 4), .ref (a 6), .ref (a 8), .int (iI N)])), (a 2, .inr (6, [.ref (a 3)])), (a 3, .inl (cA, 12, .inl (zF Xs))), (a 4, .inr (6, [.ref (a 5)])), (a 5, .inl (cA, 12, .inl (zF Ys))), (a 6, .inr (6, [.ref (a 7)])), (a 7, .inl (cA, 12, .inl (zF Wt))), (a 8, .inr (6, [.ref (a 9)])), (a 9, .inl (cA, 12, .inl (zF Cp)))] H := hP
                have hD : va_D _ [(a 10, .inr (2, [.ref (a 1), .int (iI f), .int (iI (-1))])), (a 1, .inr (5, [.ref (a 2), .ref (a 4), .ref (a 6), .ref (a 8), .int (iI N)])), (a 2, .inr (6, [.ref (a 3)])), (a 3, .inl (cA, 12, .inl (zF Xs))), (a 4, .inr (6, [.ref (a 5)])), (a 5, .inl (cA, 12, .inl (zF Ys))), (a 6, .inr (6, [.ref (a 7)])), (a 7, .inl (cA, 12, .inl (zF Wt))), (a 8, .inr (6, [.ref (a 9)])), (a 9, .inl (cA, 12, .inl (zF Cp)))] := hD
                refine lv_iinc (v := iI (i + 1)) (lv' := [(4, .int (iI (i + 1))), (6, .int (iI (2 * ((Xs i) - (Xs k))))), (5, .int (iI ((zPw Xs Ys Wt i 0 y - zPw Xs Ys Wt k 0 y) - d))), (0, .ref (a 10)), (1, .int (iI k)), (2, .int (iI y)), (3, .int (iI (zPw Xs Ys Wt k 0 y)))]) hx hb dX1_findSpan_156 hl (k := 6) rfl (iI_add i 1) (by decide) rfl (fun ls hl => ?_)
                refine lv_goto (tgt := 25) hx hb dX1_findSpan_159 (by decide) ?_
                exact ih25 (i + 1) f (-1) (by omega) (by omega) (by first | exact zSpan_p h2 h1.1 (by rw [gd]) rfl q9 (by omega) | exact zSpan_n h2 h1.1 (by rw [gd]) rfl q9 (by omega) | exact (zSpan_z (r := zPw Xs Ys Wt i 0 y - zPw Xs Ys Wt k 0 y - d) h2 h1.1 (by rw [gd]) rfl (by omega)).1 (by omega) | exact (zSpan_z (r := zPw Xs Ys Wt i 0 y - zPw Xs Ys Wt k 0 y - d) h2 h1.1 (by rw [gd]) rfl (by omega)).2 (by omega)) _ _ _ hP hD hS (lv_sub hl [3, 4, 5, 6, 0] rfl)
            · skip
              refine lv_aload_n hx hb dX1_findSpan_123 rfl (lv_at hl 2 rfl) ?_
              refine lv_aload_n hx hb dX1_findSpan_124 rfl (lv_at hl 2 rfl) ?_
              refine va_get (ci := 2) (v := .int (iI f)) (C := RX1) (T := TX1) (N := 3) hx hb hts iz_X1_findSpan_X1 hown hK hP 0 rfl rfl 1 (by decide) (hts (.fieldLink RX1 37 "PowerPlot$Cells" "first" "I") (by decide +kernel)) (fun _ h9 => h9) rfl dX1_findSpan_125 ?_
              refine lv_iload hx hb dX1_findSpan_128 (lv_at hl 1 rfl) ?_
              refine lv_iload hx hb dX1_findSpan_130 (lv_at hl 0 rfl) ?_
              refine zi_ineg hx hb dX1_findSpan_132 ?_
              have z1 := zdv (r := zPw Xs Ys Wt i 0 y - zPw Xs Ys Wt k 0 y - d) (c := -(2 * (Xs i - Xs k))) (by omega)
              refine zc_riS (As := [.int (iI ((zPw Xs Ys Wt i 0 y - zPw Xs Ys Wt k 0 y) - d)), .int (iI (-(2 * ((Xs i) - (Xs k)))))]) (rest := [.int (iI f), .ref (a 10)]) ⟨hx, hb, hml, hown, hts⟩ (c_J9_floorDiv_7cf53 l D _ tys cA hty ((zPw Xs Ys Wt i 0 y - zPw Xs Ys Wt k 0 y) - d) (-(2 * ((Xs i) - (Xs k)))) (by omega) (by omega)) (va_cwS 2 hts gX1_findSpan_J9_floorDiv_7cf53 rfl rfl rfl (by decide +kernel) ⟨(Nat.le_of_ble_eq_true rfl), (Nat.le_of_ble_eq_true rfl)⟩) hP hK hD hS hA [] rfl rfl rfl hl.1 rfl (Nat.le_of_ble_eq_true rfl) dX1_findSpan_133 ⟨Nat.zero_le _, Nat.zero_le _⟩ (fun H locs hP hS => ?_)
              refine zi_ineg hx hb dX1_findSpan_136 ?_
              refine zi_max hx hb (hml.trans hl.1.symm) hown (hts (.methodLink RX1 61 Lib.Math.max.name) (by decide +kernel)) (hts (.static Lib.Math.max.name) (by decide +kernel)) (hts (.initialized "java/lang/Math") (by decide +kernel)) (hts (.code Lib.Math.max.name Lib.Math.max.code 2 (some .int)) (by decide +kernel)) (Nat.le_of_ble_eq_true rfl) (Nat.le_of_ble_eq_true rfl) (Nat.zero_le _) (Nat.zero_le _) dX1_findSpan_137 (by omega) (by omega) ?_
              refine va_put (ci := 2) (v := .int (iI (max f (-(((zPw Xs Ys Wt i 0 y - zPw Xs Ys Wt k 0 y) - d) / (-(2 * ((Xs i) - (Xs k))))))))) (ty := .int) (C := RX1) (T := TX1) (N := 3) hx hb hts iz_X1_findSpan_X1 tyX1 tyX1_ok nmX1 hown hK hP hD hS 0 rfl rfl 1 (by decide) (hts (.fieldLink RX1 37 "PowerPlot$Cells" "first" "I") (by decide +kernel)) (fun _ h9 => h9) rfl (by decide +kernel) rfl rfl (Nat.le_of_ble_eq_true rfl) dX1_findSpan_140 (fun H locs hP hD hS => ?_)
              have hP : va_P D vwCl [(a 10, .inr (2, [.ref (a 1), .int (iI (max f (-(((zPw Xs Ys Wt i 0 y - zPw Xs Ys Wt k 0 y) - d) / (-(2 * ((Xs i) - (Xs k)))))))), .int (iI v)])), (a 1, .inr (5, [.ref (a 2), .ref (a 4), .ref (a 6), .ref (a 8), .int (iI N)])), (a 2, .inr (6, [.ref (a 3)])), (a 3, .inl (cA, 12, .inl (zF Xs))), (a 4, .inr (6, [.ref (a 5)])), (a 5, .inl (cA, 12, .inl (zF Ys))), (a 6, .inr (6, [.ref (a 7)])), (a 7, .inl (cA, 12, .inl (zF Wt))), (a 8, .inr (6, [.ref (a 9)])), (a 9, .inl (cA, 12, .inl (zF Cp)))] H := hP
              have hD : va_D _ [(a 10, .inr (2, [.ref (a 1), .int (iI (max f (-(((zPw Xs Ys Wt i 0 y - zPw Xs Ys Wt k 0 y) - d) / (-(2 * ((Xs i) - (Xs k)))))))), .int (iI v)])), (a 1, .inr (5, [.ref (a 2), .ref (a 4), .ref (a 6), .ref (a 8), .int (iI N)])), (a 2, .inr (6, [.ref (a 3)])), (a 3, .inl (cA, 12, .inl (zF Xs))), (a 4, .inr (6, [.ref (a 5)])), (a 5, .inl (cA, 12, .inl (zF Ys))), (a 6, .inr (6, [.ref (a 7)])), (a 7, .inl (cA, 12, .inl (zF Wt))), (a 8, .inr (6, [.ref (a 9)])), (a 9, .inl (cA, 12, .inl (zF Cp)))] := hD
              refine lv_goto (tgt := 156) hx hb dX1_findSpan_143 (by decide) ?_
              refine lv_iinc (v := iI (i + 1)) (lv' := [(4, .int (iI (i + 1))), (6, .int (iI (2 * ((Xs i) - (Xs k))))), (5, .int (iI ((zPw Xs Ys Wt i 0 y - zPw Xs Ys Wt k 0 y) - d))), (0, .ref (a 10)), (1, .int (iI k)), (2, .int (iI y)), (3, .int (iI (zPw Xs Ys Wt k 0 y)))]) hx hb dX1_findSpan_156 hl (k := 6) rfl (iI_add i 1) (by decide) rfl (fun ls hl => ?_)
              refine lv_goto (tgt := 25) hx hb dX1_findSpan_159 (by decide) ?_
              exact ih25 (i + 1) (max f (-(((zPw Xs Ys Wt i 0 y - zPw Xs Ys Wt k 0 y) - d) / (-(2 * ((Xs i) - (Xs k))))))) v (by omega) (by omega) (by first | exact zSpan_p h2 h1.1 (by rw [gd]) rfl q9 (by omega) | exact zSpan_n h2 h1.1 (by rw [gd]) rfl q9 (by omega) | exact (zSpan_z (r := zPw Xs Ys Wt i 0 y - zPw Xs Ys Wt k 0 y - d) h2 h1.1 (by rw [gd]) rfl (by omega)).1 (by omega) | exact (zSpan_z (r := zPw Xs Ys Wt i 0 y - zPw Xs Ys Wt k 0 y - d) h2 h1.1 (by rw [gd]) rfl (by omega)).2 (by omega)) _ _ _ hP hD hS (lv_sub hl [3, 4, 5, 6, 0] rfl)
          · skip
            refine lv_aload_n hx hb dX1_findSpan_97 rfl (lv_at hl 2 rfl) ?_
            refine lv_aload_n hx hb dX1_findSpan_98 rfl (lv_at hl 2 rfl) ?_
            refine va_get (ci := 2) (v := .int (iI v)) (C := RX1) (T := TX1) (N := 3) hx hb hts iz_X1_findSpan_X1 hown hK hP 0 rfl rfl 2 (by decide) (hts (.fieldLink RX1 40 "PowerPlot$Cells" "last" "I") (by decide +kernel)) (fun _ h9 => h9) rfl dX1_findSpan_99 ?_
            refine lv_iload hx hb dX1_findSpan_102 (lv_at hl 1 rfl) ?_
            refine lv_iload hx hb dX1_findSpan_104 (lv_at hl 0 rfl) ?_
            have z1 := zdv (r := zPw Xs Ys Wt i 0 y - zPw Xs Ys Wt k 0 y - d) (c := 2 * (Xs i - Xs k)) (by omega)
            refine zc_riS (As := [.int (iI ((zPw Xs Ys Wt i 0 y - zPw Xs Ys Wt k 0 y) - d)), .int (iI (2 * ((Xs i) - (Xs k))))]) (rest := [.int (iI v), .ref (a 10)]) ⟨hx, hb, hml, hown, hts⟩ (c_J9_floorDiv_7cf53 l D _ tys cA hty ((zPw Xs Ys Wt i 0 y - zPw Xs Ys Wt k 0 y) - d) (2 * ((Xs i) - (Xs k))) (by omega) (by omega)) (va_cwS 2 hts gX1_findSpan_J9_floorDiv_7cf53 rfl rfl rfl (by decide +kernel) ⟨(Nat.le_of_ble_eq_true rfl), (Nat.le_of_ble_eq_true rfl)⟩) hP hK hD hS hA [] rfl rfl rfl hl.1 rfl (Nat.le_of_ble_eq_true rfl) dX1_findSpan_106 ⟨Nat.zero_le _, Nat.zero_le _⟩ (fun H locs hP hS => ?_)
            refine zi_min hx hb (hml.trans hl.1.symm) hown (hts (.methodLink RX1 58 Lib.Math.min.name) (by decide +kernel)) (hts (.static Lib.Math.min.name) (by decide +kernel)) (hts (.initialized "java/lang/Math") (by decide +kernel)) (hts (.code Lib.Math.min.name Lib.Math.min.code 2 (some .int)) (by decide +kernel)) (Nat.le_of_ble_eq_true rfl) (Nat.le_of_ble_eq_true rfl) (Nat.zero_le _) (Nat.zero_le _) dX1_findSpan_109 (by omega) (by omega) ?_
            refine va_put (ci := 2) (v := .int (iI (min v (((zPw Xs Ys Wt i 0 y - zPw Xs Ys Wt k 0 y) - d) / (2 * ((Xs i) - (Xs k))))))) (ty := .int) (C := RX1) (T := TX1) (N := 3) hx hb hts iz_X1_findSpan_X1 tyX1 tyX1_ok nmX1 hown hK hP hD hS 0 rfl rfl 2 (by decide) (hts (.fieldLink RX1 40 "PowerPlot$Cells" "last" "I") (by decide +kernel)) (fun _ h9 => h9) rfl (by decide +kernel) rfl rfl (Nat.le_of_ble_eq_true rfl) dX1_findSpan_112 (fun H locs hP hD hS => ?_)
            have hP : va_P D vwCl [(a 10, .inr (2, [.ref (a 1), .int (iI f), .int (iI (min v (((zPw Xs Ys Wt i 0 y - zPw Xs Ys Wt k 0 y) - d) / (2 * ((Xs i) - (Xs k))))))])), (a 1, .inr (5, [.ref (a 2), .ref (a 4), .ref (a 6), .ref (a 8), .int (iI N)])), (a 2, .inr (6, [.ref (a 3)])), (a 3, .inl (cA, 12, .inl (zF Xs))), (a 4, .inr (6, [.ref (a 5)])), (a 5, .inl (cA, 12, .inl (zF Ys))), (a 6, .inr (6, [.ref (a 7)])), (a 7, .inl (cA, 12, .inl (zF Wt))), (a 8, .inr (6, [.ref (a 9)])), (a 9, .inl (cA, 12, .inl (zF Cp)))] H := hP
            have hD : va_D _ [(a 10, .inr (2, [.ref (a 1), .int (iI f), .int (iI (min v (((zPw Xs Ys Wt i 0 y - zPw Xs Ys Wt k 0 y) - d) / (2 * ((Xs i) - (Xs k))))))])), (a 1, .inr (5, [.ref (a 2), .ref (a 4), .ref (a 6), .ref (a 8), .int (iI N)])), (a 2, .inr (6, [.ref (a 3)])), (a 3, .inl (cA, 12, .inl (zF Xs))), (a 4, .inr (6, [.ref (a 5)])), (a 5, .inl (cA, 12, .inl (zF Ys))), (a 6, .inr (6, [.ref (a 7)])), (a 7, .inl (cA, 12, .inl (zF Wt))), (a 8, .inr (6, [.ref (a 9)])), (a 9, .inl (cA, 12, .inl (zF Cp)))] := hD
            refine lv_goto (tgt := 156) hx hb dX1_findSpan_115 (by decide) ?_
            refine lv_iinc (v := iI (i + 1)) (lv' := [(4, .int (iI (i + 1))), (6, .int (iI (2 * ((Xs i) - (Xs k))))), (5, .int (iI ((zPw Xs Ys Wt i 0 y - zPw Xs Ys Wt k 0 y) - d))), (0, .ref (a 10)), (1, .int (iI k)), (2, .int (iI y)), (3, .int (iI (zPw Xs Ys Wt k 0 y)))]) hx hb dX1_findSpan_156 hl (k := 6) rfl (iI_add i 1) (by decide) rfl (fun ls hl => ?_)
            refine lv_goto (tgt := 25) hx hb dX1_findSpan_159 (by decide) ?_
            exact ih25 (i + 1) f (min v (((zPw Xs Ys Wt i 0 y - zPw Xs Ys Wt k 0 y) - d) / (2 * ((Xs i) - (Xs k))))) (by omega) (by omega) (by first | exact zSpan_p h2 h1.1 (by rw [gd]) rfl q9 (by omega) | exact zSpan_n h2 h1.1 (by rw [gd]) rfl q9 (by omega) | exact (zSpan_z (r := zPw Xs Ys Wt i 0 y - zPw Xs Ys Wt k 0 y - d) h2 h1.1 (by rw [gd]) rfl (by omega)).1 (by omega) | exact (zSpan_z (r := zPw Xs Ys Wt i 0 y - zPw Xs Ys Wt k 0 y - d) h2 h1.1 (by rw [gd]) rfl (by omega)).2 (by omega)) _ _ _ hP hD hS (lv_sub hl [3, 4, 5, 6, 0] rfl)
        refine zi_icmp_ge (tgt := 60) hx hb dX1_findSpan_53 (by decide) (by omega) (by omega) (fun c53 => ?_) (fun c53 => ?_)
        · skip
          refine lv_iconst (v := iI 0) hx hb dX1_findSpan_60 rfl ?_
          exact J61 0 (by first | exact (bI_t (by omega)).symm | exact (bI_f (by omega)).symm) _ _ _ hP hD hS (lv_sub hl [0, 1, 2, 3, 4] rfl)
        · skip
          refine lv_iconst (v := iI 1) hx hb dX1_findSpan_56 rfl ?_
          refine lv_goto (tgt := 61) hx hb dX1_findSpan_57 (by decide) ?_
          exact J61 1 (by first | exact (bI_t (by omega)).symm | exact (bI_f (by omega)).symm) _ _ _ hP hD hS (lv_sub hl [0, 1, 2, 3, 4] rfl)
  exact L25 (((N - 0 : Int)).toNat + 1) 0 0 40 (by omega) (by omega) (zSpan_0 Xs Ys Wt k y) _ _ _ hP hD hS (lv_sub hl [2, 3, 4, 1, 0] rfl)
set_option maxHeartbeats 4000000 in
set_option maxRecDepth 100000 in
/-- Cells.countByRows -/
theorem c_X1_countByRows (l : Launch) (D : va_G) (sz : Nat) (tys : List (ClassId × FieldType)) (cA : ClassId) (hty : tys[0]? = some (cA, .int)) (a : Nat → Nat) (N : Int) (Xs Ys Wt Cp : Int → Int) (cf cl : Int) (k : Int) (gB : zBd Xs Ys Wt) (gN : 0 ≤ N ∧ N ≤ 12) (gk : 0 ≤ k ∧ k < N) : Met l yX1_countByRows wsX1_countByRows ({ frames := 3, cells := 0, slots := 0, locals := 72 }) (zP D [.ref (a 10), .int (iI k)] sz [(a 10, .inr (2, [.ref (a 1), .int (iI cf), .int (iI cl)])), (a 1, .inr (5, [.ref (a 2), .ref (a 4), .ref (a 6), .ref (a 8), .int (iI N)])), (a 2, .inr (6, [.ref (a 3)])), (a 3, .inl (cA, 12, .inl (zF Xs))), (a 4, .inr (6, [.ref (a 5)])), (a 5, .inl (cA, 12, .inl (zF Ys))), (a 6, .inr (6, [.ref (a 7)])), (a 7, .inl (cA, 12, .inl (zF Wt))), (a 8, .inr (6, [.ref (a 9)])), (a 9, .inl (cA, 12, .inl (zF Cp)))] tys) (zWi (fun (u : Int × Int) => zSh Xs Ys Wt N k) (fun (u : Int × Int) => True) D (fun (u : Int × Int) => [(a 10, .inr (2, [.ref (a 1), .int (iI u.1), .int (iI u.2)])), (a 1, .inr (5, [.ref (a 2), .ref (a 4), .ref (a 6), .ref (a 8), .int (iI N)])), (a 2, .inr (6, [.ref (a 3)])), (a 3, .inl (cA, 12, .inl (zF Xs))), (a 4, .inr (6, [.ref (a 5)])), (a 5, .inl (cA, 12, .inl (zF Ys))), (a 6, .inr (6, [.ref (a 7)])), (a 7, .inl (cA, 12, .inl (zF Wt))), (a 8, .inr (6, [.ref (a 9)])), (a 9, .inl (cA, 12, .inl (zF Cp)))]) [(a 10, .inr (2, [.ref (a 1), .int (iI cf), .int (iI cl)])), (a 1, .inr (5, [.ref (a 2), .ref (a 4), .ref (a 6), .ref (a 8), .int (iI N)])), (a 2, .inr (6, [.ref (a 3)])), (a 3, .inl (cA, 12, .inl (zF Xs))), (a 4, .inr (6, [.ref (a 5)])), (a 5, .inl (cA, 12, .inl (zF Ys))), (a 6, .inr (6, [.ref (a 7)])), (a 7, .inl (cA, 12, .inl (zF Wt))), (a 8, .inr (6, [.ref (a 9)])), (a 9, .inl (cA, 12, .inl (zF Cp)))] sz) 0 0 (va_A [(a 10, .inr (2, [.ref (a 1), .int (iI cf), .int (iI cl)])), (a 1, .inr (5, [.ref (a 2), .ref (a 4), .ref (a 6), .ref (a 8), .int (iI N)])), (a 2, .inr (6, [.ref (a 3)])), (a 3, .inl (cA, 12, .inl (zF Xs))), (a 4, .inr (6, [.ref (a 5)])), (a 5, .inl (cA, 12, .inl (zF Ys))), (a 6, .inr (6, [.ref (a 7)])), (a 7, .inl (cA, 12, .inl (zF Wt))), (a 8, .inr (6, [.ref (a 9)])), (a 9, .inl (cA, 12, .inl (zF Cp)))] sz) := by
  refine Met.ofW (cc := cX1_countByRows) (maxL := 4) (ret := (some .int)) (by decide +kernel) rfl ?_
  intro p e s m args below meth c s₁ B hml hv
  obtain ⟨rfl, hsz, hP, hK, hD0⟩ := hv
  have hx := B.exec
  have hb := B.bytes
  have hr := B.returns
  have hts := atoms_spec (ws := wsX1_countByRows) B.pre
  have hown : s.vm.findClass RX1 = some m.cls := findClass_of_methodNamed B.named
  have hlocks := B.notSynchronized
  subst hsz
  have hD : va_D (va_A [(a 10, .inr (2, [.ref (a 1), .int (iI cf), .int (iI cl)])), (a 1, .inr (5, [.ref (a 2), .ref (a 4), .ref (a 6), .ref (a 8), .int (iI N)])), (a 2, .inr (6, [.ref (a 3)])), (a 3, .inl (cA, 12, .inl (zF Xs))), (a 4, .inr (6, [.ref (a 5)])), (a 5, .inl (cA, 12, .inl (zF Ys))), (a 6, .inr (6, [.ref (a 7)])), (a 7, .inl (cA, 12, .inl (zF Wt))), (a 8, .inr (6, [.ref (a 9)])), (a 9, .inl (cA, 12, .inl (zF Cp)))] s.heap.size) [(a 10, .inr (2, [.ref (a 1), .int (iI cf), .int (iI cl)])), (a 1, .inr (5, [.ref (a 2), .ref (a 4), .ref (a 6), .ref (a 8), .int (iI N)])), (a 2, .inr (6, [.ref (a 3)])), (a 3, .inl (cA, 12, .inl (zF Xs))), (a 4, .inr (6, [.ref (a 5)])), (a 5, .inl (cA, 12, .inl (zF Ys))), (a 6, .inr (6, [.ref (a 7)])), (a 7, .inl (cA, 12, .inl (zF Wt))), (a 8, .inr (6, [.ref (a 9)])), (a 9, .inl (cA, 12, .inl (zF Cp)))] := hD0.self
  have hS : va_S (va_A [(a 10, .inr (2, [.ref (a 1), .int (iI cf), .int (iI cl)])), (a 1, .inr (5, [.ref (a 2), .ref (a 4), .ref (a 6), .ref (a 8), .int (iI N)])), (a 2, .inr (6, [.ref (a 3)])), (a 3, .inl (cA, 12, .inl (zF Xs))), (a 4, .inr (6, [.ref (a 5)])), (a 5, .inl (cA, 12, .inl (zF Ys))), (a 6, .inr (6, [.ref (a 7)])), (a 7, .inl (cA, 12, .inl (zF Wt))), (a 8, .inr (6, [.ref (a 9)])), (a 9, .inl (cA, 12, .inl (zF Cp)))] s.heap.size) s.heap s.heap [] := va_S.rf
  have hA : ∀ q9 : Nat, s.heap.size ≤ q9 → (va_A [(a 10, .inr (2, [.ref (a 1), .int (iI cf), .int (iI cl)])), (a 1, .inr (5, [.ref (a 2), .ref (a 4), .ref (a 6), .ref (a 8), .int (iI N)])), (a 2, .inr (6, [.ref (a 3)])), (a 3, .inl (cA, 12, .inl (zF Xs))), (a 4, .inr (6, [.ref (a 5)])), (a 5, .inl (cA, 12, .inl (zF Ys))), (a 6, .inr (6, [.ref (a 7)])), (a 7, .inl (cA, 12, .inl (zF Wt))), (a 8, .inr (6, [.ref (a 9)])), (a 9, .inl (cA, 12, .inl (zF Cp)))] s.heap.size) q9 := fun q9 h => Or.inr h
  have hl := lv_entry ([.ref (a 10), .int (iI k)]) (n := 4) (Nat.le_of_ble_eq_true rfl)
  rw [lg_entry_eq]
  generalize (lg_sl ([.ref (a 10), .int (iI k)]) ++ List.replicate (4 - (lg_sl ([.ref (a 10), .int (iI k)])).length) Slot.unset).toArray = ls at hl ⊢
  have hl : lv_has ls 4 [(0, .ref (a 10)), (1, .int (iI k))] := hl
  refine lv_iconst (v := iI 0) hx hb dX1_countByRows_0 rfl ?_
  refine lv_istore_n (lv' := [(2, .int (iI 0)), (0, .ref (a 10)), (1, .int (iI k))]) hx hb dX1_countByRows_1 rfl hl (by decide) rfl (fun ls hl => ?_)
  refine lv_iconst (v := iI 0) hx hb dX1_countByRows_2 rfl ?_
  refine lv_istore_n (lv' := [(3, .int (iI 0)), (2, .int (iI 0)), (0, .ref (a 10)), (1, .int (iI k))]) hx hb dX1_countByRows_3 rfl hl (by decide) rfl (fun ls hl => ?_)
  have L4 : ∀ (n : Nat) (i : Int) (pts : Int) (f : Int) (v : Int), (41 - i < (n : Int)) → (0 ≤ i ∧ i ≤ 41) → (pts = zSm (fun y => zRw Xs Ys Wt N k y) i) → (0 ≤ pts ∧ pts ≤ 41 * i) → ∀ (H : Heap) (locs : List Loc) (ls : Array Slot), va_P D vwCl [(a 10, .inr (2, [.ref (a 1), .int (iI f), .int (iI v)])), (a 1, .inr (5, [.ref (a 2), .ref (a 4), .ref (a 6), .ref (a 8), .int (iI N)])), (a 2, .inr (6, [.ref (a 3)])), (a 3, .inl (cA, 12, .inl (zF Xs))), (a 4, .inr (6, [.ref (a 5)])), (a 5, .inl (cA, 12, .inl (zF Ys))), (a 6, .inr (6, [.ref (a 7)])), (a 7, .inl (cA, 12, .inl (zF Wt))), (a 8, .inr (6, [.ref (a 9)])), (a 9, .inl (cA, 12, .inl (zF Cp)))] H → va_D (va_A [(a 10, .inr (2, [.ref (a 1), .int (iI cf), .int (iI cl)])), (a 1, .inr (5, [.ref (a 2), .ref (a 4), .ref (a 6), .ref (a 8), .int (iI N)])), (a 2, .inr (6, [.ref (a 3)])), (a 3, .inl (cA, 12, .inl (zF Xs))), (a 4, .inr (6, [.ref (a 5)])), (a 5, .inl (cA, 12, .inl (zF Ys))), (a 6, .inr (6, [.ref (a 7)])), (a 7, .inl (cA, 12, .inl (zF Wt))), (a 8, .inr (6, [.ref (a 9)])), (a 9, .inl (cA, 12, .inl (zF Cp)))] s.heap.size) [(a 10, .inr (2, [.ref (a 1), .int (iI f), .int (iI v)])), (a 1, .inr (5, [.ref (a 2), .ref (a 4), .ref (a 6), .ref (a 8), .int (iI N)])), (a 2, .inr (6, [.ref (a 3)])), (a 3, .inl (cA, 12, .inl (zF Xs))), (a 4, .inr (6, [.ref (a 5)])), (a 5, .inl (cA, 12, .inl (zF Ys))), (a 6, .inr (6, [.ref (a 7)])), (a 7, .inl (cA, 12, .inl (zF Wt))), (a 8, .inr (6, [.ref (a 9)])), (a 9, .inl (cA, 12, .inl (zF Cp)))] → va_S (va_A [(a 10, .inr (2, [.ref (a 1), .int (iI cf), .int (iI cl)])), (a 1, .inr (5, [.ref (a 2), .ref (a 4), .ref (a 6), .ref (a 8), .int (iI N)])), (a 2, .inr (6, [.ref (a 3)])), (a 3, .inl (cA, 12, .inl (zF Xs))), (a 4, .inr (6, [.ref (a 5)])), (a 5, .inl (cA, 12, .inl (zF Ys))), (a 6, .inr (6, [.ref (a 7)])), (a 7, .inl (cA, 12, .inl (zF Wt))), (a 8, .inr (6, [.ref (a 9)])), (a 9, .inl (cA, 12, .inl (zF Cp)))] s.heap.size) s.heap H locs → lv_has ls 4 [(0, .ref (a 10)), (1, .int (iI k)), (2, .int (iI pts)), (3, .int (iI i))] → W p l e (headSpec wsX1_countByRows ({ frames := 3, cells := 0, slots := 0, locals := 72 })).room s m ([.ref (a 10), .int (iI k)] : List Value).toArray below meth c H locs 0 0 (MQ below (zWi (fun (u : Int × Int) => zSh Xs Ys Wt N k) (fun (u : Int × Int) => True) D (fun (u : Int × Int) => [(a 10, .inr (2, [.ref (a 1), .int (iI u.1), .int (iI u.2)])), (a 1, .inr (5, [.ref (a 2), .ref (a 4), .ref (a 6), .ref (a 8), .int (iI N)])), (a 2, .inr (6, [.ref (a 3)])), (a 3, .inl (cA, 12, .inl (zF Xs))), (a 4, .inr (6, [.ref (a 5)])), (a 5, .inl (cA, 12, .inl (zF Ys))), (a 6, .inr (6, [.ref (a 7)])), (a 7, .inl (cA, 12, .inl (zF Wt))), (a 8, .inr (6, [.ref (a 9)])), (a 9, .inl (cA, 12, .inl (zF Cp)))]) [(a 10, .inr (2, [.ref (a 1), .int (iI cf), .int (iI cl)])), (a 1, .inr (5, [.ref (a 2), .ref (a 4), .ref (a 6), .ref (a 8), .int (iI N)])), (a 2, .inr (6, [.ref (a 3)])), (a 3, .inl (cA, 12, .inl (zF Xs))), (a 4, .inr (6, [.ref (a 5)])), (a 5, .inl (cA, 12, .inl (zF Ys))), (a 6, .inr (6, [.ref (a 7)])), (a 7, .inl (cA, 12, .inl (zF Wt))), (a 8, .inr (6, [.ref (a 9)])), (a 9, .inl (cA, 12, .inl (zF Cp)))] s.heap.size) ([.ref (a 10), .int (iI k)] : List Value).toArray s 0 0 (va_A [(a 10, .inr (2, [.ref (a 1), .int (iI cf), .int (iI cl)])), (a 1, .inr (5, [.ref (a 2), .ref (a 4), .ref (a 6), .ref (a 8), .int (iI N)])), (a 2, .inr (6, [.ref (a 3)])), (a 3, .inl (cA, 12, .inl (zF Xs))), (a 4, .inr (6, [.ref (a 5)])), (a 5, .inl (cA, 12, .inl (zF Ys))), (a 6, .inr (6, [.ref (a 7)])), (a 7, .inl (cA, 12, .inl (zF Wt))), (a 8, .inr (6, [.ref (a 9)])), (a 9, .inl (cA, 12, .inl (zF Cp)))] s.heap.size)) (F0 m 4 ls []) := by
    intro n
    induction n with
    | zero =>
      intro i pts f v hn9 h1 h2 h3 H locs ls hP hD hS hl
      exact absurd hn9 (by omega)
    | succ n ih4 =>
      intro i pts f v hn9 h1 h2 h3 H locs ls hP hD hS hl
      refine lv_iload_n hx hb dX1_countByRows_4 rfl (lv_at hl 3 rfl) ?_
      refine lv_bipush (v := iI 40) hx hb dX1_countByRows_5 (by decide +kernel) ?_
      refine zi_icmp_gt (tgt := 29) hx hb dX1_countByRows_7 (by decide) (by omega) (by omega) (fun c7 => ?_) (fun c7 => ?_)
      · skip
        refine lv_iload_n hx hb dX1_countByRows_29 rfl (lv_at hl 2 rfl) ?_
        exact W.iret (v := iI pts) hx hb hr (fun t ht hW => ⟨⟨iI pts, (f, v), rfl, ⟨congrArg iI (by rw [h2, show i = 41 by omega]; rfl), trivial⟩, ⟨by rw [ht]; exact hP, hD⟩⟩, hS.F ht⟩) hS.2.2 dX1_countByRows_30
      · skip
        refine lv_aload_n hx hb dX1_countByRows_10 rfl (lv_at hl 0 rfl) ?_
        refine lv_iload_n hx hb dX1_countByRows_11 rfl (lv_at hl 1 rfl) ?_
        refine lv_iload_n hx hb dX1_countByRows_12 rfl (lv_at hl 3 rfl) ?_
        refine zc_wv (wr := []) (As := [.int (iI k), .int (iI i)]) (rest := []) ⟨hx, hb, hml, hown, hts⟩ (c_X1_findSpan l D _ tys cA hty a N Xs Ys Wt Cp f v k i gB gN (by omega) (by omega)) (cwV 2 hts gX1_countByRows_X1_findSpan rfl rfl rfl (by decide +kernel) ⟨(Nat.le_of_ble_eq_true rfl), (Nat.le_of_ble_eq_true rfl)⟩) hP hK hD hS hA [0, 1, 2, 3, 4, 5, 6, 7, 8, 9] rfl rfl rfl rfl [] [0, 1, 2, 3, 4, 5, 6, 7, 8, 9] rfl rfl (by decide) (fun _ => rfl) rfl rfl hl.1 rfl (Nat.le_of_ble_eq_true rfl) dX1_countByRows_13 ⟨Nat.zero_le _, Nat.zero_le _⟩ (ws1 := fun (u9 : Int × Int) => [(a 10, .inr (2, [.ref (a 1), .int (iI u9.1), .int (iI u9.2)])), (a 1, .inr (5, [.ref (a 2), .ref (a 4), .ref (a 6), .ref (a 8), .int (iI N)])), (a 2, .inr (6, [.ref (a 3)])), (a 3, .inl (cA, 12, .inl (zF Xs))), (a 4, .inr (6, [.ref (a 5)])), (a 5, .inl (cA, 12, .inl (zF Ys))), (a 6, .inr (6, [.ref (a 7)])), (a 7, .inl (cA, 12, .inl (zF Wt))), (a 8, .inr (6, [.ref (a 9)])), (a 9, .inl (cA, 12, .inl (zF Cp)))]) (fun u13 H locs w13 hP hD hS => ?_)
        obtain ⟨f13, v13⟩ := u13
        have w13 : zSpan Xs Ys Wt k i N f13 v13 := w13
        have hP : va_P D vwCl [(a 10, .inr (2, [.ref (a 1), .int (iI f13), .int (iI v13)])), (a 1, .inr (5, [.ref (a 2), .ref (a 4), .ref (a 6), .ref (a 8), .int (iI N)])), (a 2, .inr (6, [.ref (a 3)])), (a 3, .inl (cA, 12, .inl (zF Xs))), (a 4, .inr (6, [.ref (a 5)])), (a 5, .inl (cA, 12, .inl (zF Ys))), (a 6, .inr (6, [.ref (a 7)])), (a 7, .inl (cA, 12, .inl (zF Wt))), (a 8, .inr (6, [.ref (a 9)])), (a 9, .inl (cA, 12, .inl (zF Cp)))] H := hP
        have hD : va_D _ [(a 10, .inr (2, [.ref (a 1), .int (iI f13), .int (iI v13)])), (a 1, .inr (5, [.ref (a 2), .ref (a 4), .ref (a 6), .ref (a 8), .int (iI N)])), (a 2, .inr (6, [.ref (a 3)])), (a 3, .inl (cA, 12, .inl (zF Xs))), (a 4, .inr (6, [.ref (a 5)])), (a 5, .inl (cA, 12, .inl (zF Ys))), (a 6, .inr (6, [.ref (a 7)])), (a 7, .inl (cA, 12, .inl (zF Wt))), (a 8, .inr (6, [.ref (a 9)])), (a 9, .inl (cA, 12, .inl (zF Cp)))] := hD
        refine lv_iload_n hx hb dX1_countByRows_16 rfl (lv_at hl 2 rfl) ?_
        refine lv_aload_n hx hb dX1_countByRows_17 rfl (lv_at hl 0 rfl) ?_
        refine zc_ri (As := []) (rest := [.int (iI pts)]) ⟨hx, hb, hml, hown, hts⟩ (c_X1_width l D _ tys cA hty a N Xs Ys Wt Cp f13 v13 (by have z3 := w13.1; have z4 := w13.2.1; omega) (by have z3 := w13.2.2.1; have z4 := w13.2.2.2.1; omega)) (cwV 0 hts gX1_countByRows_X1_width rfl rfl rfl (by decide +kernel) ⟨(Nat.le_of_ble_eq_true rfl), (Nat.le_of_ble_eq_true rfl)⟩) hP hK hD hS hA [0, 1, 2, 3, 4, 5, 6, 7, 8, 9] rfl rfl rfl rfl rfl hl.1 rfl (Nat.le_of_ble_eq_true rfl) dX1_countByRows_18 ⟨Nat.zero_le _, Nat.zero_le _⟩ (fun H locs hP hS => ?_)
        refine zi_iadd hx hb dX1_countByRows_21 ?_
        refine lv_istore_n (lv' := [(2, .int (iI (pts + (max 0 (v13 - f13 + 1))))), (0, .ref (a 10)), (1, .int (iI k)), (3, .int (iI i))]) hx hb dX1_countByRows_22 rfl hl (by decide) rfl (fun ls hl => ?_)
        refine lv_iinc (v := iI (i + 1)) (lv' := [(3, .int (iI (i + 1))), (2, .int (iI (pts + (max 0 (v13 - f13 + 1))))), (0, .ref (a 10)), (1, .int (iI k))]) hx hb dX1_countByRows_23 hl (k := 3) rfl (iI_add i 1) (by decide) rfl (fun ls hl => ?_)
        refine lv_goto (tgt := 4) hx hb dX1_countByRows_26 (by decide) ?_
        exact ih4 (i + 1) (pts + (max 0 (v13 - f13 + 1))) f13 v13 (by omega) (by omega) (by rw [zSm_s _ h1.1, zSpan_w gk w13, h2]) (by rw [zSpan_w gk w13]; have z2 := zRw_rg Xs Ys Wt N k i; omega) _ _ _ hP hD hS (lv_sub hl [2, 3, 1, 0] rfl)
  exact L4 (((41 - 0 : Int)).toNat + 1) 0 0 cf cl (by omega) (by omega) rfl (by omega) _ _ _ hP hD hS (lv_sub hl [2, 3, 1, 0] rfl)
