theorem iz_X8_counts_X8 : ∀ w ∈ u_ws RX8 TX8 17, w ∈ wsX8_counts := by decide +kernel
set_option maxHeartbeats 4000000 in
set_option maxRecDepth 100000 in
/-- PowerPlotModel.counts -/
theorem c_X8_counts (l : Launch) (D : va_G) (sz : Nat) (tys : List (ClassId × FieldType)) (cA : ClassId) (hty : tys[0]? = some (cA, .int)) (q : Nat → Nat) (th N : Int) (Xs Ys Wt Cp sh kp : Int → Int) (iu ax ay ri lT lL hT hL ig : Int) (gB : zBd Xs Ys Wt) (gN : 0 ≤ N ∧ N ≤ 12) (gC : ∀ i : Int, 0 ≤ Cp i ∧ Cp i ≤ 1681) : Met l yX8_counts wsX8_counts ({ frames := 2, cells := 0, slots := 0, locals := 47 }) (zP D [.ref (q 0)] sz [(q 0, .inr (9, [.int (iI th), .int (iI N), .ref (q 1), .ref (q 2), .ref (q 3), .ref (q 4), .ref (q 5), .ref (q 6), .int (iI iu), .int (iI ax), .int (iI ay), .int (iI ri), .long (lI lT), .long (lI lL), .long (lI hT), .long (lI hL), .int (iI ig)])), (q 1, .inl (cA, 12, .inl (zF Xs))), (q 2, .inl (cA, 12, .inl (zF Ys))), (q 3, .inl (cA, 12, .inl (zF Wt))), (q 4, .inl (cA, 12, .inl (zF Cp))), (q 5, .inl (cA, 12, .inl (zF sh))), (q 6, .inl (cA, 12, .inl (zF kp)))] tys) (zWi (fun (u : (Int → Int)) => zDi Xs Ys Wt Cp N) (fun (u : (Int → Int)) => ∀ k : Int, 0 ≤ k → k < N → u k = zSh Xs Ys Wt N k) D (fun (u : (Int → Int)) => [(q 0, .inr (9, [.int (iI th), .int (iI N), .ref (q 1), .ref (q 2), .ref (q 3), .ref (q 4), .ref (q 5), .ref (q 6), .int (iI iu), .int (iI ax), .int (iI ay), .int (iI ri), .long (lI lT), .long (lI lL), .long (lI hT), .long (lI hL), .int (iI ig)])), (q 1, .inl (cA, 12, .inl (zF Xs))), (q 2, .inl (cA, 12, .inl (zF Ys))), (q 3, .inl (cA, 12, .inl (zF Wt))), (q 4, .inl (cA, 12, .inl (zF Cp))), (q 5, .inl (cA, 12, .inl (zF u))), (q 6, .inl (cA, 12, .inl (zF kp)))]) [(q 0, .inr (9, [.int (iI th), .int (iI N), .ref (q 1), .ref (q 2), .ref (q 3), .ref (q 4), .ref (q 5), .ref (q 6), .int (iI iu), .int (iI ax), .int (iI ay), .int (iI ri), .long (lI lT), .long (lI lL), .long (lI hT), .long (lI hL), .int (iI ig)])), (q 1, .inl (cA, 12, .inl (zF Xs))), (q 2, .inl (cA, 12, .inl (zF Ys))), (q 3, .inl (cA, 12, .inl (zF Wt))), (q 4, .inl (cA, 12, .inl (zF Cp))), (q 5, .inl (cA, 12, .inl (zF sh))), (q 6, .inl (cA, 12, .inl (zF kp)))] sz) 0 0 (va_A [(q 0, .inr (9, [.int (iI th), .int (iI N), .ref (q 1), .ref (q 2), .ref (q 3), .ref (q 4), .ref (q 5), .ref (q 6), .int (iI iu), .int (iI ax), .int (iI ay), .int (iI ri), .long (lI lT), .long (lI lL), .long (lI hT), .long (lI hL), .int (iI ig)])), (q 1, .inl (cA, 12, .inl (zF Xs))), (q 2, .inl (cA, 12, .inl (zF Ys))), (q 3, .inl (cA, 12, .inl (zF Wt))), (q 4, .inl (cA, 12, .inl (zF Cp))), (q 5, .inl (cA, 12, .inl (zF sh))), (q 6, .inl (cA, 12, .inl (zF kp)))] sz) := by
  refine Met.ofW (cc := cX8_counts) (maxL := 3) (ret := (some .int)) (by decide +kernel) rfl ?_
  intro p e s m args below meth c s₁ B hml hv
  obtain ⟨rfl, hsz, hP, hK, hD0⟩ := hv
  have hx := B.exec
  have hb := B.bytes
  have hr := B.returns
  have hts := atoms_spec (ws := wsX8_counts) B.pre
  have hown : s.vm.findClass RX8 = some m.cls := findClass_of_methodNamed B.named
  have hlocks := B.notSynchronized
  subst hsz
  have hD : va_D (va_A [(q 0, .inr (9, [.int (iI th), .int (iI N), .ref (q 1), .ref (q 2), .ref (q 3), .ref (q 4), .ref (q 5), .ref (q 6), .int (iI iu), .int (iI ax), .int (iI ay), .int (iI ri), .long (lI lT), .long (lI lL), .long (lI hT), .long (lI hL), .int (iI ig)])), (q 1, .inl (cA, 12, .inl (zF Xs))), (q 2, .inl (cA, 12, .inl (zF Ys))), (q 3, .inl (cA, 12, .inl (zF Wt))), (q 4, .inl (cA, 12, .inl (zF Cp))), (q 5, .inl (cA, 12, .inl (zF sh))), (q 6, .inl (cA, 12, .inl (zF kp)))] s.heap.size) [(q 0, .inr (9, [.int (iI th), .int (iI N), .ref (q 1), .ref (q 2), .ref (q 3), .ref (q 4), .ref (q 5), .ref (q 6), .int (iI iu), .int (iI ax), .int (iI ay), .int (iI ri), .long (lI lT), .long (lI lL), .long (lI hT), .long (lI hL), .int (iI ig)])), (q 1, .inl (cA, 12, .inl (zF Xs))), (q 2, .inl (cA, 12, .inl (zF Ys))), (q 3, .inl (cA, 12, .inl (zF Wt))), (q 4, .inl (cA, 12, .inl (zF Cp))), (q 5, .inl (cA, 12, .inl (zF sh))), (q 6, .inl (cA, 12, .inl (zF kp)))] := hD0.self
  have hS : va_S (va_A [(q 0, .inr (9, [.int (iI th), .int (iI N), .ref (q 1), .ref (q 2), .ref (q 3), .ref (q 4), .ref (q 5), .ref (q 6), .int (iI iu), .int (iI ax), .int (iI ay), .int (iI ri), .long (lI lT), .long (lI lL), .long (lI hT), .long (lI hL), .int (iI ig)])), (q 1, .inl (cA, 12, .inl (zF Xs))), (q 2, .inl (cA, 12, .inl (zF Ys))), (q 3, .inl (cA, 12, .inl (zF Wt))), (q 4, .inl (cA, 12, .inl (zF Cp))), (q 5, .inl (cA, 12, .inl (zF sh))), (q 6, .inl (cA, 12, .inl (zF kp)))] s.heap.size) s.heap s.heap [] := va_S.rf
  have hA : ∀ q9 : Nat, s.heap.size ≤ q9 → (va_A [(q 0, .inr (9, [.int (iI th), .int (iI N), .ref (q 1), .ref (q 2), .ref (q 3), .ref (q 4), .ref (q 5), .ref (q 6), .int (iI iu), .int (iI ax), .int (iI ay), .int (iI ri), .long (lI lT), .long (lI lL), .long (lI hT), .long (lI hL), .int (iI ig)])), (q 1, .inl (cA, 12, .inl (zF Xs))), (q 2, .inl (cA, 12, .inl (zF Ys))), (q 3, .inl (cA, 12, .inl (zF Wt))), (q 4, .inl (cA, 12, .inl (zF Cp))), (q 5, .inl (cA, 12, .inl (zF sh))), (q 6, .inl (cA, 12, .inl (zF kp)))] s.heap.size) q9 := fun q9 h => Or.inr h
  have hl := lv_entry ([.ref (q 0)]) (n := 3) (Nat.le_of_ble_eq_true rfl)
  rw [lg_entry_eq]
  generalize (lg_sl ([.ref (q 0)]) ++ List.replicate (3 - (lg_sl ([.ref (q 0)])).length) Slot.unset).toArray = ls at hl ⊢
  have hl : lv_has ls 3 [(0, .ref (q 0))] := hl
  refine lv_iconst (v := iI 0) hx hb dX8_counts_0 rfl ?_
  refine lv_istore_n (lv' := [(1, .int (iI 0)), (0, .ref (q 0))]) hx hb dX8_counts_1 rfl hl (by decide) rfl (fun ls hl => ?_)
  have L2 : ∀ (n : Nat) (i : Int) (s1 : Int → Int), (N - i < (n : Int)) → (0 ≤ i ∧ i ≤ N) → (∀ s : Int, 0 ≤ s → s < i → s1 s = 0) → ∀ (H : Heap) (locs : List Loc) (ls : Array Slot), va_P D vwCl [(q 0, .inr (9, [.int (iI th), .int (iI N), .ref (q 1), .ref (q 2), .ref (q 3), .ref (q 4), .ref (q 5), .ref (q 6), .int (iI iu), .int (iI ax), .int (iI ay), .int (iI ri), .long (lI lT), .long (lI lL), .long (lI hT), .long (lI hL), .int (iI ig)])), (q 1, .inl (cA, 12, .inl (zF Xs))), (q 2, .inl (cA, 12, .inl (zF Ys))), (q 3, .inl (cA, 12, .inl (zF Wt))), (q 4, .inl (cA, 12, .inl (zF Cp))), (q 5, .inl (cA, 12, .inl (zF s1))), (q 6, .inl (cA, 12, .inl (zF kp)))] H → va_D (va_A [(q 0, .inr (9, [.int (iI th), .int (iI N), .ref (q 1), .ref (q 2), .ref (q 3), .ref (q 4), .ref (q 5), .ref (q 6), .int (iI iu), .int (iI ax), .int (iI ay), .int (iI ri), .long (lI lT), .long (lI lL), .long (lI hT), .long (lI hL), .int (iI ig)])), (q 1, .inl (cA, 12, .inl (zF Xs))), (q 2, .inl (cA, 12, .inl (zF Ys))), (q 3, .inl (cA, 12, .inl (zF Wt))), (q 4, .inl (cA, 12, .inl (zF Cp))), (q 5, .inl (cA, 12, .inl (zF sh))), (q 6, .inl (cA, 12, .inl (zF kp)))] s.heap.size) [(q 0, .inr (9, [.int (iI th), .int (iI N), .ref (q 1), .ref (q 2), .ref (q 3), .ref (q 4), .ref (q 5), .ref (q 6), .int (iI iu), .int (iI ax), .int (iI ay), .int (iI ri), .long (lI lT), .long (lI lL), .long (lI hT), .long (lI hL), .int (iI ig)])), (q 1, .inl (cA, 12, .inl (zF Xs))), (q 2, .inl (cA, 12, .inl (zF Ys))), (q 3, .inl (cA, 12, .inl (zF Wt))), (q 4, .inl (cA, 12, .inl (zF Cp))), (q 5, .inl (cA, 12, .inl (zF s1))), (q 6, .inl (cA, 12, .inl (zF kp)))] → va_S (va_A [(q 0, .inr (9, [.int (iI th), .int (iI N), .ref (q 1), .ref (q 2), .ref (q 3), .ref (q 4), .ref (q 5), .ref (q 6), .int (iI iu), .int (iI ax), .int (iI ay), .int (iI ri), .long (lI lT), .long (lI lL), .long (lI hT), .long (lI hL), .int (iI ig)])), (q 1, .inl (cA, 12, .inl (zF Xs))), (q 2, .inl (cA, 12, .inl (zF Ys))), (q 3, .inl (cA, 12, .inl (zF Wt))), (q 4, .inl (cA, 12, .inl (zF Cp))), (q 5, .inl (cA, 12, .inl (zF sh))), (q 6, .inl (cA, 12, .inl (zF kp)))] s.heap.size) s.heap H locs → lv_has ls 3 [(0, .ref (q 0)), (1, .int (iI i))] → W p l e (headSpec wsX8_counts ({ frames := 2, cells := 0, slots := 0, locals := 47 })).room s m ([.ref (q 0)] : List Value).toArray below meth c H locs 0 0 (MQ below (zWi (fun (u : (Int → Int)) => zDi Xs Ys Wt Cp N) (fun (u : (Int → Int)) => ∀ k : Int, 0 ≤ k → k < N → u k = zSh Xs Ys Wt N k) D (fun (u : (Int → Int)) => [(q 0, .inr (9, [.int (iI th), .int (iI N), .ref (q 1), .ref (q 2), .ref (q 3), .ref (q 4), .ref (q 5), .ref (q 6), .int (iI iu), .int (iI ax), .int (iI ay), .int (iI ri), .long (lI lT), .long (lI lL), .long (lI hT), .long (lI hL), .int (iI ig)])), (q 1, .inl (cA, 12, .inl (zF Xs))), (q 2, .inl (cA, 12, .inl (zF Ys))), (q 3, .inl (cA, 12, .inl (zF Wt))), (q 4, .inl (cA, 12, .inl (zF Cp))), (q 5, .inl (cA, 12, .inl (zF u))), (q 6, .inl (cA, 12, .inl (zF kp)))]) [(q 0, .inr (9, [.int (iI th), .int (iI N), .ref (q 1), .ref (q 2), .ref (q 3), .ref (q 4), .ref (q 5), .ref (q 6), .int (iI iu), .int (iI ax), .int (iI ay), .int (iI ri), .long (lI lT), .long (lI lL), .long (lI hT), .long (lI hL), .int (iI ig)])), (q 1, .inl (cA, 12, .inl (zF Xs))), (q 2, .inl (cA, 12, .inl (zF Ys))), (q 3, .inl (cA, 12, .inl (zF Wt))), (q 4, .inl (cA, 12, .inl (zF Cp))), (q 5, .inl (cA, 12, .inl (zF sh))), (q 6, .inl (cA, 12, .inl (zF kp)))] s.heap.size) ([.ref (q 0)] : List Value).toArray s 0 0 (va_A [(q 0, .inr (9, [.int (iI th), .int (iI N), .ref (q 1), .ref (q 2), .ref (q 3), .ref (q 4), .ref (q 5), .ref (q 6), .int (iI iu), .int (iI ax), .int (iI ay), .int (iI ri), .long (lI lT), .long (lI lL), .long (lI hT), .long (lI hL), .int (iI ig)])), (q 1, .inl (cA, 12, .inl (zF Xs))), (q 2, .inl (cA, 12, .inl (zF Ys))), (q 3, .inl (cA, 12, .inl (zF Wt))), (q 4, .inl (cA, 12, .inl (zF Cp))), (q 5, .inl (cA, 12, .inl (zF sh))), (q 6, .inl (cA, 12, .inl (zF kp)))] s.heap.size)) (F0 m 2 ls []) := by
    intro n
    induction n with
    | zero =>
      intro i s1 hn9 h1 h2 H locs ls hP hD hS hl
      exact absurd hn9 (by omega)
    | succ n ih2 =>
      intro i s1 hn9 h1 h2 H locs ls hP hD hS hl
      refine lv_iload_n hx hb dX8_counts_2 rfl (lv_at hl 1 rfl) ?_
      refine lv_aload_n hx hb dX8_counts_3 rfl (lv_at hl 0 rfl) ?_
      refine va_get (ci := 9) (v := .int (iI N)) (C := RX8) (T := TX8) (N := 17) hx hb hts iz_X8_counts_X8 hown hK hP 0 rfl rfl 1 (by decide) (hts (.fieldLink RX8 32 "PowerPlotModel" "sites" "I") (by decide +kernel)) (fun _ h9 => h9) rfl dX8_counts_4 ?_
      refine zi_icmp_ge (tgt := 23) hx hb dX8_counts_7 (by decide) (by omega) (by omega) (fun c7 => ?_) (fun c7 => ?_)
      · skip
        refine lv_iconst (v := iI 0) hx hb dX8_counts_23 rfl ?_
        refine lv_istore_n (lv' := [(1, .int (iI 0)), (0, .ref (q 0))]) hx hb dX8_counts_24 rfl hl (by decide) rfl (fun ls hl => ?_)
        have L25 : ∀ (n : Nat) (j : Int) (s2 : Int → Int), (1681 - j < (n : Int)) → (0 ≤ j ∧ j ≤ 1681) → (∀ s : Int, 0 ≤ s → s < N → s2 s = zSm (fun k => bI (zOA Xs Ys Wt (k.tmod 41) (k.tdiv 41) N = s)) j) → ∀ (H : Heap) (locs : List Loc) (ls : Array Slot), va_P D vwCl [(q 0, .inr (9, [.int (iI th), .int (iI N), .ref (q 1), .ref (q 2), .ref (q 3), .ref (q 4), .ref (q 5), .ref (q 6), .int (iI iu), .int (iI ax), .int (iI ay), .int (iI ri), .long (lI lT), .long (lI lL), .long (lI hT), .long (lI hL), .int (iI ig)])), (q 1, .inl (cA, 12, .inl (zF Xs))), (q 2, .inl (cA, 12, .inl (zF Ys))), (q 3, .inl (cA, 12, .inl (zF Wt))), (q 4, .inl (cA, 12, .inl (zF Cp))), (q 5, .inl (cA, 12, .inl (zF s2))), (q 6, .inl (cA, 12, .inl (zF kp)))] H → va_D (va_A [(q 0, .inr (9, [.int (iI th), .int (iI N), .ref (q 1), .ref (q 2), .ref (q 3), .ref (q 4), .ref (q 5), .ref (q 6), .int (iI iu), .int (iI ax), .int (iI ay), .int (iI ri), .long (lI lT), .long (lI lL), .long (lI hT), .long (lI hL), .int (iI ig)])), (q 1, .inl (cA, 12, .inl (zF Xs))), (q 2, .inl (cA, 12, .inl (zF Ys))), (q 3, .inl (cA, 12, .inl (zF Wt))), (q 4, .inl (cA, 12, .inl (zF Cp))), (q 5, .inl (cA, 12, .inl (zF sh))), (q 6, .inl (cA, 12, .inl (zF kp)))] s.heap.size) [(q 0, .inr (9, [.int (iI th), .int (iI N), .ref (q 1), .ref (q 2), .ref (q 3), .ref (q 4), .ref (q 5), .ref (q 6), .int (iI iu), .int (iI ax), .int (iI ay), .int (iI ri), .long (lI lT), .long (lI lL), .long (lI hT), .long (lI hL), .int (iI ig)])), (q 1, .inl (cA, 12, .inl (zF Xs))), (q 2, .inl (cA, 12, .inl (zF Ys))), (q 3, .inl (cA, 12, .inl (zF Wt))), (q 4, .inl (cA, 12, .inl (zF Cp))), (q 5, .inl (cA, 12, .inl (zF s2))), (q 6, .inl (cA, 12, .inl (zF kp)))] → va_S (va_A [(q 0, .inr (9, [.int (iI th), .int (iI N), .ref (q 1), .ref (q 2), .ref (q 3), .ref (q 4), .ref (q 5), .ref (q 6), .int (iI iu), .int (iI ax), .int (iI ay), .int (iI ri), .long (lI lT), .long (lI lL), .long (lI hT), .long (lI hL), .int (iI ig)])), (q 1, .inl (cA, 12, .inl (zF Xs))), (q 2, .inl (cA, 12, .inl (zF Ys))), (q 3, .inl (cA, 12, .inl (zF Wt))), (q 4, .inl (cA, 12, .inl (zF Cp))), (q 5, .inl (cA, 12, .inl (zF sh))), (q 6, .inl (cA, 12, .inl (zF kp)))] s.heap.size) s.heap H locs → lv_has ls 3 [(0, .ref (q 0)), (1, .int (iI j))] → W p l e (headSpec wsX8_counts ({ frames := 2, cells := 0, slots := 0, locals := 47 })).room s m ([.ref (q 0)] : List Value).toArray below meth c H locs 0 0 (MQ below (zWi (fun (u : (Int → Int)) => zDi Xs Ys Wt Cp N) (fun (u : (Int → Int)) => ∀ k : Int, 0 ≤ k → k < N → u k = zSh Xs Ys Wt N k) D (fun (u : (Int → Int)) => [(q 0, .inr (9, [.int (iI th), .int (iI N), .ref (q 1), .ref (q 2), .ref (q 3), .ref (q 4), .ref (q 5), .ref (q 6), .int (iI iu), .int (iI ax), .int (iI ay), .int (iI ri), .long (lI lT), .long (lI lL), .long (lI hT), .long (lI hL), .int (iI ig)])), (q 1, .inl (cA, 12, .inl (zF Xs))), (q 2, .inl (cA, 12, .inl (zF Ys))), (q 3, .inl (cA, 12, .inl (zF Wt))), (q 4, .inl (cA, 12, .inl (zF Cp))), (q 5, .inl (cA, 12, .inl (zF u))), (q 6, .inl (cA, 12, .inl (zF kp)))]) [(q 0, .inr (9, [.int (iI th), .int (iI N), .ref (q 1), .ref (q 2), .ref (q 3), .ref (q 4), .ref (q 5), .ref (q 6), .int (iI iu), .int (iI ax), .int (iI ay), .int (iI ri), .long (lI lT), .long (lI lL), .long (lI hT), .long (lI hL), .int (iI ig)])), (q 1, .inl (cA, 12, .inl (zF Xs))), (q 2, .inl (cA, 12, .inl (zF Ys))), (q 3, .inl (cA, 12, .inl (zF Wt))), (q 4, .inl (cA, 12, .inl (zF Cp))), (q 5, .inl (cA, 12, .inl (zF sh))), (q 6, .inl (cA, 12, .inl (zF kp)))] s.heap.size) ([.ref (q 0)] : List Value).toArray s 0 0 (va_A [(q 0, .inr (9, [.int (iI th), .int (iI N), .ref (q 1), .ref (q 2), .ref (q 3), .ref (q 4), .ref (q 5), .ref (q 6), .int (iI iu), .int (iI ax), .int (iI ay), .int (iI ri), .long (lI lT), .long (lI lL), .long (lI hT), .long (lI hL), .int (iI ig)])), (q 1, .inl (cA, 12, .inl (zF Xs))), (q 2, .inl (cA, 12, .inl (zF Ys))), (q 3, .inl (cA, 12, .inl (zF Wt))), (q 4, .inl (cA, 12, .inl (zF Cp))), (q 5, .inl (cA, 12, .inl (zF sh))), (q 6, .inl (cA, 12, .inl (zF kp)))] s.heap.size)) (F0 m 25 ls []) := by
          intro n
          induction n with
          | zero =>
            intro j s2 hn9 k1 k2 H locs ls hP hD hS hl
            exact absurd hn9 (by omega)
          | succ n ih25 =>
            intro j s2 hn9 k1 k2 H locs ls hP hD hS hl
            refine lv_iload_n hx hb dX8_counts_25 rfl (lv_at hl 1 rfl) ?_
            refine lv_sipush (v := iI 1681) hx hb dX8_counts_26 (by decide +kernel) ?_
            refine zi_icmp_ge (tgt := 66) hx hb dX8_counts_29 (by decide) (by omega) (by omega) (fun c29 => ?_) (fun c29 => ?_)
            · skip
              have k3 : ∀ s : Int, 0 ≤ s → s < N → s2 s = zSh Xs Ys Wt N s := fun s p q => by first | (rw [k2 s p q, show j = 1681 by omega]; exact zSh_grid Xs Ys Wt N s) | exact absurd q (by omega)
              refine lv_iconst (v := iI 0) hx hb dX8_counts_66 rfl ?_
              refine lv_istore_n (lv' := [(1, .int (iI 0)), (0, .ref (q 0))]) hx hb dX8_counts_67 rfl hl (by decide) rfl (fun ls hl => ?_)
              refine lv_iconst (v := iI 0) hx hb dX8_counts_68 rfl ?_
              refine lv_istore_n (lv' := [(2, .int (iI 0)), (1, .int (iI 0)), (0, .ref (q 0))]) hx hb dX8_counts_69 rfl hl (by decide) rfl (fun ls hl => ?_)
              have L70 : ∀ (n : Nat) (t1 : Int) (dis : Int), (N - t1 < (n : Int)) → (0 ≤ t1 ∧ t1 ≤ N) → (dis = zSm (fun k => zab (zSh Xs Ys Wt N k - Cp k)) t1) → (0 ≤ dis ∧ dis ≤ 1681 * t1) → ∀ (H : Heap) (locs : List Loc) (ls : Array Slot), va_P D vwCl [(q 0, .inr (9, [.int (iI th), .int (iI N), .ref (q 1), .ref (q 2), .ref (q 3), .ref (q 4), .ref (q 5), .ref (q 6), .int (iI iu), .int (iI ax), .int (iI ay), .int (iI ri), .long (lI lT), .long (lI lL), .long (lI hT), .long (lI hL), .int (iI ig)])), (q 1, .inl (cA, 12, .inl (zF Xs))), (q 2, .inl (cA, 12, .inl (zF Ys))), (q 3, .inl (cA, 12, .inl (zF Wt))), (q 4, .inl (cA, 12, .inl (zF Cp))), (q 5, .inl (cA, 12, .inl (zF s2))), (q 6, .inl (cA, 12, .inl (zF kp)))] H → va_D (va_A [(q 0, .inr (9, [.int (iI th), .int (iI N), .ref (q 1), .ref (q 2), .ref (q 3), .ref (q 4), .ref (q 5), .ref (q 6), .int (iI iu), .int (iI ax), .int (iI ay), .int (iI ri), .long (lI lT), .long (lI lL), .long (lI hT), .long (lI hL), .int (iI ig)])), (q 1, .inl (cA, 12, .inl (zF Xs))), (q 2, .inl (cA, 12, .inl (zF Ys))), (q 3, .inl (cA, 12, .inl (zF Wt))), (q 4, .inl (cA, 12, .inl (zF Cp))), (q 5, .inl (cA, 12, .inl (zF sh))), (q 6, .inl (cA, 12, .inl (zF kp)))] s.heap.size) [(q 0, .inr (9, [.int (iI th), .int (iI N), .ref (q 1), .ref (q 2), .ref (q 3), .ref (q 4), .ref (q 5), .ref (q 6), .int (iI iu), .int (iI ax), .int (iI ay), .int (iI ri), .long (lI lT), .long (lI lL), .long (lI hT), .long (lI hL), .int (iI ig)])), (q 1, .inl (cA, 12, .inl (zF Xs))), (q 2, .inl (cA, 12, .inl (zF Ys))), (q 3, .inl (cA, 12, .inl (zF Wt))), (q 4, .inl (cA, 12, .inl (zF Cp))), (q 5, .inl (cA, 12, .inl (zF s2))), (q 6, .inl (cA, 12, .inl (zF kp)))] → va_S (va_A [(q 0, .inr (9, [.int (iI th), .int (iI N), .ref (q 1), .ref (q 2), .ref (q 3), .ref (q 4), .ref (q 5), .ref (q 6), .int (iI iu), .int (iI ax), .int (iI ay), .int (iI ri), .long (lI lT), .long (lI lL), .long (lI hT), .long (lI hL), .int (iI ig)])), (q 1, .inl (cA, 12, .inl (zF Xs))), (q 2, .inl (cA, 12, .inl (zF Ys))), (q 3, .inl (cA, 12, .inl (zF Wt))), (q 4, .inl (cA, 12, .inl (zF Cp))), (q 5, .inl (cA, 12, .inl (zF sh))), (q 6, .inl (cA, 12, .inl (zF kp)))] s.heap.size) s.heap H locs → lv_has ls 3 [(0, .ref (q 0)), (1, .int (iI dis)), (2, .int (iI t1))] → W p l e (headSpec wsX8_counts ({ frames := 2, cells := 0, slots := 0, locals := 47 })).room s m ([.ref (q 0)] : List Value).toArray below meth c H locs 0 0 (MQ below (zWi (fun (u : (Int → Int)) => zDi Xs Ys Wt Cp N) (fun (u : (Int → Int)) => ∀ k : Int, 0 ≤ k → k < N → u k = zSh Xs Ys Wt N k) D (fun (u : (Int → Int)) => [(q 0, .inr (9, [.int (iI th), .int (iI N), .ref (q 1), .ref (q 2), .ref (q 3), .ref (q 4), .ref (q 5), .ref (q 6), .int (iI iu), .int (iI ax), .int (iI ay), .int (iI ri), .long (lI lT), .long (lI lL), .long (lI hT), .long (lI hL), .int (iI ig)])), (q 1, .inl (cA, 12, .inl (zF Xs))), (q 2, .inl (cA, 12, .inl (zF Ys))), (q 3, .inl (cA, 12, .inl (zF Wt))), (q 4, .inl (cA, 12, .inl (zF Cp))), (q 5, .inl (cA, 12, .inl (zF u))), (q 6, .inl (cA, 12, .inl (zF kp)))]) [(q 0, .inr (9, [.int (iI th), .int (iI N), .ref (q 1), .ref (q 2), .ref (q 3), .ref (q 4), .ref (q 5), .ref (q 6), .int (iI iu), .int (iI ax), .int (iI ay), .int (iI ri), .long (lI lT), .long (lI lL), .long (lI hT), .long (lI hL), .int (iI ig)])), (q 1, .inl (cA, 12, .inl (zF Xs))), (q 2, .inl (cA, 12, .inl (zF Ys))), (q 3, .inl (cA, 12, .inl (zF Wt))), (q 4, .inl (cA, 12, .inl (zF Cp))), (q 5, .inl (cA, 12, .inl (zF sh))), (q 6, .inl (cA, 12, .inl (zF kp)))] s.heap.size) ([.ref (q 0)] : List Value).toArray s 0 0 (va_A [(q 0, .inr (9, [.int (iI th), .int (iI N), .ref (q 1), .ref (q 2), .ref (q 3), .ref (q 4), .ref (q 5), .ref (q 6), .int (iI iu), .int (iI ax), .int (iI ay), .int (iI ri), .long (lI lT), .long (lI lL), .long (lI hT), .long (lI hL), .int (iI ig)])), (q 1, .inl (cA, 12, .inl (zF Xs))), (q 2, .inl (cA, 12, .inl (zF Ys))), (q 3, .inl (cA, 12, .inl (zF Wt))), (q 4, .inl (cA, 12, .inl (zF Cp))), (q 5, .inl (cA, 12, .inl (zF sh))), (q 6, .inl (cA, 12, .inl (zF kp)))] s.heap.size)) (F0 m 70 ls []) := by
                intro n
                induction n with
                | zero =>
                  intro t1 dis hn9 m1 m2 m3 H locs ls hP hD hS hl
                  exact absurd hn9 (by omega)
                | succ n ih70 =>
                  intro t1 dis hn9 m1 m2 m3 H locs ls hP hD hS hl
                  have b1 := gC t1
                  have b2 := zSh_rg Xs Ys Wt N t1
                  refine lv_iload_n hx hb dX8_counts_70 rfl (lv_at hl 2 rfl) ?_
                  refine lv_aload_n hx hb dX8_counts_71 rfl (lv_at hl 0 rfl) ?_
                  refine va_get (ci := 9) (v := .int (iI N)) (C := RX8) (T := TX8) (N := 17) hx hb hts iz_X8_counts_X8 hown hK hP 0 rfl rfl 1 (by decide) (hts (.fieldLink RX8 32 "PowerPlotModel" "sites" "I") (by decide +kernel)) (fun _ h9 => h9) rfl dX8_counts_72 ?_
                  refine zi_icmp_ge (tgt := 103) hx hb dX8_counts_75 (by decide) (by omega) (by omega) (fun c75 => ?_) (fun c75 => ?_)
                  · skip
                    refine lv_iload_n hx hb dX8_counts_103 rfl (lv_at hl 1 rfl) ?_
                    exact W.iret (v := iI dis) hx hb hr (fun t ht hW => ⟨⟨iI dis, s2, rfl, ⟨congrArg iI (by rw [m2, show t1 = N by omega]; rfl), k3⟩, ⟨by rw [ht]; exact hP, hD⟩⟩, hS.F ht⟩) hS.2.2 dX8_counts_104
                  · skip
                    have b4 := k3 t1 m1.1 (by omega)
                    refine lv_iload_n hx hb dX8_counts_78 rfl (lv_at hl 1 rfl) ?_
                    refine lv_aload_n hx hb dX8_counts_79 rfl (lv_at hl 0 rfl) ?_
                    refine va_get (ci := 9) (v := .ref (q 5)) (C := RX8) (T := TX8) (N := 17) hx hb hts iz_X8_counts_X8 hown hK hP 0 rfl rfl 6 (by decide) (hts (.fieldLink RX8 22 "PowerPlotModel" "share" "[I") (by decide +kernel)) (fun _ h9 => h9) rfl dX8_counts_80 ?_
                    refine lv_iload_n hx hb dX8_counts_83 rfl (lv_at hl 2 rfl) ?_
                    refine zi_iald hx hb hK hP 5 0 rfl hty (by decide) (by omega) dX8_counts_84 ?_
                    refine lv_aload_n hx hb dX8_counts_85 rfl (lv_at hl 0 rfl) ?_
                    refine va_get (ci := 9) (v := .ref (q 4)) (C := RX8) (T := TX8) (N := 17) hx hb hts iz_X8_counts_X8 hown hK hP 0 rfl rfl 5 (by decide) (hts (.fieldLink RX8 19 "PowerPlotModel" "capacity" "[I") (by decide +kernel)) (fun _ h9 => h9) rfl dX8_counts_86 ?_
                    refine lv_iload_n hx hb dX8_counts_89 rfl (lv_at hl 2 rfl) ?_
                    refine zi_iald hx hb hK hP 4 0 rfl hty (by decide) (by omega) dX8_counts_90 ?_
                    refine zi_isub hx hb dX8_counts_91 ?_
                    refine zc_riS (As := [.int (iI ((s2 t1) - (Cp t1)))]) (rest := [.int (iI dis)]) ⟨hx, hb, hml, hown, hts⟩ (c_X8_size l D _ tys cA hty ((s2 t1) - (Cp t1)) (by omega)) (va_cwS 1 hts gX8_counts_X8_size rfl rfl rfl (by decide +kernel) ⟨(Nat.le_of_ble_eq_true rfl), (Nat.le_of_ble_eq_true rfl)⟩) hP hK hD hS hA [] rfl rfl rfl hl.1 rfl (Nat.le_of_ble_eq_true rfl) dX8_counts_92 ⟨Nat.zero_le _, Nat.zero_le _⟩ (fun H locs hP hS => ?_)
                    refine zi_iadd hx hb dX8_counts_95 ?_
                    refine lv_istore_n (lv' := [(1, .int (iI (dis + (zab ((s2 t1) - (Cp t1)))))), (0, .ref (q 0)), (2, .int (iI t1))]) hx hb dX8_counts_96 rfl hl (by decide) rfl (fun ls hl => ?_)
                    refine lv_iinc (v := iI (t1 + 1)) (lv' := [(2, .int (iI (t1 + 1))), (1, .int (iI (dis + (zab ((s2 t1) - (Cp t1)))))), (0, .ref (q 0))]) hx hb dX8_counts_97 hl (k := 2) rfl (iI_add t1 1) (by decide) rfl (fun ls hl => ?_)
                    refine lv_goto (tgt := 70) hx hb dX8_counts_100 (by decide) ?_
                    exact ih70 (t1 + 1) (dis + (zab ((s2 t1) - (Cp t1)))) (by omega) (by omega) (by rw [zSm_s _ m1.1, m2, k3 t1 m1.1 (by omega)]) (by have b3 := zab_rg (x := s2 t1 - Cp t1) (B := 1681) (by rw [k3 t1 m1.1 (by omega)]; omega); omega) _ _ _ hP hD hS (lv_sub hl [2, 1, 0] rfl)
              exact L70 (((N - 0 : Int)).toNat + 1) 0 0 (by omega) (by omega) rfl (by omega) _ _ _ hP hD hS (lv_sub hl [2, 1, 0] rfl)
            · skip
              refine lv_aload_n hx hb dX8_counts_32 rfl (lv_at hl 0 rfl) ?_
              refine va_get (ci := 9) (v := .int (iI N)) (C := RX8) (T := TX8) (N := 17) hx hb hts iz_X8_counts_X8 hown hK hP 0 rfl rfl 1 (by decide) (hts (.fieldLink RX8 32 "PowerPlotModel" "sites" "I") (by decide +kernel)) (fun _ h9 => h9) rfl dX8_counts_33 ?_
              refine zi_if_le (tgt := 66) hx hb dX8_counts_36 (by decide) (by omega) (fun c36 => ?_) (fun c36 => ?_)
              · skip
                have k3 : ∀ s : Int, 0 ≤ s → s < N → s2 s = zSh Xs Ys Wt N s := fun s p q => by first | (rw [k2 s p q, show j = 1681 by omega]; exact zSh_grid Xs Ys Wt N s) | exact absurd q (by omega)
                refine lv_iconst (v := iI 0) hx hb dX8_counts_66 rfl ?_
                refine lv_istore_n (lv' := [(1, .int (iI 0)), (0, .ref (q 0))]) hx hb dX8_counts_67 rfl hl (by decide) rfl (fun ls hl => ?_)
                refine lv_iconst (v := iI 0) hx hb dX8_counts_68 rfl ?_
                refine lv_istore_n (lv' := [(2, .int (iI 0)), (1, .int (iI 0)), (0, .ref (q 0))]) hx hb dX8_counts_69 rfl hl (by decide) rfl (fun ls hl => ?_)
                have L70 : ∀ (n : Nat) (t1 : Int) (dis : Int), (N - t1 < (n : Int)) → (0 ≤ t1 ∧ t1 ≤ N) → (dis = zSm (fun k => zab (zSh Xs Ys Wt N k - Cp k)) t1) → (0 ≤ dis ∧ dis ≤ 1681 * t1) → ∀ (H : Heap) (locs : List Loc) (ls : Array Slot), va_P D vwCl [(q 0, .inr (9, [.int (iI th), .int (iI N), .ref (q 1), .ref (q 2), .ref (q 3), .ref (q 4), .ref (q 5), .ref (q 6), .int (iI iu), .int (iI ax), .int (iI ay), .int (iI ri), .long (lI lT), .long (lI lL), .long (lI hT), .long (lI hL), .int (iI ig)])), (q 1, .inl (cA, 12, .inl (zF Xs))), (q 2, .inl (cA, 12, .inl (zF Ys))), (q 3, .inl (cA, 12, .inl (zF Wt))), (q 4, .inl (cA, 12, .inl (zF Cp))), (q 5, .inl (cA, 12, .inl (zF s2))), (q 6, .inl (cA, 12, .inl (zF kp)))] H → va_D (va_A [(q 0, .inr (9, [.int (iI th), .int (iI N), .ref (q 1), .ref (q 2), .ref (q 3), .ref (q 4), .ref (q 5), .ref (q 6), .int (iI iu), .int (iI ax), .int (iI ay), .int (iI ri), .long (lI lT), .long (lI lL), .long (lI hT), .long (lI hL), .int (iI ig)])), (q 1, .inl (cA, 12, .inl (zF Xs))), (q 2, .inl (cA, 12, .inl (zF Ys))), (q 3, .inl (cA, 12, .inl (zF Wt))), (q 4, .inl (cA, 12, .inl (zF Cp))), (q 5, .inl (cA, 12, .inl (zF sh))), (q 6, .inl (cA, 12, .inl (zF kp)))] s.heap.size) [(q 0, .inr (9, [.int (iI th), .int (iI N), .ref (q 1), .ref (q 2), .ref (q 3), .ref (q 4), .ref (q 5), .ref (q 6), .int (iI iu), .int (iI ax), .int (iI ay), .int (iI ri), .long (lI lT), .long (lI lL), .long (lI hT), .long (lI hL), .int (iI ig)])), (q 1, .inl (cA, 12, .inl (zF Xs))), (q 2, .inl (cA, 12, .inl (zF Ys))), (q 3, .inl (cA, 12, .inl (zF Wt))), (q 4, .inl (cA, 12, .inl (zF Cp))), (q 5, .inl (cA, 12, .inl (zF s2))), (q 6, .inl (cA, 12, .inl (zF kp)))] → va_S (va_A [(q 0, .inr (9, [.int (iI th), .int (iI N), .ref (q 1), .ref (q 2), .ref (q 3), .ref (q 4), .ref (q 5), .ref (q 6), .int (iI iu), .int (iI ax), .int (iI ay), .int (iI ri), .long (lI lT), .long (lI lL), .long (lI hT), .long (lI hL), .int (iI ig)])), (q 1, .inl (cA, 12, .inl (zF Xs))), (q 2, .inl (cA, 12, .inl (zF Ys))), (q 3, .inl (cA, 12, .inl (zF Wt))), (q 4, .inl (cA, 12, .inl (zF Cp))), (q 5, .inl (cA, 12, .inl (zF sh))), (q 6, .inl (cA, 12, .inl (zF kp)))] s.heap.size) s.heap H locs → lv_has ls 3 [(0, .ref (q 0)), (1, .int (iI dis)), (2, .int (iI t1))] → W p l e (headSpec wsX8_counts ({ frames := 2, cells := 0, slots := 0, locals := 47 })).room s m ([.ref (q 0)] : List Value).toArray below meth c H locs 0 0 (MQ below (zWi (fun (u : (Int → Int)) => zDi Xs Ys Wt Cp N) (fun (u : (Int → Int)) => ∀ k : Int, 0 ≤ k → k < N → u k = zSh Xs Ys Wt N k) D (fun (u : (Int → Int)) => [(q 0, .inr (9, [.int (iI th), .int (iI N), .ref (q 1), .ref (q 2), .ref (q 3), .ref (q 4), .ref (q 5), .ref (q 6), .int (iI iu), .int (iI ax), .int (iI ay), .int (iI ri), .long (lI lT), .long (lI lL), .long (lI hT), .long (lI hL), .int (iI ig)])), (q 1, .inl (cA, 12, .inl (zF Xs))), (q 2, .inl (cA, 12, .inl (zF Ys))), (q 3, .inl (cA, 12, .inl (zF Wt))), (q 4, .inl (cA, 12, .inl (zF Cp))), (q 5, .inl (cA, 12, .inl (zF u))), (q 6, .inl (cA, 12, .inl (zF kp)))]) [(q 0, .inr (9, [.int (iI th), .int (iI N), .ref (q 1), .ref (q 2), .ref (q 3), .ref (q 4), .ref (q 5), .ref (q 6), .int (iI iu), .int (iI ax), .int (iI ay), .int (iI ri), .long (lI lT), .long (lI lL), .long (lI hT), .long (lI hL), .int (iI ig)])), (q 1, .inl (cA, 12, .inl (zF Xs))), (q 2, .inl (cA, 12, .inl (zF Ys))), (q 3, .inl (cA, 12, .inl (zF Wt))), (q 4, .inl (cA, 12, .inl (zF Cp))), (q 5, .inl (cA, 12, .inl (zF sh))), (q 6, .inl (cA, 12, .inl (zF kp)))] s.heap.size) ([.ref (q 0)] : List Value).toArray s 0 0 (va_A [(q 0, .inr (9, [.int (iI th), .int (iI N), .ref (q 1), .ref (q 2), .ref (q 3), .ref (q 4), .ref (q 5), .ref (q 6), .int (iI iu), .int (iI ax), .int (iI ay), .int (iI ri), .long (lI lT), .long (lI lL), .long (lI hT), .long (lI hL), .int (iI ig)])), (q 1, .inl (cA, 12, .inl (zF Xs))), (q 2, .inl (cA, 12, .inl (zF Ys))), (q 3, .inl (cA, 12, .inl (zF Wt))), (q 4, .inl (cA, 12, .inl (zF Cp))), (q 5, .inl (cA, 12, .inl (zF sh))), (q 6, .inl (cA, 12, .inl (zF kp)))] s.heap.size)) (F0 m 70 ls []) := by
                  intro n
                  induction n with
                  | zero =>
                    intro t1 dis hn9 m1 m2 m3 H locs ls hP hD hS hl
                    exact absurd hn9 (by omega)
                  | succ n ih70 =>
                    intro t1 dis hn9 m1 m2 m3 H locs ls hP hD hS hl
                    have b1 := gC t1
                    have b2 := zSh_rg Xs Ys Wt N t1
                    refine lv_iload_n hx hb dX8_counts_70 rfl (lv_at hl 2 rfl) ?_
                    refine lv_aload_n hx hb dX8_counts_71 rfl (lv_at hl 0 rfl) ?_
                    refine va_get (ci := 9) (v := .int (iI N)) (C := RX8) (T := TX8) (N := 17) hx hb hts iz_X8_counts_X8 hown hK hP 0 rfl rfl 1 (by decide) (hts (.fieldLink RX8 32 "PowerPlotModel" "sites" "I") (by decide +kernel)) (fun _ h9 => h9) rfl dX8_counts_72 ?_
                    refine zi_icmp_ge (tgt := 103) hx hb dX8_counts_75 (by decide) (by omega) (by omega) (fun c75 => ?_) (fun c75 => ?_)
                    · skip
                      refine lv_iload_n hx hb dX8_counts_103 rfl (lv_at hl 1 rfl) ?_
                      exact W.iret (v := iI dis) hx hb hr (fun t ht hW => ⟨⟨iI dis, s2, rfl, ⟨congrArg iI (by rw [m2, show t1 = N by omega]; rfl), k3⟩, ⟨by rw [ht]; exact hP, hD⟩⟩, hS.F ht⟩) hS.2.2 dX8_counts_104
                    · skip
                      have b4 := k3 t1 m1.1 (by omega)
                      refine lv_iload_n hx hb dX8_counts_78 rfl (lv_at hl 1 rfl) ?_
                      refine lv_aload_n hx hb dX8_counts_79 rfl (lv_at hl 0 rfl) ?_
                      refine va_get (ci := 9) (v := .ref (q 5)) (C := RX8) (T := TX8) (N := 17) hx hb hts iz_X8_counts_X8 hown hK hP 0 rfl rfl 6 (by decide) (hts (.fieldLink RX8 22 "PowerPlotModel" "share" "[I") (by decide +kernel)) (fun _ h9 => h9) rfl dX8_counts_80 ?_
                      refine lv_iload_n hx hb dX8_counts_83 rfl (lv_at hl 2 rfl) ?_
                      refine zi_iald hx hb hK hP 5 0 rfl hty (by decide) (by omega) dX8_counts_84 ?_
                      refine lv_aload_n hx hb dX8_counts_85 rfl (lv_at hl 0 rfl) ?_
                      refine va_get (ci := 9) (v := .ref (q 4)) (C := RX8) (T := TX8) (N := 17) hx hb hts iz_X8_counts_X8 hown hK hP 0 rfl rfl 5 (by decide) (hts (.fieldLink RX8 19 "PowerPlotModel" "capacity" "[I") (by decide +kernel)) (fun _ h9 => h9) rfl dX8_counts_86 ?_
                      refine lv_iload_n hx hb dX8_counts_89 rfl (lv_at hl 2 rfl) ?_
                      refine zi_iald hx hb hK hP 4 0 rfl hty (by decide) (by omega) dX8_counts_90 ?_
                      refine zi_isub hx hb dX8_counts_91 ?_
                      refine zc_riS (As := [.int (iI ((s2 t1) - (Cp t1)))]) (rest := [.int (iI dis)]) ⟨hx, hb, hml, hown, hts⟩ (c_X8_size l D _ tys cA hty ((s2 t1) - (Cp t1)) (by omega)) (va_cwS 1 hts gX8_counts_X8_size rfl rfl rfl (by decide +kernel) ⟨(Nat.le_of_ble_eq_true rfl), (Nat.le_of_ble_eq_true rfl)⟩) hP hK hD hS hA [] rfl rfl rfl hl.1 rfl (Nat.le_of_ble_eq_true rfl) dX8_counts_92 ⟨Nat.zero_le _, Nat.zero_le _⟩ (fun H locs hP hS => ?_)
                      refine zi_iadd hx hb dX8_counts_95 ?_
                      refine lv_istore_n (lv' := [(1, .int (iI (dis + (zab ((s2 t1) - (Cp t1)))))), (0, .ref (q 0)), (2, .int (iI t1))]) hx hb dX8_counts_96 rfl hl (by decide) rfl (fun ls hl => ?_)
                      refine lv_iinc (v := iI (t1 + 1)) (lv' := [(2, .int (iI (t1 + 1))), (1, .int (iI (dis + (zab ((s2 t1) - (Cp t1)))))), (0, .ref (q 0))]) hx hb dX8_counts_97 hl (k := 2) rfl (iI_add t1 1) (by decide) rfl (fun ls hl => ?_)
                      refine lv_goto (tgt := 70) hx hb dX8_counts_100 (by decide) ?_
                      exact ih70 (t1 + 1) (dis + (zab ((s2 t1) - (Cp t1)))) (by omega) (by omega) (by rw [zSm_s _ m1.1, m2, k3 t1 m1.1 (by omega)]) (by have b3 := zab_rg (x := s2 t1 - Cp t1) (B := 1681) (by rw [k3 t1 m1.1 (by omega)]; omega); omega) _ _ _ hP hD hS (lv_sub hl [2, 1, 0] rfl)
                exact L70 (((N - 0 : Int)).toNat + 1) 0 0 (by omega) (by omega) rfl (by omega) _ _ _ hP hD hS (lv_sub hl [2, 1, 0] rfl)
              · skip
                refine lv_aload_n hx hb dX8_counts_39 rfl (lv_at hl 0 rfl) ?_
                refine va_get (ci := 9) (v := .ref (q 5)) (C := RX8) (T := TX8) (N := 17) hx hb hts iz_X8_counts_X8 hown hK hP 0 rfl rfl 6 (by decide) (hts (.fieldLink RX8 22 "PowerPlotModel" "share" "[I") (by decide +kernel)) (fun _ h9 => h9) rfl dX8_counts_40 ?_
                have z1 := zgr (i := j) (by omega)
                have z2 := zOA_rg Xs Ys Wt (j.tmod 41) (j.tdiv 41) gN.1
                refine lv_aload_n hx hb dX8_counts_43 rfl (lv_at hl 0 rfl) ?_
                refine lv_iload_n hx hb dX8_counts_44 rfl (lv_at hl 1 rfl) ?_
                refine lv_bipush (v := iI 41) hx hb dX8_counts_45 (by decide +kernel) ?_
                refine zi_irem hx hb dX8_counts_47 (by omega) (by omega) (by omega) (by omega) ?_
                refine lv_iload_n hx hb dX8_counts_48 rfl (lv_at hl 1 rfl) ?_
                refine lv_bipush (v := iI 41) hx hb dX8_counts_49 (by decide +kernel) ?_
                refine zi_idiv hx hb dX8_counts_51 (by omega) (by omega) (by omega) (by omega) ?_
                refine zc_ri (As := [.int (iI (j.tmod 41)), .int (iI (j.tdiv 41))]) (rest := [.ref (q 5)]) ⟨hx, hb, hml, hown, hts⟩ (c_X8_ownerOf l D _ tys cA hty q th N Xs Ys Wt Cp s2 kp iu ax ay ri lT lL hT hL ig (j.tmod 41) (j.tdiv 41) gB gN (by omega) (by omega)) (cwV 2 hts gX8_counts_X8_ownerOf rfl rfl rfl (by decide +kernel) ⟨(Nat.le_of_ble_eq_true rfl), (Nat.le_of_ble_eq_true rfl)⟩) hP hK hD hS hA [0, 1, 2, 3, 4, 5, 6] rfl rfl rfl rfl rfl hl.1 rfl (Nat.le_of_ble_eq_true rfl) dX8_counts_52 ⟨Nat.zero_le _, Nat.zero_le _⟩ (fun H locs hP hS => ?_)
                refine lv_dup2_11 hx hb dX8_counts_55 rfl rfl ?_
                refine zi_iald hx hb hK hP 5 0 rfl hty (by decide) (by omega) dX8_counts_56 ?_
                refine lv_iconst (v := iI 1) hx hb dX8_counts_57 rfl ?_
                refine zi_iadd hx hb dX8_counts_58 ?_
                refine zi_iast hx hb hK hP hD hS 5 0 rfl hty (by decide) (by omega) dX8_counts_59 (fun H locs hP hD hS => ?_)
                have hP : va_P D vwCl [(q 0, .inr (9, [.int (iI th), .int (iI N), .ref (q 1), .ref (q 2), .ref (q 3), .ref (q 4), .ref (q 5), .ref (q 6), .int (iI iu), .int (iI ax), .int (iI ay), .int (iI ri), .long (lI lT), .long (lI lL), .long (lI hT), .long (lI hL), .int (iI ig)])), (q 1, .inl (cA, 12, .inl (zF Xs))), (q 2, .inl (cA, 12, .inl (zF Ys))), (q 3, .inl (cA, 12, .inl (zF Wt))), (q 4, .inl (cA, 12, .inl (zF Cp))), (q 5, .inl (cA, 12, .inl (zF (zU s2 (zOA Xs Ys Wt (j.tmod 41) (j.tdiv 41) N) ((s2 (zOA Xs Ys Wt (j.tmod 41) (j.tdiv 41) N)) + 1))))), (q 6, .inl (cA, 12, .inl (zF kp)))] H := hP
                have hD : va_D _ [(q 0, .inr (9, [.int (iI th), .int (iI N), .ref (q 1), .ref (q 2), .ref (q 3), .ref (q 4), .ref (q 5), .ref (q 6), .int (iI iu), .int (iI ax), .int (iI ay), .int (iI ri), .long (lI lT), .long (lI lL), .long (lI hT), .long (lI hL), .int (iI ig)])), (q 1, .inl (cA, 12, .inl (zF Xs))), (q 2, .inl (cA, 12, .inl (zF Ys))), (q 3, .inl (cA, 12, .inl (zF Wt))), (q 4, .inl (cA, 12, .inl (zF Cp))), (q 5, .inl (cA, 12, .inl (zF (zU s2 (zOA Xs Ys Wt (j.tmod 41) (j.tdiv 41) N) ((s2 (zOA Xs Ys Wt (j.tmod 41) (j.tdiv 41) N)) + 1))))), (q 6, .inl (cA, 12, .inl (zF kp)))] := hD
                refine lv_iinc (v := iI (j + 1)) (lv' := [(1, .int (iI (j + 1))), (0, .ref (q 0))]) hx hb dX8_counts_60 hl (k := 1) rfl (iI_add j 1) (by decide) rfl (fun ls hl => ?_)
                refine lv_goto (tgt := 25) hx hb dX8_counts_63 (by decide) ?_
                exact ih25 (j + 1) (zU s2 (zOA Xs Ys Wt (j.tmod 41) (j.tdiv 41) N) ((s2 (zOA Xs Ys Wt (j.tmod 41) (j.tdiv 41) N)) + 1)) (by omega) (by omega) (zct_s k1.1 k2) _ _ _ hP hD hS (lv_sub hl [1, 0] rfl)
        exact L25 (((1681 - 0 : Int)).toNat + 1) 0 s1 (by omega) (by omega) (fun s p q => by rw [h2 s p (by omega)]; rfl) _ _ _ hP hD hS (lv_sub hl [1, 0] rfl)
      · skip
        refine lv_aload_n hx hb dX8_counts_10 rfl (lv_at hl 0 rfl) ?_
        refine va_get (ci := 9) (v := .ref (q 5)) (C := RX8) (T := TX8) (N := 17) hx hb hts iz_X8_counts_X8 hown hK hP 0 rfl rfl 6 (by decide) (hts (.fieldLink RX8 22 "PowerPlotModel" "share" "[I") (by decide +kernel)) (fun _ h9 => h9) rfl dX8_counts_11 ?_
        refine lv_iload_n hx hb dX8_counts_14 rfl (lv_at hl 1 rfl) ?_
        refine lv_iconst (v := iI 0) hx hb dX8_counts_15 rfl ?_
        refine zi_iast hx hb hK hP hD hS 5 0 rfl hty (by decide) (by omega) dX8_counts_16 (fun H locs hP hD hS => ?_)
        have hP : va_P D vwCl [(q 0, .inr (9, [.int (iI th), .int (iI N), .ref (q 1), .ref (q 2), .ref (q 3), .ref (q 4), .ref (q 5), .ref (q 6), .int (iI iu), .int (iI ax), .int (iI ay), .int (iI ri), .long (lI lT), .long (lI lL), .long (lI hT), .long (lI hL), .int (iI ig)])), (q 1, .inl (cA, 12, .inl (zF Xs))), (q 2, .inl (cA, 12, .inl (zF Ys))), (q 3, .inl (cA, 12, .inl (zF Wt))), (q 4, .inl (cA, 12, .inl (zF Cp))), (q 5, .inl (cA, 12, .inl (zF (zU s1 i 0)))), (q 6, .inl (cA, 12, .inl (zF kp)))] H := hP
        have hD : va_D _ [(q 0, .inr (9, [.int (iI th), .int (iI N), .ref (q 1), .ref (q 2), .ref (q 3), .ref (q 4), .ref (q 5), .ref (q 6), .int (iI iu), .int (iI ax), .int (iI ay), .int (iI ri), .long (lI lT), .long (lI lL), .long (lI hT), .long (lI hL), .int (iI ig)])), (q 1, .inl (cA, 12, .inl (zF Xs))), (q 2, .inl (cA, 12, .inl (zF Ys))), (q 3, .inl (cA, 12, .inl (zF Wt))), (q 4, .inl (cA, 12, .inl (zF Cp))), (q 5, .inl (cA, 12, .inl (zF (zU s1 i 0)))), (q 6, .inl (cA, 12, .inl (zF kp)))] := hD
        refine lv_iinc (v := iI (i + 1)) (lv' := [(1, .int (iI (i + 1))), (0, .ref (q 0))]) hx hb dX8_counts_17 hl (k := 1) rfl (iI_add i 1) (by decide) rfl (fun ls hl => ?_)
        refine lv_goto (tgt := 2) hx hb dX8_counts_20 (by decide) ?_
        exact ih2 (i + 1) (zU s1 i 0) (by omega) (by omega) (fun s p q => zU_st (g := fun _ => 0) h2 s p q) _ _ _ hP hD hS (lv_sub hl [1, 0] rfl)
  exact L2 (((N - 0 : Int)).toNat + 1) 0 sh (by omega) (by omega) (fun s p q => absurd q (by omega)) _ _ _ hP hD hS (lv_sub hl [1, 0] rfl)
theorem iz_X8_misses_X8 : ∀ w ∈ u_ws RX8 TX8 17, w ∈ wsX8_misses := by decide +kernel
set_option maxHeartbeats 4000000 in
set_option maxRecDepth 100000 in
/-- PowerPlotModel.misses -/
theorem c_X8_misses (l : Launch) (D : va_G) (sz : Nat) (tys : List (ClassId × FieldType)) (cA : ClassId) (hty : tys[0]? = some (cA, .int)) (q : Nat → Nat) (th N : Int) (Xs Ys Wt Cp sh kp : Int → Int) (iu ax ay ri lT lL hT hL ig : Int) (bs tm : Int) (gN : 0 ≤ N ∧ N ≤ 12) (g1 : -2147483648 ≤ bs ∧ bs ≤ 2147483647) (g2 : -2147483648 ≤ tm ∧ tm ≤ 2147483647) : Met l yX8_misses wsX8_misses ({ frames := 1, cells := 0, slots := 0, locals := 22 }) (zP D [.ref (q 0), .int (iI bs), .int (iI tm)] sz [(q 0, .inr (9, [.int (iI th), .int (iI N), .ref (q 1), .ref (q 2), .ref (q 3), .ref (q 4), .ref (q 5), .ref (q 6), .int (iI iu), .int (iI ax), .int (iI ay), .int (iI ri), .long (lI lT), .long (lI lL), .long (lI hT), .long (lI hL), .int (iI ig)])), (q 1, .inl (cA, 12, .inl (zF Xs))), (q 2, .inl (cA, 12, .inl (zF Ys))), (q 3, .inl (cA, 12, .inl (zF Wt))), (q 4, .inl (cA, 12, .inl (zF Cp))), (q 5, .inl (cA, 12, .inl (zF sh))), (q 6, .inl (cA, 12, .inl (zF kp)))] tys) (zRi (zMs bs tm N) sz) 0 0 (zN sz) := by
  refine Met.ofW (cc := cX8_misses) (maxL := 3) (ret := (some .int)) (by decide +kernel) rfl ?_
  intro p e s m args below meth c s₁ B hml hv
  obtain ⟨rfl, hsz, hP, hK, hD0⟩ := hv
  have hx := B.exec
  have hb := B.bytes
  have hr := B.returns
  have hts := atoms_spec (ws := wsX8_misses) B.pre
  have hown : s.vm.findClass RX8 = some m.cls := findClass_of_methodNamed B.named
  have hlocks := B.notSynchronized
  subst hsz
  have hD := hD0
  have hS : va_S (zN s.heap.size) s.heap s.heap [] := va_S.rf
  have hA : ∀ q9 : Nat, s.heap.size ≤ q9 → (zN s.heap.size) q9 := fun q9 h => h
  have hl := lv_entry ([.ref (q 0), .int (iI bs), .int (iI tm)]) (n := 3) (Nat.le_of_ble_eq_true rfl)
  rw [lg_entry_eq]
  generalize (lg_sl ([.ref (q 0), .int (iI bs), .int (iI tm)]) ++ List.replicate (3 - (lg_sl ([.ref (q 0), .int (iI bs), .int (iI tm)])).length) Slot.unset).toArray = ls at hl ⊢
  have hl : lv_has ls 3 [(0, .ref (q 0)), (1, .int (iI bs)), (2, .int (iI tm))] := hl
  refine lv_iload_n hx hb dX8_misses_0 rfl (lv_at hl 1 rfl) ?_
  refine lv_iconst (v := iI 1) hx hb dX8_misses_1 rfl ?_
  refine lv_sipush (v := iI 999) hx hb dX8_misses_2 (by decide +kernel) ?_
  refine zc_riS (As := [.int (iI bs), .int (iI 1), .int (iI 999)]) (rest := []) ⟨hx, hb, hml, hown, hts⟩ (c_X8_in l D _ tys cA hty bs 1 999 (by omega) (by omega) (by omega)) (va_cwS 3 hts gX8_misses_X8_in rfl rfl rfl (by decide +kernel) ⟨(Nat.le_of_ble_eq_true rfl), (Nat.le_of_ble_eq_true rfl)⟩) hP hK hD hS hA [] rfl rfl rfl hl.1 rfl (Nat.le_of_ble_eq_true rfl) dX8_misses_5 ⟨Nat.zero_le _, Nat.zero_le _⟩ (fun H locs hP hS => ?_)
  refine zb_if_eq (tgt := 21) hx hb dX8_misses_8 (by decide) (fun c8 => ?_) (fun c8 => ?_)
  · skip
    refine lv_iconst (v := iI 1) hx hb dX8_misses_21 rfl ?_
    refine lv_goto (tgt := 37) hx hb dX8_misses_22 (by decide) ?_
    exact W.iret (v := iI 1) hx hb hr (fun t ht hW => ⟨⟨iI 1, (), rfl, congrArg iI (show 1 = zMs bs tm N from by unfold zMs; first | exact (if_pos (by omega)).symm | (rw [if_neg (by omega)]; first | exact (if_pos (by omega)).symm | exact (if_neg (by omega)).symm)), trivial⟩, hS.F ht⟩) hS.2.2 dX8_misses_37
  · skip
    refine lv_iload_n hx hb dX8_misses_11 rfl (lv_at hl 2 rfl) ?_
    refine lv_iconst (v := iI 1) hx hb dX8_misses_12 rfl ?_
    refine lv_bipush (v := iI 20) hx hb dX8_misses_13 (by decide +kernel) ?_
    refine zc_riS (As := [.int (iI tm), .int (iI 1), .int (iI 20)]) (rest := []) ⟨hx, hb, hml, hown, hts⟩ (c_X8_in l D _ tys cA hty tm 1 20 (by omega) (by omega) (by omega)) (va_cwS 3 hts gX8_misses_X8_in rfl rfl rfl (by decide +kernel) ⟨(Nat.le_of_ble_eq_true rfl), (Nat.le_of_ble_eq_true rfl)⟩) hP hK hD hS hA [] rfl rfl rfl hl.1 rfl (Nat.le_of_ble_eq_true rfl) dX8_misses_15 ⟨Nat.zero_le _, Nat.zero_le _⟩ (fun H locs hP hS => ?_)
    refine zb_if_ne (tgt := 25) hx hb dX8_misses_18 (by decide) (fun c18 => ?_) (fun c18 => ?_)
    · skip
      refine lv_aload_n hx hb dX8_misses_25 rfl (lv_at hl 0 rfl) ?_
      refine va_get (ci := 9) (v := .int (iI N)) (C := RX8) (T := TX8) (N := 17) hx hb hts iz_X8_misses_X8 hown hK hP 0 rfl rfl 1 (by decide) (hts (.fieldLink RX8 32 "PowerPlotModel" "sites" "I") (by decide +kernel)) (fun _ h9 => h9) rfl dX8_misses_26 ?_
      refine zi_if_ne (tgt := 36) hx hb dX8_misses_29 (by decide) (by omega) (fun c29 => ?_) (fun c29 => ?_)
      · skip
        refine lv_iconst (v := iI 0) hx hb dX8_misses_36 rfl ?_
        exact W.iret (v := iI 0) hx hb hr (fun t ht hW => ⟨⟨iI 0, (), rfl, congrArg iI (show 0 = zMs bs tm N from by unfold zMs; first | exact (if_pos (by omega)).symm | (rw [if_neg (by omega)]; first | exact (if_pos (by omega)).symm | exact (if_neg (by omega)).symm)), trivial⟩, hS.F ht⟩) hS.2.2 dX8_misses_37
      · skip
        refine lv_iconst (v := iI 2) hx hb dX8_misses_32 rfl ?_
        refine lv_goto (tgt := 37) hx hb dX8_misses_33 (by decide) ?_
        exact W.iret (v := iI 2) hx hb hr (fun t ht hW => ⟨⟨iI 2, (), rfl, congrArg iI (show 2 = zMs bs tm N from by unfold zMs; first | exact (if_pos (by omega)).symm | (rw [if_neg (by omega)]; first | exact (if_pos (by omega)).symm | exact (if_neg (by omega)).symm)), trivial⟩, hS.F ht⟩) hS.2.2 dX8_misses_37
    · skip
      refine lv_iconst (v := iI 1) hx hb dX8_misses_21 rfl ?_
      refine lv_goto (tgt := 37) hx hb dX8_misses_22 (by decide) ?_
      exact W.iret (v := iI 1) hx hb hr (fun t ht hW => ⟨⟨iI 1, (), rfl, congrArg iI (show 1 = zMs bs tm N from by unfold zMs; first | exact (if_pos (by omega)).symm | (rw [if_neg (by omega)]; first | exact (if_pos (by omega)).symm | exact (if_neg (by omega)).symm)), trivial⟩, hS.F ht⟩) hS.2.2 dX8_misses_37
