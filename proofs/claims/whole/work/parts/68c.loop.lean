theorem z31 (x : Int) : ∃ k : Int, (0 ≤ k ∧ k ≤ 31) ∧ iI x &&& iI 31 = iI k := by
  obtain ⟨j, hj, e1⟩ := pk_andE (iI x) (m := iI 31) 5 (by decide)
  exact ⟨(j : Int), by omega, e1.trans (nI_i (by omega))⟩
set_option maxHeartbeats 4000000 in
set_option maxRecDepth 100000 in
theorem zq_next {p : Program} {l : Launch} {e : Env} {s : State} {m : MethodId} {args : Array Value} {below : List Frame} {meth : Method} {c : Code} {Q : State → Prop} {D : va_G} {tys : List (ClassId × FieldType)} {cA cL cB : ClassId} {b L : Nat} {xs : Nat → Int32} {ad : Nat → Nat} {t1 t2 : Nat} {a q : Nat → Nat} {oa : Nat} {iv : Int} {kc ks : Nat} (C : zLc p l s m c D tys cA cL cB b L xs ad t1 t2 args) (K : zAt p l e s m args below meth c Q D a q oa cA cL b 23 (iv + 5) kc ks) : zAt p l e s m args below meth c Q D a q oa cA cL b 1415 iv kc ks := by
  obtain ⟨hst, hx, hb, hml, hown, hts, hty, htl, htb, hK, hEn, hCt, hZ, hX, hbl, hL⟩ := C
  intro N Xs Ys Wt Cp cf cl ex kp dx dy dh up em rf sf lv lt lb ut ub tt tb th sh kr iu ax ay ri lT lL hT hL ig ou H locs ls hI hP hD hS hl
  refine lv_iinc (v := iI (iv + 5)) (lv' := [(4, .int (iI (iv + 5))), (0, .ref b), (1, .ref (a 0)), (2, .ref (q 0)), (3, .ref oa)]) hx hb dL_law_1415 hl (k := 4) rfl (iI_add iv 5) (by decide) rfl (fun ls hl => ?_)
  refine lv_goto (tgt := 23) hx hb dL_law_1418 (by decide) ?_
  exact K N Xs Ys Wt Cp cf cl ex kp dx dy dh up em rf sf lv lt lb ut ub tt tb th sh kr iu ax ay ri lT lL hT hL ig ou H locs ls hI hP hD hS (lv_sub hl [1, 2, 3, 4, 0] rfl)
set_option maxHeartbeats 4000000 in
set_option maxRecDepth 100000 in
theorem zq_sw {p : Program} {l : Launch} {e : Env} {s : State} {m : MethodId} {args : Array Value} {below : List Frame} {meth : Method} {c : Code} {Q : State → Prop} {D : va_G} {tys : List (ClassId × FieldType)} {cA cL cB : ClassId} {b L : Nat} {xs : Nat → Int32} {ad : Nat → Nat} {t1 t2 : Nat} {a q : Nat → Nat} {oa : Nat} {iv : Int} {kc ks : Nat} (C : zLc p l s m c D tys cA cL cB b L xs ad t1 t2 args) (hi : 0 ≤ iv ∧ iv + 5 ≤ (L : Int)) (hk : kc + 3 ≤ room_1.cells ∧ ks + 26 ≤ room_1.slots) (K : zAt p l e s m args below meth c Q D a q oa cA cL b 1415 iv (kc + 3) (ks + 26)) : zAt p l e s m args below meth c Q D a q oa cA cL b 32 iv kc ks := by
  obtain ⟨hst, hx, hb, hml, hown, hts, hty, htl, htb, hK, hEn, hCt, hZ, hX, hbl, hL⟩ := id C
  intro N Xs Ys Wt Cp cf cl ex kp dx dy dh up em rf sf lv lt lb ut ub tt tb th sh kr iu ax ay ri lT lL hT hL ig ou H locs ls hI hP hD hS hl
  have hbA : ¬ zN s.heap.size b := Nat.not_le.mpr hbl
  refine lv_aload_n hx hb dL_law_32 rfl (lv_at hl 0 rfl) ?_
  refine lv_iload hx hb dL_law_33 (lv_at hl 4 rfl) ?_
  refine zi_sald hx hb hX hbl hbA hS (by omega) (by omega) dL_law_35 ?_
  refine lv_bipush (v := iI 31) hx hb dL_law_36 (by decide +kernel) ?_
  refine lv_iand hx hb dL_law_38 ?_
  obtain ⟨k, hk1, e1⟩ := z31 (zSx xs iv)
  rw [e1]
  obtain z9 | z9 | z9 | z9 | z9 | z9 | z9 | z9 | z9 | z9 | z9 | z9 | z9 | z9 | z9 | z9 | z9 | z9 | z9 | z9 | z9 | z9 | z9 | z9 | z9 | z9 | z9 | z9 | z9 | z9 | z9 | z9 : k = 0 ∨ k = 1 ∨ k = 2 ∨ k = 3 ∨ k = 4 ∨ k = 5 ∨ k = 6 ∨ k = 7 ∨ k = 8 ∨ k = 9 ∨ k = 10 ∨ k = 11 ∨ k = 12 ∨ k = 13 ∨ k = 14 ∨ k = 15 ∨ k = 16 ∨ k = 17 ∨ k = 18 ∨ k = 19 ∨ k = 20 ∨ k = 21 ∨ k = 22 ∨ k = 23 ∨ k = 24 ∨ k = 25 ∨ k = 26 ∨ k = 27 ∨ k = 28 ∨ k = 29 ∨ k = 30 ∨ k = 31 := by omega
  · refine lv_tableIn (off := 93) (tgt := 132) hx hb dL_law_39 (by rw [z9]; decide +kernel) (by rw [z9]; decide +kernel) (by rw [z9]; decide +kernel) (by decide) ?_
    exact zq_0 C hi hk K N Xs Ys Wt Cp cf cl ex kp dx dy dh up em rf sf lv lt lb ut ub tt tb th sh kr iu ax ay ri lT lL hT hL ig ou H locs ls hI hP hD hS hl
  · refine lv_tableIn (off := 173) (tgt := 212) hx hb dL_law_39 (by rw [z9]; decide +kernel) (by rw [z9]; decide +kernel) (by rw [z9]; decide +kernel) (by decide) ?_
    exact zq_1 C hi hk K N Xs Ys Wt Cp cf cl ex kp dx dy dh up em rf sf lv lt lb ut ub tt tb th sh kr iu ax ay ri lT lL hT hL ig ou H locs ls hI hP hD hS hl
  · refine lv_tableIn (off := 233) (tgt := 272) hx hb dL_law_39 (by rw [z9]; decide +kernel) (by rw [z9]; decide +kernel) (by rw [z9]; decide +kernel) (by decide) ?_
    exact zq_2 C hi hk K N Xs Ys Wt Cp cf cl ex kp dx dy dh up em rf sf lv lt lb ut ub tt tb th sh kr iu ax ay ri lT lL hT hL ig ou H locs ls hI hP hD hS hl
  · refine lv_tableIn (off := 301) (tgt := 340) hx hb dL_law_39 (by rw [z9]; decide +kernel) (by rw [z9]; decide +kernel) (by rw [z9]; decide +kernel) (by decide) ?_
    exact zq_3 C hi hk K N Xs Ys Wt Cp cf cl ex kp dx dy dh up em rf sf lv lt lb ut ub tt tb th sh kr iu ax ay ri lT lL hT hL ig ou H locs ls hI hP hD hS hl
  · refine lv_tableIn (off := 369) (tgt := 408) hx hb dL_law_39 (by rw [z9]; decide +kernel) (by rw [z9]; decide +kernel) (by rw [z9]; decide +kernel) (by decide) ?_
    exact zq_4 C hi hk K N Xs Ys Wt Cp cf cl ex kp dx dy dh up em rf sf lv lt lb ut ub tt tb th sh kr iu ax ay ri lT lL hT hL ig ou H locs ls hI hP hD hS hl
  · refine lv_tableIn (off := 437) (tgt := 476) hx hb dL_law_39 (by rw [z9]; decide +kernel) (by rw [z9]; decide +kernel) (by rw [z9]; decide +kernel) (by decide) ?_
    exact zq_5 C hi hk K N Xs Ys Wt Cp cf cl ex kp dx dy dh up em rf sf lv lt lb ut ub tt tb th sh kr iu ax ay ri lT lL hT hL ig ou H locs ls hI hP hD hS hl
  · refine lv_tableIn (off := 450) (tgt := 489) hx hb dL_law_39 (by rw [z9]; decide +kernel) (by rw [z9]; decide +kernel) (by rw [z9]; decide +kernel) (by decide) ?_
    exact zq_6 C hi hk K N Xs Ys Wt Cp cf cl ex kp dx dy dh up em rf sf lv lt lb ut ub tt tb th sh kr iu ax ay ri lT lL hT hL ig ou H locs ls hI hP hD hS hl
  · refine lv_tableIn (off := 518) (tgt := 557) hx hb dL_law_39 (by rw [z9]; decide +kernel) (by rw [z9]; decide +kernel) (by rw [z9]; decide +kernel) (by decide) ?_
    exact zq_7 C hi hk K N Xs Ys Wt Cp cf cl ex kp dx dy dh up em rf sf lv lt lb ut ub tt tb th sh kr iu ax ay ri lT lL hT hL ig ou H locs ls hI hP hD hS hl
  · refine lv_tableIn (off := 598) (tgt := 637) hx hb dL_law_39 (by rw [z9]; decide +kernel) (by rw [z9]; decide +kernel) (by rw [z9]; decide +kernel) (by decide) ?_
    exact zq_8 C hi hk K N Xs Ys Wt Cp cf cl ex kp dx dy dh up em rf sf lv lt lb ut ub tt tb th sh kr iu ax ay ri lT lL hT hL ig ou H locs ls hI hP hD hS hl
  · refine lv_tableIn (off := 666) (tgt := 705) hx hb dL_law_39 (by rw [z9]; decide +kernel) (by rw [z9]; decide +kernel) (by rw [z9]; decide +kernel) (by decide) ?_
    exact zq_9 C hi hk K N Xs Ys Wt Cp cf cl ex kp dx dy dh up em rf sf lv lt lb ut ub tt tb th sh kr iu ax ay ri lT lL hT hL ig ou H locs ls hI hP hD hS hl
  · refine lv_tableIn (off := 722) (tgt := 761) hx hb dL_law_39 (by rw [z9]; decide +kernel) (by rw [z9]; decide +kernel) (by rw [z9]; decide +kernel) (by decide) ?_
    exact zq_10 C hi hk K N Xs Ys Wt Cp cf cl ex kp dx dy dh up em rf sf lv lt lb ut ub tt tb th sh kr iu ax ay ri lT lL hT hL ig ou H locs ls hI hP hD hS hl
  · refine lv_tableIn (off := 778) (tgt := 817) hx hb dL_law_39 (by rw [z9]; decide +kernel) (by rw [z9]; decide +kernel) (by rw [z9]; decide +kernel) (by decide) ?_
    exact zq_11 C hi hk K N Xs Ys Wt Cp cf cl ex kp dx dy dh up em rf sf lv lt lb ut ub tt tb th sh kr iu ax ay ri lT lL hT hL ig ou H locs ls hI hP hD hS hl
  · refine lv_tableIn (off := 874) (tgt := 913) hx hb dL_law_39 (by rw [z9]; decide +kernel) (by rw [z9]; decide +kernel) (by rw [z9]; decide +kernel) (by decide) ?_
    exact zq_12 C hi hk K N Xs Ys Wt Cp cf cl ex kp dx dy dh up em rf sf lv lt lb ut ub tt tb th sh kr iu ax ay ri lT lL hT hL ig ou H locs ls hI hP hD hS hl
  · refine lv_tableIn (off := 937) (tgt := 976) hx hb dL_law_39 (by rw [z9]; decide +kernel) (by rw [z9]; decide +kernel) (by rw [z9]; decide +kernel) (by decide) ?_
    exact zq_13 C hi hk K N Xs Ys Wt Cp cf cl ex kp dx dy dh up em rf sf lv lt lb ut ub tt tb th sh kr iu ax ay ri lT lL hT hL ig ou H locs ls hI hP hD hS hl
  · refine lv_tableIn (off := 1012) (tgt := 1051) hx hb dL_law_39 (by rw [z9]; decide +kernel) (by rw [z9]; decide +kernel) (by rw [z9]; decide +kernel) (by decide) ?_
    exact zq_14 C hi hk K N Xs Ys Wt Cp cf cl ex kp dx dy dh up em rf sf lv lt lb ut ub tt tb th sh kr iu ax ay ri lT lL hT hL ig ou H locs ls hI hP hD hS hl
  · refine lv_tableIn (off := 1080) (tgt := 1119) hx hb dL_law_39 (by rw [z9]; decide +kernel) (by rw [z9]; decide +kernel) (by rw [z9]; decide +kernel) (by decide) ?_
    exact zq_15 C hi hk K N Xs Ys Wt Cp cf cl ex kp dx dy dh up em rf sf lv lt lb ut ub tt tb th sh kr iu ax ay ri lT lL hT hL ig ou H locs ls hI hP hD hS hl
  · refine lv_tableIn (off := 1171) (tgt := 1210) hx hb dL_law_39 (by rw [z9]; decide +kernel) (by rw [z9]; decide +kernel) (by rw [z9]; decide +kernel) (by decide) ?_
    exact zq_16 C hi hk K N Xs Ys Wt Cp cf cl ex kp dx dy dh up em rf sf lv lt lb ut ub tt tb th sh kr iu ax ay ri lT lL hT hL ig ou H locs ls hI hP hD hS hl
  · refine lv_tableIn (off := 1227) (tgt := 1266) hx hb dL_law_39 (by rw [z9]; decide +kernel) (by rw [z9]; decide +kernel) (by rw [z9]; decide +kernel) (by decide) ?_
    exact zq_17 C hi hk K N Xs Ys Wt Cp cf cl ex kp dx dy dh up em rf sf lv lt lb ut ub tt tb th sh kr iu ax ay ri lT lL hT hL ig ou H locs ls hI hP hD hS hl
  · refine lv_tableIn (off := 1240) (tgt := 1279) hx hb dL_law_39 (by rw [z9]; decide +kernel) (by rw [z9]; decide +kernel) (by rw [z9]; decide +kernel) (by decide) ?_
    exact zq_18 C hi hk K N Xs Ys Wt Cp cf cl ex kp dx dy dh up em rf sf lv lt lb ut ub tt tb th sh kr iu ax ay ri lT lL hT hL ig ou H locs ls hI hP hD hS hl
  · refine lv_tableIn (off := 1308) (tgt := 1347) hx hb dL_law_39 (by rw [z9]; decide +kernel) (by rw [z9]; decide +kernel) (by rw [z9]; decide +kernel) (by decide) ?_
    exact zq_19 C hi hk K N Xs Ys Wt Cp cf cl ex kp dx dy dh up em rf sf lv lt lb ut ub tt tb th sh kr iu ax ay ri lT lL hT hL ig ou H locs ls hI hP hD hS hl
  · refine lv_tableOut (tgt := 1415) hx hb dL_law_39 (by rw [z9]; decide +kernel) (by decide) ?_
    refine W.widen (k := kc + 3) (n := ks + 26) (by omega) (by omega) ?_
    exact K N Xs Ys Wt Cp cf cl ex kp dx dy dh up em rf sf lv lt lb ut ub tt tb th sh kr iu ax ay ri lT lL hT hL ig ou H locs ls hI hP hD hS hl
  · refine lv_tableOut (tgt := 1415) hx hb dL_law_39 (by rw [z9]; decide +kernel) (by decide) ?_
    refine W.widen (k := kc + 3) (n := ks + 26) (by omega) (by omega) ?_
    exact K N Xs Ys Wt Cp cf cl ex kp dx dy dh up em rf sf lv lt lb ut ub tt tb th sh kr iu ax ay ri lT lL hT hL ig ou H locs ls hI hP hD hS hl
  · refine lv_tableOut (tgt := 1415) hx hb dL_law_39 (by rw [z9]; decide +kernel) (by decide) ?_
    refine W.widen (k := kc + 3) (n := ks + 26) (by omega) (by omega) ?_
    exact K N Xs Ys Wt Cp cf cl ex kp dx dy dh up em rf sf lv lt lb ut ub tt tb th sh kr iu ax ay ri lT lL hT hL ig ou H locs ls hI hP hD hS hl
  · refine lv_tableOut (tgt := 1415) hx hb dL_law_39 (by rw [z9]; decide +kernel) (by decide) ?_
    refine W.widen (k := kc + 3) (n := ks + 26) (by omega) (by omega) ?_
    exact K N Xs Ys Wt Cp cf cl ex kp dx dy dh up em rf sf lv lt lb ut ub tt tb th sh kr iu ax ay ri lT lL hT hL ig ou H locs ls hI hP hD hS hl
  · refine lv_tableOut (tgt := 1415) hx hb dL_law_39 (by rw [z9]; decide +kernel) (by decide) ?_
    refine W.widen (k := kc + 3) (n := ks + 26) (by omega) (by omega) ?_
    exact K N Xs Ys Wt Cp cf cl ex kp dx dy dh up em rf sf lv lt lb ut ub tt tb th sh kr iu ax ay ri lT lL hT hL ig ou H locs ls hI hP hD hS hl
  · refine lv_tableOut (tgt := 1415) hx hb dL_law_39 (by rw [z9]; decide +kernel) (by decide) ?_
    refine W.widen (k := kc + 3) (n := ks + 26) (by omega) (by omega) ?_
    exact K N Xs Ys Wt Cp cf cl ex kp dx dy dh up em rf sf lv lt lb ut ub tt tb th sh kr iu ax ay ri lT lL hT hL ig ou H locs ls hI hP hD hS hl
  · refine lv_tableOut (tgt := 1415) hx hb dL_law_39 (by rw [z9]; decide +kernel) (by decide) ?_
    refine W.widen (k := kc + 3) (n := ks + 26) (by omega) (by omega) ?_
    exact K N Xs Ys Wt Cp cf cl ex kp dx dy dh up em rf sf lv lt lb ut ub tt tb th sh kr iu ax ay ri lT lL hT hL ig ou H locs ls hI hP hD hS hl
  · refine lv_tableOut (tgt := 1415) hx hb dL_law_39 (by rw [z9]; decide +kernel) (by decide) ?_
    refine W.widen (k := kc + 3) (n := ks + 26) (by omega) (by omega) ?_
    exact K N Xs Ys Wt Cp cf cl ex kp dx dy dh up em rf sf lv lt lb ut ub tt tb th sh kr iu ax ay ri lT lL hT hL ig ou H locs ls hI hP hD hS hl
  · refine lv_tableOut (tgt := 1415) hx hb dL_law_39 (by rw [z9]; decide +kernel) (by decide) ?_
    refine W.widen (k := kc + 3) (n := ks + 26) (by omega) (by omega) ?_
    exact K N Xs Ys Wt Cp cf cl ex kp dx dy dh up em rf sf lv lt lb ut ub tt tb th sh kr iu ax ay ri lT lL hT hL ig ou H locs ls hI hP hD hS hl
  · refine lv_tableOut (tgt := 1415) hx hb dL_law_39 (by rw [z9]; decide +kernel) (by decide) ?_
    refine W.widen (k := kc + 3) (n := ks + 26) (by omega) (by omega) ?_
    exact K N Xs Ys Wt Cp cf cl ex kp dx dy dh up em rf sf lv lt lb ut ub tt tb th sh kr iu ax ay ri lT lL hT hL ig ou H locs ls hI hP hD hS hl
  · refine lv_tableOut (tgt := 1415) hx hb dL_law_39 (by rw [z9]; decide +kernel) (by decide) ?_
    refine W.widen (k := kc + 3) (n := ks + 26) (by omega) (by omega) ?_
    exact K N Xs Ys Wt Cp cf cl ex kp dx dy dh up em rf sf lv lt lb ut ub tt tb th sh kr iu ax ay ri lT lL hT hL ig ou H locs ls hI hP hD hS hl
  · refine lv_tableOut (tgt := 1415) hx hb dL_law_39 (by rw [z9]; decide +kernel) (by decide) ?_
    refine W.widen (k := kc + 3) (n := ks + 26) (by omega) (by omega) ?_
    exact K N Xs Ys Wt Cp cf cl ex kp dx dy dh up em rf sf lv lt lb ut ub tt tb th sh kr iu ax ay ri lT lL hT hL ig ou H locs ls hI hP hD hS hl
set_option maxHeartbeats 4000000 in
set_option maxRecDepth 100000 in
theorem zq_loop {p : Program} {l : Launch} {e : Env} {s : State} {m : MethodId} {args : Array Value} {below : List Frame} {meth : Method} {c : Code} {Q : State → Prop} {D : va_G} {tys : List (ClassId × FieldType)} {cA cL cB : ClassId} {b L : Nat} {xs : Nat → Int32} {ad : Nat → Nat} {t1 t2 : Nat} {a q : Nat → Nat} {oa : Nat} (C : zLc p l s m c D tys cA cL cB b L xs ad t1 t2 args) (K : ∀ (iv : Int) (kc ks : Nat), kc ≤ 671026 → ks ≤ 7083026 → zAt p l e s m args below meth c Q D a q oa cA cL b 1421 iv kc ks) : ∀ (n : Nat) (iv : Int) (kc ks : Nat), (L : Int) - iv < (n : Int) → 0 ≤ iv → iv ≤ (L : Int) → 5 * (kc : Int) ≤ 300 + 3 * iv → 5 * (ks : Int) ≤ 1300 + 26 * iv → zAt p l e s m args below meth c Q D a q oa cA cL b 23 iv kc ks := by
  intro n
  induction n with
  | zero =>
    intro iv kc ks h1 h2 h3
    exact absurd h1 (by omega)
  | succ n ih =>
    intro iv kc ks h1 h2 h3 h4 h5
    obtain ⟨hst, hx, hb, hml, hown, hts, hty, htl, htb, hK, hEn, hCt, hZ, hX, hbl, hL⟩ := id C
    have hk : kc + 3 ≤ room_1.cells ∧ ks + 26 ≤ room_1.slots := ⟨show kc + 3 ≤ 671026 by omega, show ks + 26 ≤ 7083026 by omega⟩
    intro N Xs Ys Wt Cp cf cl ex kp dx dy dh up em rf sf lv lt lb ut ub tt tb th sh kr iu ax ay ri lT lL hT hL ig ou H locs ls hI hP hD hS hl
    have hbA : ¬ zN s.heap.size b := Nat.not_le.mpr hbl
    refine lv_iload hx hb dL_law_23 (lv_at hl 4 rfl) ?_
    refine lv_aload_n hx hb dL_law_25 rfl (lv_at hl 0 rfl) ?_
    refine zi_slen hx hb hX hbl hbA hS (by omega) dL_law_26 ?_
    refine lv_iconst (v := iI 5) hx hb dL_law_27 rfl ?_
    refine zi_isub hx hb dL_law_28 ?_
    refine zi_icmp_gt (tgt := 1421) hx hb dL_law_29 (by decide) (by omega) (by omega) (fun c29 => ?_) (fun c29 => ?_)
    · exact K iv kc ks (by omega) (by omega) N Xs Ys Wt Cp cf cl ex kp dx dy dh up em rf sf lv lt lb ut ub tt tb th sh kr iu ax ay ri lT lL hT hL ig ou H locs ls hI hP hD hS hl
    · exact zq_sw C ⟨h2, by omega⟩ hk (zq_next C (ih (iv + 5) (kc + 3) (ks + 26) (by omega) (by omega) (by omega) (by omega) (by omega))) N Xs Ys Wt Cp cf cl ex kp dx dy dh up em rf sf lv lt lb ut ub tt tb th sh kr iu ax ay ri lT lL hT hL ig ou H locs ls hI hP hD hS hl
