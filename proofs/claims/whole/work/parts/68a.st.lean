/-! what the Statement gives of the start -/
theorem zIv_0 : zIv 0 (fun _ => 0) (fun _ => 0) (fun _ => 0) (fun _ => 0) := ⟨⟨fun _ => (by decide : (0 : Int) ≤ 0 ∧ (0 : Int) ≤ 40), fun _ => (by decide : (0 : Int) ≤ 0 ∧ (0 : Int) ≤ 40), fun _ => (by decide : (-999 : Int) ≤ 0 ∧ (0 : Int) ≤ 999)⟩, by omega, fun _ => (by decide : (0 : Int) ≤ 0 ∧ (0 : Int) ≤ 1681)⟩
theorem zArr {s : State} {args : Array Value} {ty : FieldType} (h : (Cond.arrayClass ty).before args s = true) : ∃ cA : ClassId, ArrOfT s cA ty ∧ s.vm.findClass ("[" ++ ty.toString) = some cA := by
  obtain ⟨cA, kA, comp, f1, f2, f3⟩ := Cond.arrayClass_spec (args := args) (first := s) (o := none) (s := s) (idx := []) h
  exact ⟨cA, fun N z => ⟨(fun k h => by cases h), kA, f2, comp, f3⟩, f1⟩
section ZNL
variable {p : Program} {l : Launch} {e : Env} {R : Room} {s : State} {m : MethodId} {args : Array Value} {below : List Frame} {meth : Method} {c : Code} {H : Heap} {locs : List Loc} {cells slots : Nat} {Q : State → Prop}
variable {cc : ByteArray} {pc : Nat} {ls : Array Slot} {rest : List Value} {D : va_G} {A : Nat → Prop} {tys : List (ClassId × FieldType)} {ws : va_W} {H0 : Heap}
theorem zi_newl {cL : ClassId} {n : Int} {N' : Nat} (hexec : p.tables.exec = Jvm.exec) (hb : c.code = cc) (harr : (Cond.arrayClass .long).before args s = true) (hK : va_K D vwCl tys s) (hP : va_P D vwCl ws H) (hD : va_D A ws) (hS : va_S A H0 H locs) (hA : ∀ q : Nat, H0.size ≤ q → A q) (htl : tys[1]? = some (cL, .long)) (hn : ¬ iI n < 0) (hN : (iI n).toNatClampNeg = N') (hbytes : N' * componentBytes .long ≤ 536870912) (hcells : cells + 1 ≤ R.cells) (hslots : slots + N' ≤ R.slots) (hdg : decode cc pc = .ok (.newarray .long, 2))
    (kk : ∀ (q : Nat) (H1 : Heap), va_P D vwCl (ws ++ [(q, .inl (cL, N', .inr (.inl (zL (fun _ => 0)))))]) H1 → va_D A (ws ++ [(q, .inl (cL, N', .inr (.inl (zL (fun _ => 0)))))]) → va_S A H0 H1 locs → W p l e R s m args below meth c H1 locs (cells + 1) (slots + N') Q (F0 m (pc + 2) ls (.ref q :: rest))) : W p l e R s m args below meth c H locs cells slots Q (F0 m pc ls (.int (iI n) :: rest)) := by
  refine va_newa (atype := .long) (ty := .long) (a0 := (N', .inr (.inl (zL (fun _ => 0))))) hexec hb harr rfl hK hP hD hS hA (fun cC => by
    show arrV cC N' (fun _ => Value.long (lI 0)) = arrV cC N' (fun _ => Value.long 0)
    rw [lI_0]) hn hN hbytes hcells hslots hdg (fun q cC H1 hK1 hP1 hD1 hS1 => ?_)
  have h1 := va_nm_long (hK.2 1 _ htl).2
  have h2 := va_nm_long (hK1.2 tys.length (cC, .long) (by rw [List.getElem?_append_right (Nat.le_refl _), Nat.sub_self]; rfl)).2
  have h3 : cC = cL := Option.some.inj (h2.symm.trans h1)
  subst h3
  exact kk q H1 hP1 hD1 hS1
end ZNL
theorem zD1 : ∀ j : Nat, j < 100 → (flatC (Jvm.Cond.and given_1 narrow_1))[10 + j]? = some (Cond.eq (.elem (.static "java/lang/Integer" "DigitOnes" "[B") (.int (Int32.ofNat j))) (.int (iI (48 + (j : Int) % 10)))) := by decide +kernel
theorem zD2 : ∀ j : Nat, j < 100 → (flatC (Jvm.Cond.and given_1 narrow_1))[113 + j]? = some (Cond.eq (.elem (.static "java/lang/Integer" "DigitTens" "[B") (.int (Int32.ofNat j))) (.int (iI (48 + (j : Int) / 10)))) := by decide +kernel
theorem zOut (s : State) (a : Nat) (h : a < s.heap.size) : ¬ zN s.heap.size a := fun z => absurd h (Nat.not_lt.mpr z)
set_option maxRecDepth 100000 in
theorem zSta_of {s : State} {args : Array Value} (hts : ∀ w ∈ lw_tbl, w.before args s = true) (hq : ∀ w ∈ flatC (Jvm.Cond.and given_1 narrow_1), w.before args s = true) : ∃ t1 t2 : Nat, zSta t1 t2 (zN s.heap.size) s s.heap := by
  obtain ⟨t1, e1, T1⟩ := va_Tof (args := args) (s := s) (tm := .static "java/lang/Integer" "DigitOnes" "[B") (ty := .byte) (N := 100) (f := fun j => .int (iI (48 + (j : Int) % 10))) (A := zN s.heap.size) (by decide) (hq _ (by decide +kernel)) (va_eqt (hq (Cond.eq (.length (.static "java/lang/Integer" "DigitOnes" "[B")) (.int (Int32.ofNat 100))) (by decide +kernel))) (fun j hj => va_eqt (hq _ (List.mem_of_getElem? (zD1 j hj)))) (zOut s)
  obtain ⟨t2, e2, T2⟩ := va_Tof (args := args) (s := s) (tm := .static "java/lang/Integer" "DigitTens" "[B") (ty := .byte) (N := 100) (f := fun j => .int (iI (48 + (j : Int) / 10))) (A := zN s.heap.size) (by decide) (hq _ (by decide +kernel)) (va_eqt (hq (Cond.eq (.length (.static "java/lang/Integer" "DigitTens" "[B")) (.int (Int32.ofNat 100))) (by decide +kernel))) (fun j hj => va_eqt (hq _ (List.mem_of_getElem? (zD2 j hj)))) (zOut s)
  exact ⟨t1, t2, va_Zof (hts (.laysStatic "java/lang/String" "COMPACT_STRINGS" "Z") (by decide +kernel)) (hts (.initialized "java/lang/String") (by decide +kernel)) (va_eqi (hq (Cond.eq (.static "java/lang/String" "COMPACT_STRINGS" "Z") (.int (iI 1))) (by decide +kernel))) (zOut s), va_Zof (hts (.laysStatic "java/lang/Integer" "DigitOnes" "[B") (by decide +kernel)) (hts (.initialized "java/lang/Integer") (by decide +kernel)) e1 (zOut s), va_Zof (hts (.laysStatic "java/lang/Integer" "DigitTens" "[B") (by decide +kernel)) (hts (.initialized "java/lang/Integer") (by decide +kernel)) e2 (zOut s), T1, T2, va_Zqof (hts (.laysStatic "jdk/internal/util/Preconditions" "SIOOBE_FORMATTER" "Ljava/util/function/BiFunction;") (by decide +kernel)) (hts (.initialized "jdk/internal/util/Preconditions") (by decide +kernel)) (hq (Cond.isRef (.static "jdk/internal/util/Preconditions" "SIOOBE_FORMATTER" "Ljava/util/function/BiFunction;")) (by decide +kernel)) (zOut s)⟩
theorem zTx {s : State} {args : Array Value} {k : Nat} {tx : String} (h1 : (Cond.stringRef RX7 k tx).before args s = true) (h2 : (Cond.exactly (.string RX7 k) "java/lang/String").before args s = true) : ∃ a : Nat, vk_R RX7 k tx a s := by
  obtain ⟨a, c, cA, kA, q1, -⟩ := Cond.exactly_spec (args := args) (first := s) (o := none) (s := s) (idx := []) (t := .string RX7 k) (cls := "java/lang/String") h2
  exact ⟨a, vk_R.of h1 q1⟩
set_option maxRecDepth 100000 in
theorem zWx_of {s : State} {args : Array Value} (hts : ∀ w ∈ lw_tbl, w.before args s = true) : zWx s := ⟨(va_Nw.of rfl (hts (.declares (Bundle.initS "java/lang/RuntimeException")) (by decide +kernel))), (va_Nw.of rfl (hts (.declares (Bundle.initS "java/lang/Exception")) (by decide +kernel))), (va_Nw.of rfl (hts (.declares (Bundle.initS Bundle.tN)) (by decide +kernel))), (va_Nw.of rfl (hts (.castable "java/lang/IndexOutOfBoundsException" "java/lang/IndexOutOfBoundsException") (by decide +kernel))), (va_Nw.of rfl (hts (.castable "java/lang/IllegalArgumentException" "java/lang/IllegalArgumentException") (by decide +kernel))), (va_Nw.of rfl (hts (.castable "java/lang/IllegalStateException" "java/lang/IllegalStateException") (by decide +kernel)))⟩
set_option maxRecDepth 100000 in
theorem zEn_of {s : State} {args : Array Value} (hts : ∀ w ∈ lw_tbl, w.before args s = true) (hq : ∀ w ∈ flatC (Jvm.Cond.and given_1 narrow_1), w.before args s = true) : ∃ ad : Nat → Nat, zEn (zN s.heap.size) ad s s.heap := by
  obtain ⟨a0, h0⟩ := zTx (hts (.stringRef RX7 62 "there are as many sites as there may be") (by decide +kernel)) (hq (Cond.exactly (.string RX7 62) "java/lang/String") (by decide +kernel))
  obtain ⟨a1, h1⟩ := zTx (hts (.stringRef RX7 142 "there is no border") (by decide +kernel)) (hq (Cond.exactly (.string RX7 142) "java/lang/String") (by decide +kernel))
  obtain ⟨a2, h2⟩ := zTx (hts (.stringRef RX7 159 "a place is not below 0") (by decide +kernel)) (hq (Cond.exactly (.string RX7 159) "java/lang/String") (by decide +kernel))
  obtain ⟨a3, h3⟩ := zTx (hts (.stringRef RX7 176 "there is no such site") (by decide +kernel)) (hq (Cond.exactly (.string RX7 176) "java/lang/String") (by decide +kernel))
  obtain ⟨a4, h4⟩ := zTx (hts (.stringRef RX7 180 "a number is out of its range") (by decide +kernel)) (hq (Cond.exactly (.string RX7 180) "java/lang/String") (by decide +kernel))
  obtain ⟨a5, h5⟩ := zTx (hts (.stringRef RX7 183 "there is no site") (by decide +kernel)) (hq (Cond.exactly (.string RX7 183) "java/lang/String") (by decide +kernel))
  exact ⟨fun i => match i with | 0 => a0 | 1 => a1 | 2 => a2 | 3 => a3 | 4 => a4 | _ => a5, vx_Zqof (hts (.laysStatic Bundle.tN "UNASSIGNED_STACK" Bundle.steD) (by decide +kernel)) (hts (.initialized Bundle.tN) (by decide +kernel)) (hq (Cond.isRef (.static Bundle.tN "UNASSIGNED_STACK" Bundle.steD)) (by decide +kernel)) (zOut s), vx_Zqof (hts (.laysStatic Bundle.tN "SUPPRESSED_SENTINEL" Bundle.listD) (by decide +kernel)) (hts (.initialized Bundle.tN) (by decide +kernel)) (hq (Cond.isRef (.static Bundle.tN "SUPPRESSED_SENTINEL" Bundle.listD)) (by decide +kernel)) (zOut s), h0, h1, h2, h3, h4, h5, zWx_of hts⟩
set_option maxRecDepth 100000 in
theorem zCat_of {s : State} {args : Array Value} (hq : ∀ w ∈ flatC (Jvm.Cond.and given_1 narrow_1), w.before args s = true) : zCat s := ⟨va_Nc.of (hq (Cond.not (.castable "java/lang/IllegalArgumentException" "java/lang/IndexOutOfBoundsException")) (by decide +kernel)), va_Nc.of (hq (Cond.not (.castable "java/lang/IllegalStateException" "java/lang/IndexOutOfBoundsException")) (by decide +kernel)), va_Nc.of (hq (Cond.not (.castable "java/lang/IllegalStateException" "java/lang/IllegalArgumentException")) (by decide +kernel))⟩
set_option maxRecDepth 100000 in
theorem zNs_of {s : State} {args : Array Value} (hts : ∀ w ∈ lw_tbl, w.before args s = true) : zNs s := ⟨va_Nw.of rfl (hts (.methodLinkNest RX7 9 yX4_init RX7) (by decide +kernel)), va_Nw.of rfl (hts (.methodLinkNest RX0 11 yX2_init RX7) (by decide +kernel)), va_Nw.of rfl (hts (.methodLinkNest RX3 9 yX5_init RX7) (by decide +kernel)), va_Nw.of rfl (hts (.methodLinkNest RX4 9 yX5_init RX7) (by decide +kernel)), va_Nw.of rfl (hts (.methodLinkNest RX6 11 yX5_init RX7) (by decide +kernel))⟩
theorem iw_L_J4 : ∀ w ∈ u_ws RJ4 TJ4 4, w ∈ wsL_law := by decide +kernel
theorem iw_L_X0 : ∀ w ∈ u_ws RX0 TX0 9, w ∈ wsL_law := by decide +kernel
theorem iw_L_X1 : ∀ w ∈ u_ws RX1 TX1 3, w ∈ wsL_law := by decide +kernel
theorem iw_L_X2 : ∀ w ∈ u_ws RX2 TX2 2, w ∈ wsL_law := by decide +kernel
theorem iw_L_X3 : ∀ w ∈ u_ws RX3 TX3 4, w ∈ wsL_law := by decide +kernel
theorem iw_L_X4 : ∀ w ∈ u_ws RX4 TX4 5, w ∈ wsL_law := by decide +kernel
theorem iw_L_X5 : ∀ w ∈ u_ws RX5 TX5 1, w ∈ wsL_law := by decide +kernel
theorem iw_L_X6 : ∀ w ∈ u_ws RX6 TX6 4, w ∈ wsL_law := by decide +kernel
theorem iw_L_X7 : ∀ w ∈ u_ws RX7 TX7 5, w ∈ wsL_law := by decide +kernel
theorem iw_L_X8 : ∀ w ∈ u_ws RX8 TX8 17, w ∈ wsL_law := by decide +kernel
set_option maxRecDepth 100000 in
theorem zK_of {s : State} {args : Array Value} (hts : ∀ w ∈ lw_tbl, w.before args s = true) : ∃ (D : va_G) (cA cL cB : ClassId), va_K D vwCl [(cA, .int), (cL, .long), (cB, .byte)] s := by
  obtain ⟨c0, i0, k0⟩ := u_known (C := RJ4) (T := TJ4) (N := 4) (n := 4) (fun w h => hts w (wsL_law_in w h)) iw_L_J4 (hts (.instantiable RJ4 4) (by decide +kernel))
  obtain ⟨c1, i1, k1⟩ := u_known (C := RX0) (T := TX0) (N := 9) (n := 9) (fun w h => hts w (wsL_law_in w h)) iw_L_X0 (hts (.instantiable RX0 9) (by decide +kernel))
  obtain ⟨c2, i2, k2⟩ := u_known (C := RX1) (T := TX1) (N := 3) (n := 3) (fun w h => hts w (wsL_law_in w h)) iw_L_X1 (hts (.instantiable RX1 3) (by decide +kernel))
  obtain ⟨c3, i3, k3⟩ := u_known (C := RX2) (T := TX2) (N := 2) (n := 2) (fun w h => hts w (wsL_law_in w h)) iw_L_X2 (hts (.instantiable RX2 2) (by decide +kernel))
  obtain ⟨c4, i4, k4⟩ := u_known (C := RX3) (T := TX3) (N := 4) (n := 4) (fun w h => hts w (wsL_law_in w h)) iw_L_X3 (hts (.instantiable RX3 4) (by decide +kernel))
  obtain ⟨c5, i5, k5⟩ := u_known (C := RX4) (T := TX4) (N := 5) (n := 5) (fun w h => hts w (wsL_law_in w h)) iw_L_X4 (hts (.instantiable RX4 5) (by decide +kernel))
  obtain ⟨c6, i6, k6⟩ := u_known (C := RX5) (T := TX5) (N := 1) (n := 1) (fun w h => hts w (wsL_law_in w h)) iw_L_X5 (hts (.instantiable RX5 1) (by decide +kernel))
  obtain ⟨c7, i7, k7⟩ := u_known (C := RX6) (T := TX6) (N := 4) (n := 4) (fun w h => hts w (wsL_law_in w h)) iw_L_X6 (hts (.instantiable RX6 4) (by decide +kernel))
  obtain ⟨c8, i8, k8⟩ := u_known (C := RX7) (T := TX7) (N := 5) (n := 5) (fun w h => hts w (wsL_law_in w h)) iw_L_X7 (hts (.instantiable RX7 5) (by decide +kernel))
  obtain ⟨c9, i9, k9⟩ := u_known (C := RX8) (T := TX8) (N := 17) (n := 17) (fun w h => hts w (wsL_law_in w h)) iw_L_X8 (hts (.instantiable RX8 17) (by decide +kernel))
  obtain ⟨cA, fA, gA⟩ := zArr (hts (.arrayClass .int) (by decide +kernel))
  obtain ⟨cL, fL, gL⟩ := zArr (hts (.arrayClass .long) (by decide +kernel))
  obtain ⟨cB, fB, gB⟩ := zArr (hts (.arrayClass .byte) (by decide +kernel))
  refine ⟨((fun k => match k with | 0 => c0 | 1 => c1 | 2 => c2 | 3 => c3 | 4 => c4 | 5 => c5 | 6 => c6 | 7 => c7 | 8 => c8 | _ => c9), (fun k => match k with | 0 => i0 | 1 => i1 | 2 => i2 | 3 => i3 | 4 => i4 | 5 => i5 | 6 => i6 | 7 => i7 | 8 => i8 | _ => i9)), cA, cL, cB, ?_, ?_⟩
  · intro k q hq
    match k, hq with
    | 0, hq => cases hq; exact k0
    | 1, hq => cases hq; exact k1
    | 2, hq => cases hq; exact k2
    | 3, hq => cases hq; exact k3
    | 4, hq => cases hq; exact k4
    | 5, hq => cases hq; exact k5
    | 6, hq => cases hq; exact k6
    | 7, hq => cases hq; exact k7
    | 8, hq => cases hq; exact k8
    | 9, hq => cases hq; exact k9
    | k + 10, hq => exact absurd hq (by simp [vwCl])
  · intro k q hq
    match k, hq with
    | 0, hq => cases hq; exact ⟨fA, gA⟩
    | 1, hq => cases hq; exact ⟨fL, gL⟩
    | 2, hq => cases hq; exact ⟨fB, gB⟩
    | k + 3, hq => exact absurd hq (by simp)
