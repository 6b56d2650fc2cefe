/-- the words of a throw that no method's own list holds -/
def zXn (X : String) : List Cond := [.declares (Bundle.initS "java/lang/RuntimeException"), .declares (Bundle.initS "java/lang/Exception"), .declares (Bundle.initS Bundle.tN), .castable X X]
def zWx (U : State) : Prop := va_Nw (.declares (Bundle.initS "java/lang/RuntimeException")) U ∧ va_Nw (.declares (Bundle.initS "java/lang/Exception")) U ∧ va_Nw (.declares (Bundle.initS Bundle.tN)) U ∧ va_Nw (.castable "java/lang/IndexOutOfBoundsException" "java/lang/IndexOutOfBoundsException") U ∧ va_Nw (.castable "java/lang/IllegalArgumentException" "java/lang/IllegalArgumentException") U ∧ va_Nw (.castable "java/lang/IllegalStateException" "java/lang/IllegalStateException") U
theorem zNw_d {x : MethodName} {u U : State} (hal : u.vm.Alike U.vm) (h : va_Nw (.declares x) u) : va_Nw (.declares x) U := va_tabs rfl (rfl : (u.setVm U.vm).vm = U.vm) (by rw [Cond.declares_setVm hal]; exact h)
theorem zNw_c {C T : String} {u U : State} (hal : u.vm.Alike U.vm) (h : va_Nw (.castable C T) u) : va_Nw (.castable C T) U := va_tabs rfl (rfl : (u.setVm U.vm).vm = U.vm) (by rw [Cond.castable_setVm hal]; exact h)
theorem zWx.moved {u U : State} (hal : u.vm.Alike U.vm) (h : zWx u) : zWx U := ⟨zNw_d hal h.1, zNw_d hal h.2.1, zNw_d hal h.2.2.1, zNw_c hal h.2.2.2.1, zNw_c hal h.2.2.2.2.1, zNw_c hal h.2.2.2.2.2⟩
theorem zWx_ob {args : Array Value} {s : State} (h : zWx s) : ∀ w ∈ zXn "java/lang/IndexOutOfBoundsException", w.before args s = true := vx_c (va_Nw.use rfl h.1) (vx_c (va_Nw.use rfl h.2.1) (vx_c (va_Nw.use rfl h.2.2.1) (vx_c (va_Nw.use rfl h.2.2.2.1) vx_n)))
theorem zWx_ia {args : Array Value} {s : State} (h : zWx s) : ∀ w ∈ zXn "java/lang/IllegalArgumentException", w.before args s = true := vx_c (va_Nw.use rfl h.1) (vx_c (va_Nw.use rfl h.2.1) (vx_c (va_Nw.use rfl h.2.2.1) (vx_c (va_Nw.use rfl h.2.2.2.2.1) vx_n)))
theorem zWx_is {args : Array Value} {s : State} (h : zWx s) : ∀ w ∈ zXn "java/lang/IllegalStateException", w.before args s = true := vx_c (va_Nw.use rfl h.1) (vx_c (va_Nw.use rfl h.2.1) (vx_c (va_Nw.use rfl h.2.2.1) (vx_c (va_Nw.use rfl h.2.2.2.2.2) vx_n)))
/-- what a throw needs of the state: two statics of Throwable outside the world, and the texts -/
def zEn (A : Nat → Prop) (ad : Nat → Nat) (U : State) (H : Heap) : Prop := vx_Zq Bundle.tN "UNASSIGNED_STACK" Bundle.steD A U H ∧ vx_Zq Bundle.tN "SUPPRESSED_SENTINEL" Bundle.listD A U H ∧ vk_R RX7 62 "there are as many sites as there may be" (ad 0) U ∧ vk_R RX7 142 "there is no border" (ad 1) U ∧ vk_R RX7 159 "a place is not below 0" (ad 2) U ∧ vk_R RX7 176 "there is no such site" (ad 3) U ∧ vk_R RX7 180 "a number is out of its range" (ad 4) U ∧ vk_R RX7 183 "there is no site" (ad 5) U ∧ zWx U
theorem zEn.moved {A B : Nat → Prop} {ad : Nat → Nat} {u U : State} {H H1 : Heap} (h : zEn A ad u H) (hvm : u.vm.Alike U.vm) (hk : ∀ (k : Nat) (t : String) (a : Nat), vk_R RX7 k t a u → vk_R RX7 k t a U) (hq : ∀ a : Nat, a < H.size → ¬ A a → H1[a]? = H[a]?) (hAB : ∀ q, B q → A q) : zEn B ad U H1 := by
  obtain ⟨h1, h2, a0, a1, a2, a3, a4, a5, hw⟩ := h
  exact ⟨((h1.kept hq).moved hvm).narrow hAB, ((h2.kept hq).moved hvm).narrow hAB, hk _ _ _ a0, hk _ _ _ a1, hk _ _ _ a2, hk _ _ _ a3, hk _ _ _ a4, hk _ _ _ a5, hw.moved hvm⟩
def zPE (D : va_G) (av : List Value) (sz : Nat) (ws : va_W) (tys : List (ClassId × FieldType)) (ad : Nat → Nat) : Array Value → State → Prop := va_Pc av (fun U => U.heap.size = sz ∧ va_P D vwCl ws U.heap ∧ va_K D vwCl tys U ∧ va_D (fun _ => True) ws ∧ zEn (va_A ws sz) ad U U.heap)
theorem zPE_blind {D : va_G} {av : List Value} {sz : Nat} {ws : va_W} {tys : List (ClassId × FieldType)} {ad : Nat → Nat} : FrameBlind (zPE D av sz ws tys ad) := fun a U g mk q => by
  obtain ⟨q0, q1, qP, qK, qD, qE⟩ := q
  exact ⟨q0, q1, qP, va_K.moved (u := U) (U := U.calling g mk a) (Vm.Alike.refl U.vm) qK, qD, qE.moved (u := U) (U := U.calling g mk a) (Vm.Alike.refl U.vm) (fun k t b h => vk_R.same (u := U) (U := U.calling g mk a) rfl h) (fun _ _ _ => rfl) (fun _ h => h)⟩
/-- the end: thrown, of the class E, the world behind it -/
def zXB {S : Type} (E : String) (D : va_G) (w1 : S → va_W) (w : va_W) (sz : Nat) : String → State → State → Prop := vx_X (fun (_ : S) => True) (fun E1 u t => E1 = E ∧ zB D (w1 u) w sz t) (va_A w sz)
def zNo : Array Value → State → Outcome → State → Prop := fun _ _ _ _ => False
theorem zXB_th {S : Type} {E : String} {D : va_G} {w1 : S → va_W} {w : va_W} {s : State} {H : Heap} {locs : List Loc} (u : S) (hP : va_P D vwCl (w1 u) H) (hD : va_D (va_A w s.heap.size) (w1 u)) (hS : va_S (va_A w s.heap.size) s.heap H locs) : ∀ t : State, s.vm.Alike t.vm → H.size ≤ t.heap.size → (∀ q : Nat, q < H.size → t.heap[q]? = H[q]?) → zXB E D w1 w s.heap.size E s t := by
  intro t _ hz hk
  refine ⟨u, trivial, ⟨rfl, hP.kept (fun k q hq => hk q.1 ((hP k q hq).lt)), hD⟩, Nat.le_trans hS.1 hz, fun q h1 h2 => ?_⟩
  rw [hk q (Nat.lt_of_lt_of_le h1 hS.1)]
  exact hS.2.1 q h1 h2
theorem zXB_t {S : Type} {E : String} {D : va_G} {w1 : S → va_W} {w : va_W} {s : State} {H : Heap} {locs : List Loc} (u : S) (hP : va_P D vwCl (w1 u) H) (hD : va_D (va_A w s.heap.size) (w1 u)) (hS : va_S (va_A w s.heap.size) s.heap H locs) : ∀ t : State, t.heap = H → s.vm.Alike t.vm → zXB E D w1 w s.heap.size E s t := fun t ht hv => zXB_th u hP hD hS t hv (by rw [ht]; exact Nat.le_refl _) (fun q _ => by rw [ht])
section ZE
variable {p : Program} {l : Launch} {e : Env} {R : Room} {s : State} {m : MethodId} {args : Array Value} {below : List Frame} {meth : Method} {c : Code} {H : Heap} {locs : List Loc} {cells slots : Nat} {Q : State → Prop}
variable {cc : ByteArray} {pc : Nat} {ls : Array Slot} {rest st : List Value} {D : va_G} {cl : List vw_C} {A : Nat → Prop} {a : Nat} {tys : List (ClassId × FieldType)} {ws : va_W} {H0 : Heap}
variable {nL maxL n index ci N b mc0 ms0 : Nat} {bytes : ByteArray} {y : MethodName} {ret : Option FieldType} {wsy Ts : List Cond} {rm : Room} {own C E : String} {T : u_T} {fs As : List Value} {wc wr : va_W} {ad : Nat → Nat} {mc ms : Nat}
theorem zb_V {S : Type} {wc1 ws1 : S → va_W} (S9 : CallFix p m c cc nL s args Ts own) (hM : vx_Met l y wsy rm (zPE D (.ref b :: As) H.size wc tys ad) zNo (zXB E D wc1 wc H.size) 1 6 (va_A wc H.size)) (cw : CallW R s args own C index y bytes maxL ret wsy rm 1 6 n) (hP : va_P D vwCl ws H) (hK : va_K D vwCl tys s) (hD : va_D A ws) (hS : va_S A s.heap H locs) (hA : ∀ q : Nat, s.heap.size ≤ q → A q) (hEn : zEn A ad s s.heap) (isC : List Nat) (hnd : va_nd isC = true) (hC : isC.map (fun i => ws[i]?) = wc.map some) (hc : vwCl[ci]? = some (C, T, N)) (he : wc[0]? = some (b, .inr (ci, fs))) (isR isB : List Nat) (hR : isR.map (fun i => ws[i]?) = wr.map some) (hnR : va_nd isR = true) (hdis : ∀ i ∈ isR, i ∉ isC) (hB : ∀ u : S, isB.map (fun i => (wr ++ wc1 u)[i]?) = (ws1 u).map some) (hnB : va_nd isB = true) (hn : As.length = n) (hsize : ls.size = nL) (hstack : st = As.reverse ++ .ref b :: rest) (hrest : (rest.map fun v => v.category).sum ≤ 8) (hdg : decode cc pc = .ok (.invokevirtual index, 3)) (hf : cells + 1 ≤ R.cells ∧ slots + 6 ≤ R.slots)
    (kx : ∀ (u : S) (H1 : Heap) (locs1 : List Loc) (q9 : Addr) (ce : Cell), va_P D vwCl (ws1 u) H1 → va_D A (ws1 u) → va_S A s.heap H1 locs1 → H1[q9]? = some ce → ce.vm = .none → s.vm.findClass E = some ce.cls → vx_W p l e R s m args below meth c H1 locs1 (cells + 1) (slots + 6) Q (F0 m pc ls rest) q9) : W p l e R s m args below meth c H locs cells slots Q (F0 m pc ls st) := by
  have hf9 : ∀ q : Nat, (va_A wc H.size) q → A q := va_free hD hS hA isC hC
  have hD2 := hD.sub (ws' := wc) isC hnd hC
  have hPc := zsub_P hP isC hC
  have hr := vx_runV (e := e) (below := below) (meth := meth) (As := As) (rest := rest) (g := F0 m pc ls st) (H := H) (locs := locs) (cells := cells) (slots := slots) S9 hM cw ⟨zPE_blind, va_recv hK (zsub_P hP isC hC) hc he, fun U hU hW => ⟨rfl, by rw [hU], by rw [hU]; exact hPc, va_K.moved hW.alike hK, hD2.weaken (fun _ _ _ _ => trivial), by rw [hU]; exact hEn.moved hW.alike (fun k t a h => vk_R.warm hW h) (fun a h1 h2 => hS.2.1 a h1 h2) hf9⟩⟩ rfl hn hsize hstack (lv_room hrest) hdg hf
  intro T hT X
  rcases hr T hT X with ⟨v, st₀, t, T', L, h0, X', hL, e1, e2, hq, st⟩ | ⟨q, st₀, t, T', L, E', ce, h0, X', hL, e1, e2, ⟨u9, hp, ⟨hE, hB1⟩, hF⟩, hce, hcv, hcl, st⟩
  · exact hq.elim
  · subst hE
    obtain ⟨k1, k2, k3⟩ := vx_keep h0 e1 hS (fun q _ h => hf9 q h) hf9 hL hF
    obtain ⟨hP1, hD1⟩ := hB1
    rw [← e1] at hP1
    obtain ⟨hP3, hD3⟩ := va_join hP hD isC isR hC hR hnR hdis k2 hf9 hP1 hD1
    obtain ⟨t2, a1, b1⟩ := kx u9 T'.heap (locs ++ L) q ce (zsub_P hP3 isB (hB u9)) (hD3.sub isB hnB (hB u9)) k3 (by rw [e1]; exact hce) hcv hcl T' rfl X'
    exact ⟨t2, st.trans a1, b1⟩
theorem zb_S {S : Type} {wc1 ws1 : S → va_W} (S9 : CallFix p m c cc nL s args Ts own) (hM : vx_Met l y wsy rm (zPE D (As) H.size wc tys ad) zNo (zXB E D wc1 wc H.size) 1 6 (va_A wc H.size)) (cw : CallB R s args own index y bytes maxL ret wsy rm 1 6 n ∧ (Cond.static y).before args s = true) (hP : va_P D vwCl ws H) (hK : va_K D vwCl tys s) (hD : va_D A ws) (hS : va_S A s.heap H locs) (hA : ∀ q : Nat, s.heap.size ≤ q → A q) (hEn : zEn A ad s s.heap) (isC : List Nat) (hnd : va_nd isC = true) (hC : isC.map (fun i => ws[i]?) = wc.map some) (isR isB : List Nat) (hR : isR.map (fun i => ws[i]?) = wr.map some) (hnR : va_nd isR = true) (hdis : ∀ i ∈ isR, i ∉ isC) (hB : ∀ u : S, isB.map (fun i => (wr ++ wc1 u)[i]?) = (ws1 u).map some) (hnB : va_nd isB = true) (hn : As.length = n) (hsize : ls.size = nL) (hstack : st = As.reverse ++ rest) (hrest : (rest.map fun v => v.category).sum ≤ 8) (hdg : decode cc pc = .ok (.invokestatic index, 3)) (hf : cells + 1 ≤ R.cells ∧ slots + 6 ≤ R.slots)
    (kx : ∀ (u : S) (H1 : Heap) (locs1 : List Loc) (q9 : Addr) (ce : Cell), va_P D vwCl (ws1 u) H1 → va_D A (ws1 u) → va_S A s.heap H1 locs1 → H1[q9]? = some ce → ce.vm = .none → s.vm.findClass E = some ce.cls → vx_W p l e R s m args below meth c H1 locs1 (cells + 1) (slots + 6) Q (F0 m pc ls rest) q9) : W p l e R s m args below meth c H locs cells slots Q (F0 m pc ls st) := by
  have hf9 : ∀ q : Nat, (va_A wc H.size) q → A q := va_free hD hS hA isC hC
  have hD2 := hD.sub (ws' := wc) isC hnd hC
  have hPc := zsub_P hP isC hC
  have hr := vx_runS (e := e) (below := below) (meth := meth) (As := As) (rest := rest) (g := F0 m pc ls st) (H := H) (locs := locs) (cells := cells) (slots := slots) S9 hM cw ⟨zPE_blind, fun U hU hW => ⟨rfl, by rw [hU], by rw [hU]; exact hPc, va_K.moved hW.alike hK, hD2.weaken (fun _ _ _ _ => trivial), by rw [hU]; exact hEn.moved hW.alike (fun k t a h => vk_R.warm hW h) (fun a h1 h2 => hS.2.1 a h1 h2) hf9⟩⟩ rfl hn hsize hstack (lv_room hrest) hdg hf
  intro T hT X
  rcases hr T hT X with ⟨v, st₀, t, T', L, h0, X', hL, e1, e2, hq, st⟩ | ⟨q, st₀, t, T', L, E', ce, h0, X', hL, e1, e2, ⟨u9, hp, ⟨hE, hB1⟩, hF⟩, hce, hcv, hcl, st⟩
  · exact hq.elim
  · subst hE
    obtain ⟨k1, k2, k3⟩ := vx_keep h0 e1 hS (fun q _ h => hf9 q h) hf9 hL hF
    obtain ⟨hP1, hD1⟩ := hB1
    rw [← e1] at hP1
    obtain ⟨hP3, hD3⟩ := va_join hP hD isC isR hC hR hnR hdis k2 hf9 hP1 hD1
    obtain ⟨t2, a1, b1⟩ := kx u9 T'.heap (locs ++ L) q ce (zsub_P hP3 isB (hB u9)) (hD3.sub isB hnB (hB u9)) k3 (by rw [e1]; exact hce) hcv hcl T' rfl X'
    exact ⟨t2, st.trans a1, b1⟩
/-- thrown on, to the caller -/
theorem zb_out {S : Type} {w1 : S → va_W} {w : va_W} {q9 : Addr} {ce : Cell} {Qc : Array Value → State → Outcome → State → Prop} (u : S) (hnt : ∀ x ∈ c.exceptionTable.toList, False) (hlocks : meth.locks = false) (hP : va_P D vwCl (w1 u) H) (hD : va_D (va_A w s.heap.size) (w1 u)) (hS : va_S (va_A w s.heap.size) s.heap H locs) (h1 : H[q9]? = some ce) (h2 : ce.vm = .none) (h3 : s.vm.findClass E = some ce.cls) (hc : cells ≤ mc) (hs : slots ≤ ms) :
    vx_W p l e R s m args below meth c H locs cells slots (vx_MQ below Qc (zXB E D w1 w s.heap.size) args s mc ms (va_A w s.heap.size)) (F0 m pc ls rest) q9 :=
  vx_out (fun x hx => (hnt x hx).elim) hlocks h1 h2 h3 (zXB_t u hP hD hS) hS.2.2 hc hs
end ZE
theorem zx_ob0 : ∀ w ∈ (vx_atS RX7 161 "java/lang/IndexOutOfBoundsException" ["java/lang/RuntimeException", "java/lang/Exception"]).filter (fun w => !goodWord w), w ∈ zXn "java/lang/IndexOutOfBoundsException" := by decide +kernel
theorem zx_ob2 : ∀ w ∈ Cond.classLink RX7 157 "java/lang/IndexOutOfBoundsException" :: Cond.initialized "java/lang/IndexOutOfBoundsException" :: (vx_atS RX7 161 "java/lang/IndexOutOfBoundsException" ["java/lang/RuntimeException", "java/lang/Exception"]), vx_ot w = true := by decide +kernel
theorem zx_ob1 : ∀ w ∈ (vx_atS RX7 161 "java/lang/IndexOutOfBoundsException" ["java/lang/RuntimeException", "java/lang/Exception"]), vx_ot w = true := by decide +kernel
theorem zx_ia0 : ∀ w ∈ (vx_atS RX7 182 "java/lang/IllegalArgumentException" ["java/lang/RuntimeException", "java/lang/Exception"]).filter (fun w => !goodWord w), w ∈ zXn "java/lang/IllegalArgumentException" := by decide +kernel
theorem zx_ia2 : ∀ w ∈ Cond.classLink RX7 178 "java/lang/IllegalArgumentException" :: Cond.initialized "java/lang/IllegalArgumentException" :: (vx_atS RX7 182 "java/lang/IllegalArgumentException" ["java/lang/RuntimeException", "java/lang/Exception"]), vx_ot w = true := by decide +kernel
theorem zx_ia1 : ∀ w ∈ (vx_atS RX7 182 "java/lang/IllegalArgumentException" ["java/lang/RuntimeException", "java/lang/Exception"]), vx_ot w = true := by decide +kernel
theorem zx_is0 : ∀ w ∈ (vx_atS RX7 64 "java/lang/IllegalStateException" ["java/lang/RuntimeException", "java/lang/Exception"]).filter (fun w => !goodWord w), w ∈ zXn "java/lang/IllegalStateException" := by decide +kernel
theorem zx_is2 : ∀ w ∈ Cond.classLink RX7 60 "java/lang/IllegalStateException" :: Cond.initialized "java/lang/IllegalStateException" :: (vx_atS RX7 64 "java/lang/IllegalStateException" ["java/lang/RuntimeException", "java/lang/Exception"]), vx_ot w = true := by decide +kernel
theorem zx_is1 : ∀ w ∈ (vx_atS RX7 64 "java/lang/IllegalStateException" ["java/lang/RuntimeException", "java/lang/Exception"]), vx_ot w = true := by decide +kernel
