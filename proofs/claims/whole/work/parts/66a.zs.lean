/-! calls of any form, over the run itself -/
def zWr {S : Type} (post : S → Prop) (D : va_G) (w1 : S → va_W) (w : va_W) (r0 sz : Nat) : Array Value → State → Outcome → State → Prop := va_Qr (fun (u : S) => post u) (fun u ra t => ra = r0 ∧ zB D (w1 u) w sz t) (va_A w sz)
theorem iI_b {x : Int} (h : -128 ≤ x ∧ x ≤ 127) : (iI x).toInt8.toInt32 = iI x := by
  show (Int32.ofInt x).toInt8.toInt32 = Int32.ofInt x
  rw [Int32.toInt8_ofInt]
  exact Int8.toInt32_ofInt (by show (-128 : Int) ≤ x; omega) (by show x ≤ (127 : Int); omega)
theorem zSta_call {s : State} {t1 t2 : Nat} {A A9 : Nat → Prop} {ws wc : va_W} {H0 H : Heap} {locs : List Loc} (hZ : zSta t1 t2 A9 s H0) (hS : va_S A H0 H locs) (hAA : ∀ q, A q → A9 q) (hD : va_D A9 ws) (hA : ∀ q : Nat, H0.size ≤ q → A9 q) (isC : List Nat) (hC : isC.map (fun i => ws[i]?) = wc.map some) : zSta t1 t2 (va_A wc H.size) s H :=
  hZ.moved (Vm.Alike.refl s.vm) (fun q h1 h2 => hS.2.1 q h1 (fun z => h2 (hAA q z))) (va_free hD (show va_S A9 H0 H [] from ⟨hS.1, fun q h1 h2 => hS.2.1 q h1 (fun z => h2 (hAA q z)), fun _ h => nomatch h⟩) hA isC hC)
theorem zPs_V {s : State} {H : Heap} {D : va_G} {ws : va_W} {tys : List (ClassId × FieldType)} {A : Nat → Prop} {C : String} {T : u_T} {N b ci t1 t2 : Nat} {fs : List Value} {As : List Value} (hP : va_P D vwCl ws H) (hK : va_K D vwCl tys s) (hD : va_D A ws) (hZ : zSta t1 t2 (va_A ws H.size) s H) (hc : vwCl[ci]? = some (C, T, N)) (he : ws[0]? = some (b, .inr (ci, fs))) : PreV s H C b (zPs D (.ref b :: As) H.size ws tys t1 t2) As :=
  ⟨zPs_blind, va_recv hK hP hc he, fun U hU hW => ⟨rfl, by rw [hU], by rw [hU]; exact hP, va_K.moved hW.alike hK, hD.weaken (fun _ _ _ _ => trivial), by rw [hU]; exact hZ.moved hW.alike (fun _ _ _ => rfl) (fun _ h => h)⟩⟩
theorem zPs_S {s : State} {H : Heap} {D : va_G} {ws : va_W} {tys : List (ClassId × FieldType)} {A : Nat → Prop} {t1 t2 : Nat} {As : List Value} (hP : va_P D vwCl ws H) (hK : va_K D vwCl tys s) (hD : va_D A ws) (hZ : zSta t1 t2 (va_A ws H.size) s H) : PreS s H (zPs D As H.size ws tys t1 t2) As :=
  ⟨zPs_blind, fun U hU hW => ⟨rfl, by rw [hU], by rw [hU]; exact hP, va_K.moved hW.alike hK, hD.weaken (fun _ _ _ _ => trivial), by rw [hU]; exact hZ.moved hW.alike (fun _ _ _ => rfl) (fun _ h => h)⟩⟩
section ZSC
variable {p : Program} {l : Launch} {e : Env} {R : Room} {s : State} {m : MethodId} {args : Array Value} {below : List Frame} {meth : Method} {c : Code} {H : Heap} {locs : List Loc} {cells slots : Nat} {Q : State → Prop}
variable {pc : Nat} {ls : Array Slot} {rest st : List Value} {D : va_G} {A : Nat → Prop} {tys : List (ClassId × FieldType)} {ws wc wr : va_W} {H0 : Heap} {mc ms : Nat} {a9 : Array Value}
theorem zs_ri {v : Int} (hr : va_Run p l e R s m args below meth c H locs cells slots mc ms (F0 m pc ls st) rest ((zRi v H.size) a9) (zN H.size)) (hP : va_P D vwCl ws H) (hS : va_S A H0 H locs) (hA : ∀ q : Nat, H0.size ≤ q → A q) (kk : ∀ (H1 : Heap) (locs1 : List Loc), va_P D vwCl ws H1 → va_S A H0 H1 locs1 → W p l e R s m args below meth c H1 locs1 (cells + mc) (slots + ms) Q (F0 m (pc + 3) ls (.int (iI v) :: rest))) : W p l e R s m args below meth c H locs cells slots Q (F0 m pc ls st) := by
  have hf9 : ∀ q : Nat, (zN H.size) q → A q := fun q h => hA q (Nat.le_trans hS.1 h)
  refine va_calli hr hS (fun q _ h => hf9 q h) hf9 (fun r u t H1 locs1 ht hvm hw hB1 hz hk hS1 => ?_)
  subst hw
  exact kk H1 locs1 (hP.kept (fun k q hq => hk q.1 ((hP k q hq).lt) (fun z => Nat.lt_irrefl _ (Nat.lt_of_lt_of_le ((hP k q hq).lt) z)))) hS1
theorem zs_rv (hr : va_Run p l e R s m args below meth c H locs cells slots mc ms (F0 m pc ls st) rest ((zRv H.size) a9) (zN H.size)) (hP : va_P D vwCl ws H) (hS : va_S A H0 H locs) (hA : ∀ q : Nat, H0.size ≤ q → A q) (kk : ∀ (H1 : Heap) (locs1 : List Loc), va_P D vwCl ws H1 → va_S A H0 H1 locs1 → W p l e R s m args below meth c H1 locs1 (cells + mc) (slots + ms) Q (F0 m (pc + 3) ls (rest))) : W p l e R s m args below meth c H locs cells slots Q (F0 m pc ls st) := by
  have hf9 : ∀ q : Nat, (zN H.size) q → A q := fun q h => hA q (Nat.le_trans hS.1 h)
  refine va_callv hr hS (fun q _ h => hf9 q h) hf9 (fun u t H1 locs1 ht hvm hw hB1 hz hk hS1 => ?_)
  skip
  exact kk H1 locs1 (hP.kept (fun k q hq => hk q.1 ((hP k q hq).lt) (fun z => Nat.lt_irrefl _ (Nat.lt_of_lt_of_le ((hP k q hq).lt) z)))) hS1
theorem zs_wi {S : Type} {post : S → Prop} {v : S → Int} {wc1 ws1 : S → va_W} (hr : va_Run p l e R s m args below meth c H locs cells slots mc ms (F0 m pc ls st) rest ((zWi v post D wc1 wc H.size) a9) (va_A wc H.size)) (hP : va_P D vwCl ws H) (hD : va_D A ws) (hS : va_S A H0 H locs) (hA : ∀ q : Nat, H0.size ≤ q → A q) (isC : List Nat) (hC : isC.map (fun i => ws[i]?) = wc.map some) (isR isB : List Nat) (hR : isR.map (fun i => ws[i]?) = wr.map some) (hnR : va_nd isR = true) (hdis : ∀ i ∈ isR, i ∉ isC) (hB : ∀ u : S, isB.map (fun i => (wr ++ wc1 u)[i]?) = (ws1 u).map some) (hnB : va_nd isB = true) (kk : ∀ (u : S) (H1 : Heap) (locs1 : List Loc), post u → va_P D vwCl (ws1 u) H1 → va_D A (ws1 u) → va_S A H0 H1 locs1 → W p l e R s m args below meth c H1 locs1 (cells + mc) (slots + ms) Q (F0 m (pc + 3) ls (.int (iI (v u)) :: rest))) : W p l e R s m args below meth c H locs cells slots Q (F0 m pc ls st) := by
  have hf9 : ∀ q : Nat, (va_A wc H.size) q → A q := va_free hD hS hA isC hC
  refine va_calli hr hS (fun q _ h => hf9 q h) hf9 (fun r u t H1 locs1 ht hvm hw hB1 hz hk hS1 => ?_)
  obtain ⟨rfl, hw⟩ := hw
  obtain ⟨hP1, hD1⟩ := hB1
  rw [ht] at hP1
  obtain ⟨hP2, hD2⟩ := va_join hP hD isC isR hC hR hnR hdis hk hf9 hP1 hD1
  exact kk u H1 locs1 hw (zsub_P hP2 isB (hB u)) (hD2.sub isB hnB (hB u)) hS1
theorem zs_wv {S : Type} {post : S → Prop} {wc1 ws1 : S → va_W} (hr : va_Run p l e R s m args below meth c H locs cells slots mc ms (F0 m pc ls st) rest ((zWv post D wc1 wc H.size) a9) (va_A wc H.size)) (hP : va_P D vwCl ws H) (hD : va_D A ws) (hS : va_S A H0 H locs) (hA : ∀ q : Nat, H0.size ≤ q → A q) (isC : List Nat) (hC : isC.map (fun i => ws[i]?) = wc.map some) (isR isB : List Nat) (hR : isR.map (fun i => ws[i]?) = wr.map some) (hnR : va_nd isR = true) (hdis : ∀ i ∈ isR, i ∉ isC) (hB : ∀ u : S, isB.map (fun i => (wr ++ wc1 u)[i]?) = (ws1 u).map some) (hnB : va_nd isB = true) (kk : ∀ (u : S) (H1 : Heap) (locs1 : List Loc), post u → va_P D vwCl (ws1 u) H1 → va_D A (ws1 u) → va_S A H0 H1 locs1 → W p l e R s m args below meth c H1 locs1 (cells + mc) (slots + ms) Q (F0 m (pc + 3) ls (rest))) : W p l e R s m args below meth c H locs cells slots Q (F0 m pc ls st) := by
  have hf9 : ∀ q : Nat, (va_A wc H.size) q → A q := va_free hD hS hA isC hC
  refine va_callv hr hS (fun q _ h => hf9 q h) hf9 (fun u t H1 locs1 ht hvm hw hB1 hz hk hS1 => ?_)
  skip
  obtain ⟨hP1, hD1⟩ := hB1
  rw [ht] at hP1
  obtain ⟨hP2, hD2⟩ := va_join hP hD isC isR hC hR hnR hdis hk hf9 hP1 hD1
  exact kk u H1 locs1 hw (zsub_P hP2 isB (hB u)) (hD2.sub isB hnB (hB u)) hS1
theorem zs_wr {S : Type} {post : S → Prop} {r0 : Nat} {wc1 ws1 : S → va_W} (hr : va_Run p l e R s m args below meth c H locs cells slots mc ms (F0 m pc ls st) rest ((zWr post D wc1 wc r0 H.size) a9) (va_A wc H.size)) (hP : va_P D vwCl ws H) (hD : va_D A ws) (hS : va_S A H0 H locs) (hA : ∀ q : Nat, H0.size ≤ q → A q) (isC : List Nat) (hC : isC.map (fun i => ws[i]?) = wc.map some) (isR isB : List Nat) (hR : isR.map (fun i => ws[i]?) = wr.map some) (hnR : va_nd isR = true) (hdis : ∀ i ∈ isR, i ∉ isC) (hB : ∀ u : S, isB.map (fun i => (wr ++ wc1 u)[i]?) = (ws1 u).map some) (hnB : va_nd isB = true) (kk : ∀ (u : S) (H1 : Heap) (locs1 : List Loc), post u → va_P D vwCl (ws1 u) H1 → va_D A (ws1 u) → va_S A H0 H1 locs1 → W p l e R s m args below meth c H1 locs1 (cells + mc) (slots + ms) Q (F0 m (pc + 3) ls (.ref r0 :: rest))) : W p l e R s m args below meth c H locs cells slots Q (F0 m pc ls st) := by
  have hf9 : ∀ q : Nat, (va_A wc H.size) q → A q := va_free hD hS hA isC hC
  refine va_callr hr hS (fun q _ h => hf9 q h) hf9 (fun u ra t H1 locs1 ht hvm hw hB1 hz hk hS1 => ?_)
  obtain ⟨rfl, hB1⟩ := hB1
  obtain ⟨hP1, hD1⟩ := hB1
  rw [ht] at hP1
  obtain ⟨hP2, hD2⟩ := va_join hP hD isC isR hC hR hnR hdis hk hf9 hP1 hD1
  exact kk u H1 locs1 hw (zsub_P hP2 isB (hB u)) (hD2.sub isB hnB (hB u)) hS1
theorem zi_newb {cc : ByteArray} {cB : ClassId} {n : Int} {N' : Nat} (hexec : p.tables.exec = Jvm.exec) (hb : c.code = cc) (harr : (Cond.arrayClass .byte).before args s = true) (hK : va_K D vwCl tys s) (hP : va_P D vwCl ws H) (hD : va_D A ws) (hS : va_S A H0 H locs) (hA : ∀ q : Nat, H0.size ≤ q → A q) (htb : tys[2]? = some (cB, .byte)) (hn : ¬ iI n < 0) (hN : (iI n).toNatClampNeg = N') (hbytes : N' * componentBytes .byte ≤ 536870912) (hcells : cells + 1 ≤ R.cells) (hslots : slots + N' ≤ R.slots) (hdg : decode cc pc = .ok (.newarray .byte, 2))
    (kk : ∀ (q : Nat) (H1 : Heap), va_P D vwCl (ws ++ [(q, .inl (cB, N', .inl (zF (fun _ => 0))))]) H1 → va_D A (ws ++ [(q, .inl (cB, N', .inl (zF (fun _ => 0))))]) → va_S A H0 H1 locs → W p l e R s m args below meth c H1 locs (cells + 1) (slots + N') Q (F0 m (pc + 2) ls (.ref q :: rest))) : W p l e R s m args below meth c H locs cells slots Q (F0 m pc ls (.int (iI n) :: rest)) := by
  refine va_newa (atype := .byte) (ty := .byte) (a0 := (N', .inl (zF (fun _ => 0)))) hexec hb harr rfl hK hP hD hS hA (fun cC => by
    show arrV cC N' (fun _ => Value.int (iI 0)) = arrV cC N' (fun _ => Value.int 0)
    rw [iI_0]) hn hN hbytes hcells hslots hdg (fun q cC H1 hK1 hP1 hD1 hS1 => ?_)
  have h1 := va_nm_byte (hK.2 2 _ htb).2
  have h2 := va_nm_byte (hK1.2 tys.length (cC, .byte) (by rw [List.getElem?_append_right (Nat.le_refl _), Nat.sub_self]; rfl)).2
  have h3 : cC = cB := Option.some.inj (h2.symm.trans h1)
  subst h3
  exact kk q H1 hP1 hD1 hS1
end ZSC
