abbrev vwCl : List vw_C := [(RJ4, TJ4, 4), (RX0, TX0, 9), (RX1, TX1, 3), (RX2, TX2, 2), (RX3, TX3, 4), (RX4, TX4, 5), (RX5, TX5, 1), (RX6, TX6, 4), (RX7, TX7, 5), (RX8, TX8, 17)]
/-- whole numbers as the machine's -/
def iI (z : Int) : Int32 := Int32.ofInt z
def lI (z : Int) : Int64 := Int64.ofInt z
theorem iI_add (a b : Int) : iI a + iI b = iI (a + b) := (Int32.ofInt_add a b).symm
theorem iI_sub (a b : Int) : iI a - iI b = iI (a - b) := (Int32.ofInt_sub a b).symm
theorem iI_mul (a b : Int) : iI a * iI b = iI (a * b) := (Int32.ofInt_mul a b).symm
theorem iI_neg (a : Int) : -iI a = iI (-a) := (Int32.ofInt_neg a).symm
theorem lI_add (a b : Int) : lI a + lI b = lI (a + b) := (Int64.ofInt_add a b).symm
theorem lI_sub (a b : Int) : lI a - lI b = lI (a - b) := (Int64.ofInt_sub a b).symm
theorem lI_mul (a b : Int) : lI a * lI b = lI (a * b) := (Int64.ofInt_mul a b).symm
theorem lI_neg (a : Int) : -lI a = lI (-a) := (Int64.ofInt_neg a).symm
theorem iI_of (x : Int32) : iI x.toInt = x := Int32.ofInt_toInt x
theorem lI_of (x : Int64) : lI x.toInt = x := Int64.ofInt_toInt x
theorem iI_0 : iI 0 = 0 := by decide
theorem lI_0 : lI 0 = 0 := by decide
theorem iI_T {a : Int} (h : -2147483648 ≤ a ∧ a ≤ 2147483647) : (iI a).toInt = a := Int32.toInt_ofInt_of_le (by omega) (by omega)
theorem lI_T {a : Int} (h : -9223372036854775808 ≤ a ∧ a ≤ 9223372036854775807) : (lI a).toInt = a := Int64.toInt_ofInt_of_le (by omega) (by omega)
theorem iI_rg (x : Int32) : -2147483648 ≤ x.toInt ∧ x.toInt ≤ 2147483647 := by
  have h1 := x.le_toInt
  have h2 := x.toInt_lt
  omega
theorem iI_eq {a b : Int} (ha : -2147483648 ≤ a ∧ a ≤ 2147483647) (hb : -2147483648 ≤ b ∧ b ≤ 2147483647) : iI a = iI b ↔ a = b := by rw [← Int32.toInt_inj, iI_T ha, iI_T hb]
theorem iI_lt {a b : Int} (ha : -2147483648 ≤ a ∧ a ≤ 2147483647) (hb : -2147483648 ≤ b ∧ b ≤ 2147483647) : iI a < iI b ↔ a < b := by rw [Int32.lt_iff_toInt_lt, iI_T ha, iI_T hb]
theorem iI_le {a b : Int} (ha : -2147483648 ≤ a ∧ a ≤ 2147483647) (hb : -2147483648 ≤ b ∧ b ≤ 2147483647) : iI a ≤ iI b ↔ a ≤ b := by rw [Int32.le_iff_toInt_le, iI_T ha, iI_T hb]
theorem lI_eq {a b : Int} (ha : -9223372036854775808 ≤ a ∧ a ≤ 9223372036854775807) (hb : -9223372036854775808 ≤ b ∧ b ≤ 9223372036854775807) : lI a = lI b ↔ a = b := by rw [← Int64.toInt_inj, lI_T ha, lI_T hb]
theorem lI_lt {a b : Int} (ha : -9223372036854775808 ≤ a ∧ a ≤ 9223372036854775807) (hb : -9223372036854775808 ≤ b ∧ b ≤ 9223372036854775807) : lI a < lI b ↔ a < b := by rw [Int64.lt_iff_toInt_lt, lI_T ha, lI_T hb]
theorem lI_le {a b : Int} (ha : -9223372036854775808 ≤ a ∧ a ≤ 9223372036854775807) (hb : -9223372036854775808 ≤ b ∧ b ≤ 9223372036854775807) : lI a ≤ lI b ↔ a ≤ b := by rw [Int64.le_iff_toInt_le, lI_T ha, lI_T hb]
theorem iI_l {a : Int} (h : -2147483648 ≤ a ∧ a ≤ 2147483647) : (iI a).toInt64 = lI a := Int32.toInt64_ofInt (by show (-2147483648 : Int) ≤ a; omega) (by show a ≤ (2147483647 : Int); omega)
theorem lI_i (a : Int) : (lI a).toInt32 = iI a := Int64.toInt32_ofInt
theorem iI_nat {a : Int} (h : 0 ≤ a ∧ a ≤ 2147483647) : (iI a).toNatClampNeg = a.toNat := Int32.toNatClampNeg_ofInt_of_le (by omega) (by omega)
/-- a truth as 1 or 0 -/
noncomputable def bI (q : Prop) : Int := @ite Int q (Classical.propDecidable q) 1 0
theorem bI_t {q : Prop} (h : q) : bI q = 1 := if_pos h
theorem bI_f {q : Prop} (h : ¬ q) : bI q = 0 := if_neg h
theorem bI_rg (q : Prop) : 0 ≤ bI q ∧ bI q ≤ 1 := by
  by_cases h : q
  · rw [bI_t h]; omega
  · rw [bI_f h]; omega
theorem bI_0 {q : Prop} : bI q = 0 ↔ ¬ q := by
  by_cases h : q
  · rw [bI_t h]; exact ⟨fun z => absurd z (by decide), fun z => absurd h z⟩
  · rw [bI_f h]; exact ⟨fun _ => h, fun _ => rfl⟩
theorem bI_c {q r : Prop} (h : q ↔ r) : bI q = bI r := by
  by_cases h2 : r
  · rw [bI_t h2, bI_t (h.mpr h2)]
  · rw [bI_f h2, bI_f (fun z => h2 (h.mp z))]
theorem bI_nar (q : Prop) : narrow .boolean (.int (iI (bI q))) = .int (iI (bI q)) := by
  by_cases h : q
  · rw [bI_t h]; decide
  · rw [bI_f h]; decide
theorem bI_fit (q : Prop) : fits .boolean (.int (iI (bI q))) = true := by
  by_cases h : q
  · rw [bI_t h]; decide
  · rw [bI_f h]; decide
/-- an array's contents out of whole numbers -/
def zF (X : Int → Int) : Nat → Int32 := fun j => iI (X j)
def zL (X : Int → Int) : Nat → Int64 := fun j => lI (X j)
def zU (X : Int → Int) (i v : Int) : Int → Int := fun k => if k = i then v else X k
theorem zU_s (X : Int → Int) (i v : Int) : zU X i v i = v := if_pos rfl
theorem zU_n (X : Int → Int) {i k : Int} (v : Int) (h : k ≠ i) : zU X i v k = X k := if_neg h
theorem zF_at (X : Int → Int) {i : Int} (h : 0 ≤ i ∧ i ≤ 2147483647) : zF X (iI i).toNatClampNeg = iI (X i) := by
  unfold zF
  rw [iI_nat h, Int.toNat_of_nonneg h.1]
theorem zL_at (X : Int → Int) {i : Int} (h : 0 ≤ i ∧ i ≤ 2147483647) : zL X (iI i).toNatClampNeg = lI (X i) := by
  unfold zL
  rw [iI_nat h, Int.toNat_of_nonneg h.1]
theorem zF_up (X : Int → Int) {i : Int} (v : Int) (h : 0 ≤ i ∧ i ≤ 2147483647) : upd (zF X) (iI i).toNatClampNeg (iI v) = zF (zU X i v) := by
  funext j
  unfold zF upd zU
  rw [iI_nat h]
  by_cases hj : j = i.toNat
  · rw [if_pos hj, if_pos (by omega)]
  · rw [if_neg hj, if_neg (by omega)]
theorem zL_up (X : Int → Int) {i : Int} (v : Int) (h : 0 ≤ i ∧ i ≤ 2147483647) : vp_updL (zL X) (iI i).toNatClampNeg (lI v) = zL (zU X i v) := by
  funext j
  unfold zL vp_updL zU
  rw [iI_nat h]
  by_cases hj : j = i.toNat
  · rw [if_pos hj, if_pos (by omega)]
  · rw [if_neg hj, if_neg (by omega)]
theorem zF_0 : zF (fun _ => 0) = fun _ => 0 := by
  funext j
  exact iI_0
theorem zL_0 : zL (fun _ => 0) = fun _ => 0 := by
  funext j
  exact lI_0
theorem zI_in {i : Int} {n : Nat} (h : 0 ≤ i ∧ i < n) (hn : n < 2147483648) : vp_in (iI i) n := by
  intro z
  rw [iI_nat ⟨h.1, by omega⟩, ← iI_0] at z
  rcases z with z | z
  · rw [iI_lt (by omega) (by omega)] at z; omega
  · omega
section ZI
variable {p : Program} {l : Launch} {e : Env} {R : Room} {s : State} {m : MethodId} {args : Array Value} {below : List Frame} {meth : Method} {c : Code} {H : Heap} {locs : List Loc} {cells slots : Nat} {Q : State → Prop}
variable {cc : ByteArray} {pc : Nat} {ls : Array Slot} {rest st : List Value} {D : va_G} {cl : List vw_C} {A : Nat → Prop} {a : Nat} {tys : List (ClassId × FieldType)} {ws : va_W} {H0 : Heap}
theorem zi_iadd (hx : p.tables.exec = Jvm.exec) (hb : c.code = cc) {x y : Int} (hdg : decode cc pc = .ok (.iadd, 1)) (k : W p l e R s m args below meth c H locs cells slots Q (F0 m (pc + 1) ls (.int (iI (x + y)) :: rest))) : W p l e R s m args below meth c H locs cells slots Q (F0 m pc ls (.int (iI y) :: .int (iI x) :: rest)) := lv_iadd hx hb hdg (by rw [iI_add]; exact k)
theorem zl_ladd (hx : p.tables.exec = Jvm.exec) (hb : c.code = cc) {x y : Int} (hdg : decode cc pc = .ok (.ladd, 1)) (k : W p l e R s m args below meth c H locs cells slots Q (F0 m (pc + 1) ls (.long (lI (x + y)) :: rest))) : W p l e R s m args below meth c H locs cells slots Q (F0 m pc ls (.long (lI y) :: .long (lI x) :: rest)) := lv_ladd hx hb hdg (by rw [lI_add]; exact k)
theorem zi_isub (hx : p.tables.exec = Jvm.exec) (hb : c.code = cc) {x y : Int} (hdg : decode cc pc = .ok (.isub, 1)) (k : W p l e R s m args below meth c H locs cells slots Q (F0 m (pc + 1) ls (.int (iI (x - y)) :: rest))) : W p l e R s m args below meth c H locs cells slots Q (F0 m pc ls (.int (iI y) :: .int (iI x) :: rest)) := lv_isub hx hb hdg (by rw [iI_sub]; exact k)
theorem zl_lsub (hx : p.tables.exec = Jvm.exec) (hb : c.code = cc) {x y : Int} (hdg : decode cc pc = .ok (.lsub, 1)) (k : W p l e R s m args below meth c H locs cells slots Q (F0 m (pc + 1) ls (.long (lI (x - y)) :: rest))) : W p l e R s m args below meth c H locs cells slots Q (F0 m pc ls (.long (lI y) :: .long (lI x) :: rest)) := lv_lsub hx hb hdg (by rw [lI_sub]; exact k)
theorem zi_imul (hx : p.tables.exec = Jvm.exec) (hb : c.code = cc) {x y : Int} (hdg : decode cc pc = .ok (.imul, 1)) (k : W p l e R s m args below meth c H locs cells slots Q (F0 m (pc + 1) ls (.int (iI (x * y)) :: rest))) : W p l e R s m args below meth c H locs cells slots Q (F0 m pc ls (.int (iI y) :: .int (iI x) :: rest)) := lv_imul hx hb hdg (by rw [iI_mul]; exact k)
theorem zl_lmul (hx : p.tables.exec = Jvm.exec) (hb : c.code = cc) {x y : Int} (hdg : decode cc pc = .ok (.lmul, 1)) (k : W p l e R s m args below meth c H locs cells slots Q (F0 m (pc + 1) ls (.long (lI (x * y)) :: rest))) : W p l e R s m args below meth c H locs cells slots Q (F0 m pc ls (.long (lI y) :: .long (lI x) :: rest)) := lv_lmul hx hb hdg (by rw [lI_mul]; exact k)
theorem zi_ineg (hx : p.tables.exec = Jvm.exec) (hb : c.code = cc) {x : Int} (hdg : decode cc pc = .ok (.ineg, 1)) (k : W p l e R s m args below meth c H locs cells slots Q (F0 m (pc + 1) ls (.int (iI (-x)) :: rest))) : W p l e R s m args below meth c H locs cells slots Q (F0 m pc ls (.int (iI x) :: rest)) := lv_ineg hx hb hdg (by rw [iI_neg]; exact k)
theorem zl_lneg (hx : p.tables.exec = Jvm.exec) (hb : c.code = cc) {x : Int} (hdg : decode cc pc = .ok (.lneg, 1)) (k : W p l e R s m args below meth c H locs cells slots Q (F0 m (pc + 1) ls (.long (lI (-x)) :: rest))) : W p l e R s m args below meth c H locs cells slots Q (F0 m pc ls (.long (lI x) :: rest)) := lv_lneg hx hb hdg (by rw [lI_neg]; exact k)
theorem zi_i2l (hx : p.tables.exec = Jvm.exec) (hb : c.code = cc) {x : Int} (hdg : decode cc pc = .ok (.i2l, 1)) (h : -2147483648 ≤ x ∧ x ≤ 2147483647) (k : W p l e R s m args below meth c H locs cells slots Q (F0 m (pc + 1) ls (.long (lI x) :: rest))) : W p l e R s m args below meth c H locs cells slots Q (F0 m pc ls (.int (iI x) :: rest)) := lv_i2l hx hb hdg (iI_l h) k
theorem zl_l2i (hx : p.tables.exec = Jvm.exec) (hb : c.code = cc) {x : Int} (hdg : decode cc pc = .ok (.l2i, 1)) (k : W p l e R s m args below meth c H locs cells slots Q (F0 m (pc + 1) ls (.int (iI x) :: rest))) : W p l e R s m args below meth c H locs cells slots Q (F0 m pc ls (.long (lI x) :: rest)) := lv_l2i hx hb hdg (lI_i x) k
theorem zi_as {x y : Int} (h : x = y) (k : W p l e R s m args below meth c H locs cells slots Q (F0 m pc ls (.int (iI y) :: rest))) : W p l e R s m args below meth c H locs cells slots Q (F0 m pc ls (.int (iI x) :: rest)) := by subst h; exact k
theorem zl_as {x y : Int} (h : x = y) (k : W p l e R s m args below meth c H locs cells slots Q (F0 m pc ls (.long (lI y) :: rest))) : W p l e R s m args below meth c H locs cells slots Q (F0 m pc ls (.long (lI x) :: rest)) := by subst h; exact k
theorem zi_icmp_eq (hx : p.tables.exec = Jvm.exec) (hb : c.code = cc) {x y : Int} {off : Int} {tgt : Nat} (hdg : decode cc pc = .ok (.if_icmp .eq off, 3)) (ht : (pc : Int) + off = (tgt : Int)) (hxr : -2147483648 ≤ x ∧ x ≤ 2147483647) (hyr : -2147483648 ≤ y ∧ y ≤ 2147483647) (kt : x = y → W p l e R s m args below meth c H locs cells slots Q (F0 m tgt ls rest)) (kf : ¬ x = y → W p l e R s m args below meth c H locs cells slots Q (F0 m (pc + 3) ls rest)) : W p l e R s m args below meth c H locs cells slots Q (F0 m pc ls (.int (iI y) :: .int (iI x) :: rest)) := lv_icmp_eq hx hb hdg ht (fun h => kt ((iI_eq hxr hyr).mp h)) (fun h => kf (fun z => h ((iI_eq hxr hyr).mpr z)))
theorem zi_if_eq (hx : p.tables.exec = Jvm.exec) (hb : c.code = cc) {x : Int} {off : Int} {tgt : Nat} (hdg : decode cc pc = .ok (.ifCond .eq off, 3)) (ht : (pc : Int) + off = (tgt : Int)) (hxr : -2147483648 ≤ x ∧ x ≤ 2147483647) (kt : x = 0 → W p l e R s m args below meth c H locs cells slots Q (F0 m tgt ls rest)) (kf : ¬ x = 0 → W p l e R s m args below meth c H locs cells slots Q (F0 m (pc + 3) ls rest)) : W p l e R s m args below meth c H locs cells slots Q (F0 m pc ls (.int (iI x) :: rest)) := by
  have e0 : (0 : Int32) = iI 0 := iI_0.symm
  refine lv_if_eq hx hb hdg ht (fun h => kt ?_) (fun h => kf ?_)
  · rw [e0] at h
    exact (iI_eq hxr (by omega)).mp h
  · rw [e0] at h
    exact fun z => h ((iI_eq hxr (by omega)).mpr z)
theorem zl_if_eq (hx : p.tables.exec = Jvm.exec) (hb : c.code = cc) {x y : Int} {off : Int} {tgt : Nat} (hdg : decode cc pc = .ok (.lcmp, 1)) (hdg2 : decode cc (pc + 1) = .ok (.ifCond .eq off, 3)) (ht : ((pc + 1 : Nat) : Int) + off = (tgt : Int)) (hxr : -9223372036854775808 ≤ x ∧ x ≤ 9223372036854775807) (hyr : -9223372036854775808 ≤ y ∧ y ≤ 9223372036854775807) (kt : x = y → W p l e R s m args below meth c H locs cells slots Q (F0 m tgt ls rest)) (kf : ¬ x = y → W p l e R s m args below meth c H locs cells slots Q (F0 m (pc + 1 + 3) ls rest)) : W p l e R s m args below meth c H locs cells slots Q (F0 m pc ls (.long (lI y) :: .long (lI x) :: rest)) := W.lcmp hx hb hdg (lv_if_eq hx hb hdg2 ht (fun h => kt (((lg_cmp_eq (lI x) (lI y)).trans (lI_eq hxr hyr)).mp h)) (fun h => kf (fun z => h (((lg_cmp_eq (lI x) (lI y)).trans (lI_eq hxr hyr)).mpr z))))
theorem zi_icmp_ne (hx : p.tables.exec = Jvm.exec) (hb : c.code = cc) {x y : Int} {off : Int} {tgt : Nat} (hdg : decode cc pc = .ok (.if_icmp .ne off, 3)) (ht : (pc : Int) + off = (tgt : Int)) (hxr : -2147483648 ≤ x ∧ x ≤ 2147483647) (hyr : -2147483648 ≤ y ∧ y ≤ 2147483647) (kt : ¬ x = y → W p l e R s m args below meth c H locs cells slots Q (F0 m tgt ls rest)) (kf : x = y → W p l e R s m args below meth c H locs cells slots Q (F0 m (pc + 3) ls rest)) : W p l e R s m args below meth c H locs cells slots Q (F0 m pc ls (.int (iI y) :: .int (iI x) :: rest)) := lv_icmp_ne hx hb hdg ht (fun h => kt (fun z => h ((iI_eq hxr hyr).mpr z))) (fun h => kf ((iI_eq hxr hyr).mp h))
theorem zi_if_ne (hx : p.tables.exec = Jvm.exec) (hb : c.code = cc) {x : Int} {off : Int} {tgt : Nat} (hdg : decode cc pc = .ok (.ifCond .ne off, 3)) (ht : (pc : Int) + off = (tgt : Int)) (hxr : -2147483648 ≤ x ∧ x ≤ 2147483647) (kt : ¬ x = 0 → W p l e R s m args below meth c H locs cells slots Q (F0 m tgt ls rest)) (kf : x = 0 → W p l e R s m args below meth c H locs cells slots Q (F0 m (pc + 3) ls rest)) : W p l e R s m args below meth c H locs cells slots Q (F0 m pc ls (.int (iI x) :: rest)) := by
  have e0 : (0 : Int32) = iI 0 := iI_0.symm
  refine lv_if_ne hx hb hdg ht (fun h => kt ?_) (fun h => kf ?_)
  · rw [e0] at h
    exact fun z => h ((iI_eq hxr (by omega)).mpr z)
  · rw [e0] at h
    exact (iI_eq hxr (by omega)).mp h
theorem zl_if_ne (hx : p.tables.exec = Jvm.exec) (hb : c.code = cc) {x y : Int} {off : Int} {tgt : Nat} (hdg : decode cc pc = .ok (.lcmp, 1)) (hdg2 : decode cc (pc + 1) = .ok (.ifCond .ne off, 3)) (ht : ((pc + 1 : Nat) : Int) + off = (tgt : Int)) (hxr : -9223372036854775808 ≤ x ∧ x ≤ 9223372036854775807) (hyr : -9223372036854775808 ≤ y ∧ y ≤ 9223372036854775807) (kt : ¬ x = y → W p l e R s m args below meth c H locs cells slots Q (F0 m tgt ls rest)) (kf : x = y → W p l e R s m args below meth c H locs cells slots Q (F0 m (pc + 1 + 3) ls rest)) : W p l e R s m args below meth c H locs cells slots Q (F0 m pc ls (.long (lI y) :: .long (lI x) :: rest)) := W.lcmp hx hb hdg (lv_if_ne hx hb hdg2 ht (fun h => kt (fun z => h (((lg_cmp_eq (lI x) (lI y)).trans (lI_eq hxr hyr)).mpr z))) (fun h => kf (((lg_cmp_eq (lI x) (lI y)).trans (lI_eq hxr hyr)).mp h)))
theorem zi_icmp_lt (hx : p.tables.exec = Jvm.exec) (hb : c.code = cc) {x y : Int} {off : Int} {tgt : Nat} (hdg : decode cc pc = .ok (.if_icmp .lt off, 3)) (ht : (pc : Int) + off = (tgt : Int)) (hxr : -2147483648 ≤ x ∧ x ≤ 2147483647) (hyr : -2147483648 ≤ y ∧ y ≤ 2147483647) (kt : x < y → W p l e R s m args below meth c H locs cells slots Q (F0 m tgt ls rest)) (kf : ¬ x < y → W p l e R s m args below meth c H locs cells slots Q (F0 m (pc + 3) ls rest)) : W p l e R s m args below meth c H locs cells slots Q (F0 m pc ls (.int (iI y) :: .int (iI x) :: rest)) := lv_icmp_lt hx hb hdg ht (fun h => kt ((iI_lt hxr hyr).mp h)) (fun h => kf (fun z => h ((iI_lt hxr hyr).mpr z)))
theorem zi_if_lt (hx : p.tables.exec = Jvm.exec) (hb : c.code = cc) {x : Int} {off : Int} {tgt : Nat} (hdg : decode cc pc = .ok (.ifCond .lt off, 3)) (ht : (pc : Int) + off = (tgt : Int)) (hxr : -2147483648 ≤ x ∧ x ≤ 2147483647) (kt : x < 0 → W p l e R s m args below meth c H locs cells slots Q (F0 m tgt ls rest)) (kf : ¬ x < 0 → W p l e R s m args below meth c H locs cells slots Q (F0 m (pc + 3) ls rest)) : W p l e R s m args below meth c H locs cells slots Q (F0 m pc ls (.int (iI x) :: rest)) := by
  have e0 : (0 : Int32) = iI 0 := iI_0.symm
  refine lv_if_lt hx hb hdg ht (fun h => kt ?_) (fun h => kf ?_)
  · rw [e0] at h
    exact (iI_lt hxr (by omega)).mp h
  · rw [e0] at h
    exact fun z => h ((iI_lt hxr (by omega)).mpr z)
theorem zl_if_lt (hx : p.tables.exec = Jvm.exec) (hb : c.code = cc) {x y : Int} {off : Int} {tgt : Nat} (hdg : decode cc pc = .ok (.lcmp, 1)) (hdg2 : decode cc (pc + 1) = .ok (.ifCond .lt off, 3)) (ht : ((pc + 1 : Nat) : Int) + off = (tgt : Int)) (hxr : -9223372036854775808 ≤ x ∧ x ≤ 9223372036854775807) (hyr : -9223372036854775808 ≤ y ∧ y ≤ 9223372036854775807) (kt : x < y → W p l e R s m args below meth c H locs cells slots Q (F0 m tgt ls rest)) (kf : ¬ x < y → W p l e R s m args below meth c H locs cells slots Q (F0 m (pc + 1 + 3) ls rest)) : W p l e R s m args below meth c H locs cells slots Q (F0 m pc ls (.long (lI y) :: .long (lI x) :: rest)) := W.lcmp hx hb hdg (lv_if_lt hx hb hdg2 ht (fun h => kt (((lg_cmp_lt (lI x) (lI y)).trans (lI_lt hxr hyr)).mp h)) (fun h => kf (fun z => h (((lg_cmp_lt (lI x) (lI y)).trans (lI_lt hxr hyr)).mpr z))))
theorem zi_icmp_ge (hx : p.tables.exec = Jvm.exec) (hb : c.code = cc) {x y : Int} {off : Int} {tgt : Nat} (hdg : decode cc pc = .ok (.if_icmp .ge off, 3)) (ht : (pc : Int) + off = (tgt : Int)) (hxr : -2147483648 ≤ x ∧ x ≤ 2147483647) (hyr : -2147483648 ≤ y ∧ y ≤ 2147483647) (kt : y ≤ x → W p l e R s m args below meth c H locs cells slots Q (F0 m tgt ls rest)) (kf : ¬ y ≤ x → W p l e R s m args below meth c H locs cells slots Q (F0 m (pc + 3) ls rest)) : W p l e R s m args below meth c H locs cells slots Q (F0 m pc ls (.int (iI y) :: .int (iI x) :: rest)) := lv_icmp_ge hx hb hdg ht (fun h => kt ((iI_le hyr hxr).mp h)) (fun h => kf (fun z => h ((iI_le hyr hxr).mpr z)))
theorem zi_if_ge (hx : p.tables.exec = Jvm.exec) (hb : c.code = cc) {x : Int} {off : Int} {tgt : Nat} (hdg : decode cc pc = .ok (.ifCond .ge off, 3)) (ht : (pc : Int) + off = (tgt : Int)) (hxr : -2147483648 ≤ x ∧ x ≤ 2147483647) (kt : 0 ≤ x → W p l e R s m args below meth c H locs cells slots Q (F0 m tgt ls rest)) (kf : ¬ 0 ≤ x → W p l e R s m args below meth c H locs cells slots Q (F0 m (pc + 3) ls rest)) : W p l e R s m args below meth c H locs cells slots Q (F0 m pc ls (.int (iI x) :: rest)) := by
  have e0 : (0 : Int32) = iI 0 := iI_0.symm
  refine lv_if_ge hx hb hdg ht (fun h => kt ?_) (fun h => kf ?_)
  · rw [e0] at h
    exact (iI_le (by omega) hxr).mp h
  · rw [e0] at h
    exact fun z => h ((iI_le (by omega) hxr).mpr z)
theorem zl_if_ge (hx : p.tables.exec = Jvm.exec) (hb : c.code = cc) {x y : Int} {off : Int} {tgt : Nat} (hdg : decode cc pc = .ok (.lcmp, 1)) (hdg2 : decode cc (pc + 1) = .ok (.ifCond .ge off, 3)) (ht : ((pc + 1 : Nat) : Int) + off = (tgt : Int)) (hxr : -9223372036854775808 ≤ x ∧ x ≤ 9223372036854775807) (hyr : -9223372036854775808 ≤ y ∧ y ≤ 9223372036854775807) (kt : y ≤ x → W p l e R s m args below meth c H locs cells slots Q (F0 m tgt ls rest)) (kf : ¬ y ≤ x → W p l e R s m args below meth c H locs cells slots Q (F0 m (pc + 1 + 3) ls rest)) : W p l e R s m args below meth c H locs cells slots Q (F0 m pc ls (.long (lI y) :: .long (lI x) :: rest)) := W.lcmp hx hb hdg (lv_if_ge hx hb hdg2 ht (fun h => kt (((lg_cmp_ge (lI x) (lI y)).trans (lI_le hyr hxr)).mp h)) (fun h => kf (fun z => h (((lg_cmp_ge (lI x) (lI y)).trans (lI_le hyr hxr)).mpr z))))
theorem zi_icmp_gt (hx : p.tables.exec = Jvm.exec) (hb : c.code = cc) {x y : Int} {off : Int} {tgt : Nat} (hdg : decode cc pc = .ok (.if_icmp .gt off, 3)) (ht : (pc : Int) + off = (tgt : Int)) (hxr : -2147483648 ≤ x ∧ x ≤ 2147483647) (hyr : -2147483648 ≤ y ∧ y ≤ 2147483647) (kt : y < x → W p l e R s m args below meth c H locs cells slots Q (F0 m tgt ls rest)) (kf : ¬ y < x → W p l e R s m args below meth c H locs cells slots Q (F0 m (pc + 3) ls rest)) : W p l e R s m args below meth c H locs cells slots Q (F0 m pc ls (.int (iI y) :: .int (iI x) :: rest)) := lv_icmp_gt hx hb hdg ht (fun h => kt ((iI_lt hyr hxr).mp h)) (fun h => kf (fun z => h ((iI_lt hyr hxr).mpr z)))
theorem zi_if_gt (hx : p.tables.exec = Jvm.exec) (hb : c.code = cc) {x : Int} {off : Int} {tgt : Nat} (hdg : decode cc pc = .ok (.ifCond .gt off, 3)) (ht : (pc : Int) + off = (tgt : Int)) (hxr : -2147483648 ≤ x ∧ x ≤ 2147483647) (kt : 0 < x → W p l e R s m args below meth c H locs cells slots Q (F0 m tgt ls rest)) (kf : ¬ 0 < x → W p l e R s m args below meth c H locs cells slots Q (F0 m (pc + 3) ls rest)) : W p l e R s m args below meth c H locs cells slots Q (F0 m pc ls (.int (iI x) :: rest)) := by
  have e0 : (0 : Int32) = iI 0 := iI_0.symm
  refine lv_if_gt hx hb hdg ht (fun h => kt ?_) (fun h => kf ?_)
  · rw [e0] at h
    exact (iI_lt (by omega) hxr).mp h
  · rw [e0] at h
    exact fun z => h ((iI_lt (by omega) hxr).mpr z)
theorem zl_if_gt (hx : p.tables.exec = Jvm.exec) (hb : c.code = cc) {x y : Int} {off : Int} {tgt : Nat} (hdg : decode cc pc = .ok (.lcmp, 1)) (hdg2 : decode cc (pc + 1) = .ok (.ifCond .gt off, 3)) (ht : ((pc + 1 : Nat) : Int) + off = (tgt : Int)) (hxr : -9223372036854775808 ≤ x ∧ x ≤ 9223372036854775807) (hyr : -9223372036854775808 ≤ y ∧ y ≤ 9223372036854775807) (kt : y < x → W p l e R s m args below meth c H locs cells slots Q (F0 m tgt ls rest)) (kf : ¬ y < x → W p l e R s m args below meth c H locs cells slots Q (F0 m (pc + 1 + 3) ls rest)) : W p l e R s m args below meth c H locs cells slots Q (F0 m pc ls (.long (lI y) :: .long (lI x) :: rest)) := W.lcmp hx hb hdg (lv_if_gt hx hb hdg2 ht (fun h => kt (((lg_cmp_gt (lI x) (lI y)).trans (lI_lt hyr hxr)).mp h)) (fun h => kf (fun z => h (((lg_cmp_gt (lI x) (lI y)).trans (lI_lt hyr hxr)).mpr z))))
theorem zi_icmp_le (hx : p.tables.exec = Jvm.exec) (hb : c.code = cc) {x y : Int} {off : Int} {tgt : Nat} (hdg : decode cc pc = .ok (.if_icmp .le off, 3)) (ht : (pc : Int) + off = (tgt : Int)) (hxr : -2147483648 ≤ x ∧ x ≤ 2147483647) (hyr : -2147483648 ≤ y ∧ y ≤ 2147483647) (kt : x ≤ y → W p l e R s m args below meth c H locs cells slots Q (F0 m tgt ls rest)) (kf : ¬ x ≤ y → W p l e R s m args below meth c H locs cells slots Q (F0 m (pc + 3) ls rest)) : W p l e R s m args below meth c H locs cells slots Q (F0 m pc ls (.int (iI y) :: .int (iI x) :: rest)) := lv_icmp_le hx hb hdg ht (fun h => kt ((iI_le hxr hyr).mp h)) (fun h => kf (fun z => h ((iI_le hxr hyr).mpr z)))
theorem zi_if_le (hx : p.tables.exec = Jvm.exec) (hb : c.code = cc) {x : Int} {off : Int} {tgt : Nat} (hdg : decode cc pc = .ok (.ifCond .le off, 3)) (ht : (pc : Int) + off = (tgt : Int)) (hxr : -2147483648 ≤ x ∧ x ≤ 2147483647) (kt : x ≤ 0 → W p l e R s m args below meth c H locs cells slots Q (F0 m tgt ls rest)) (kf : ¬ x ≤ 0 → W p l e R s m args below meth c H locs cells slots Q (F0 m (pc + 3) ls rest)) : W p l e R s m args below meth c H locs cells slots Q (F0 m pc ls (.int (iI x) :: rest)) := by
  have e0 : (0 : Int32) = iI 0 := iI_0.symm
  refine lv_if_le hx hb hdg ht (fun h => kt ?_) (fun h => kf ?_)
  · rw [e0] at h
    exact (iI_le hxr (by omega)).mp h
  · rw [e0] at h
    exact fun z => h ((iI_le hxr (by omega)).mpr z)
theorem zl_if_le (hx : p.tables.exec = Jvm.exec) (hb : c.code = cc) {x y : Int} {off : Int} {tgt : Nat} (hdg : decode cc pc = .ok (.lcmp, 1)) (hdg2 : decode cc (pc + 1) = .ok (.ifCond .le off, 3)) (ht : ((pc + 1 : Nat) : Int) + off = (tgt : Int)) (hxr : -9223372036854775808 ≤ x ∧ x ≤ 9223372036854775807) (hyr : -9223372036854775808 ≤ y ∧ y ≤ 9223372036854775807) (kt : x ≤ y → W p l e R s m args below meth c H locs cells slots Q (F0 m tgt ls rest)) (kf : ¬ x ≤ y → W p l e R s m args below meth c H locs cells slots Q (F0 m (pc + 1 + 3) ls rest)) : W p l e R s m args below meth c H locs cells slots Q (F0 m pc ls (.long (lI y) :: .long (lI x) :: rest)) := W.lcmp hx hb hdg (lv_if_le hx hb hdg2 ht (fun h => kt (((lg_cmp_le (lI x) (lI y)).trans (lI_le hxr hyr)).mp h)) (fun h => kf (fun z => h (((lg_cmp_le (lI x) (lI y)).trans (lI_le hxr hyr)).mpr z))))
theorem zb_if_eq (hx : p.tables.exec = Jvm.exec) (hb : c.code = cc) {q : Prop} {off : Int} {tgt : Nat} (hdg : decode cc pc = .ok (.ifCond .eq off, 3)) (ht : (pc : Int) + off = (tgt : Int)) (kt : ¬ q → W p l e R s m args below meth c H locs cells slots Q (F0 m tgt ls rest)) (kf : q → W p l e R s m args below meth c H locs cells slots Q (F0 m (pc + 3) ls rest)) : W p l e R s m args below meth c H locs cells slots Q (F0 m pc ls (.int (iI (bI q)) :: rest)) := zi_if_eq hx hb hdg ht (by have := bI_rg q; omega) (fun h => kt (bI_0.mp h)) (fun h => kf (Classical.byContradiction fun z => h (bI_0.mpr z)))
theorem zb_if_ne (hx : p.tables.exec = Jvm.exec) (hb : c.code = cc) {q : Prop} {off : Int} {tgt : Nat} (hdg : decode cc pc = .ok (.ifCond .ne off, 3)) (ht : (pc : Int) + off = (tgt : Int)) (kt : q → W p l e R s m args below meth c H locs cells slots Q (F0 m tgt ls rest)) (kf : ¬ q → W p l e R s m args below meth c H locs cells slots Q (F0 m (pc + 3) ls rest)) : W p l e R s m args below meth c H locs cells slots Q (F0 m pc ls (.int (iI (bI q)) :: rest)) := zi_if_ne hx hb hdg ht (by have := bI_rg q; omega) (fun h => kt (Classical.byContradiction fun z => h (bI_0.mpr z))) (fun h => kf (bI_0.mp h))
theorem zi_iald (hx : p.tables.exec = Jvm.exec) (hb : c.code = cc) (hK : va_K D cl tys s) (hP : va_P D cl ws H) (q0 t0 : Nat) {cA : ClassId} {n : Nat} {X : Int → Int} (ha : ws[q0]? = some (a, .inl (cA, n, .inl (zF X)))) (ht : tys[t0]? = some (cA, .int)) {i : Int} (hn : n < 2147483648) (hi : 0 ≤ i ∧ i < (n : Int)) (hdg : decode cc pc = .ok (.iaload, 1)) (k : W p l e R s m args below meth c H locs cells slots Q (F0 m (pc + 1) ls (.int (iI (X i)) :: rest))) : W p l e R s m args below meth c H locs cells slots Q (F0 m pc ls (.int (iI i) :: .ref a :: rest)) := va_iald hx hb hK hP q0 t0 ha ht (zI_in hi hn) hdg (by rw [zF_at X ⟨hi.1, by omega⟩]; exact k)
theorem zl_lald (hx : p.tables.exec = Jvm.exec) (hb : c.code = cc) (hK : va_K D cl tys s) (hP : va_P D cl ws H) (q0 t0 : Nat) {cA : ClassId} {n : Nat} {X : Int → Int} (ha : ws[q0]? = some (a, .inl (cA, n, .inr (.inl (zL X))))) (ht : tys[t0]? = some (cA, .long)) {i : Int} (hn : n < 2147483648) (hi : 0 ≤ i ∧ i < (n : Int)) (hdg : decode cc pc = .ok (.laload, 1)) (k : W p l e R s m args below meth c H locs cells slots Q (F0 m (pc + 1) ls (.long (lI (X i)) :: rest))) : W p l e R s m args below meth c H locs cells slots Q (F0 m pc ls (.int (iI i) :: .ref a :: rest)) := va_lald hx hb hK hP q0 t0 ha ht (zI_in hi hn) hdg (by rw [zL_at X ⟨hi.1, by omega⟩]; exact k)
theorem zi_iast (hx : p.tables.exec = Jvm.exec) (hb : c.code = cc) (hK : va_K D cl tys s) (hP : va_P D cl ws H) (hD : va_D A ws) (hS : va_S A H0 H locs) (q0 t0 : Nat) {cA : ClassId} {n : Nat} {X : Int → Int} (ha : ws[q0]? = some (a, .inl (cA, n, .inl (zF X)))) (ht : tys[t0]? = some (cA, .int)) {i x : Int} (hn : n < 2147483648) (hi : 0 ≤ i ∧ i < (n : Int)) (hdg : decode cc pc = .ok (.iastore, 1)) (k : ∀ (H1 : Heap) (locs1 : List Loc), va_P D cl (ws.set q0 (a, .inl (cA, n, .inl (zF (zU X i x))))) H1 → va_D A (ws.set q0 (a, .inl (cA, n, .inl (zF (zU X i x))))) → va_S A H0 H1 locs1 → W p l e R s m args below meth c H1 locs1 cells slots Q (F0 m (pc + 1) ls rest)) : W p l e R s m args below meth c H locs cells slots Q (F0 m pc ls (.int (iI x) :: .int (iI i) :: .ref a :: rest)) := va_iast hx hb hK hP hD hS q0 t0 ha ht (zI_in hi hn) hdg (by rw [zF_up X x ⟨hi.1, by omega⟩]; exact k)
theorem zl_last (hx : p.tables.exec = Jvm.exec) (hb : c.code = cc) (hK : va_K D cl tys s) (hP : va_P D cl ws H) (hD : va_D A ws) (hS : va_S A H0 H locs) (q0 t0 : Nat) {cA : ClassId} {n : Nat} {X : Int → Int} (ha : ws[q0]? = some (a, .inl (cA, n, .inr (.inl (zL X))))) (ht : tys[t0]? = some (cA, .long)) {i x : Int} (hn : n < 2147483648) (hi : 0 ≤ i ∧ i < (n : Int)) (hdg : decode cc pc = .ok (.lastore, 1)) (k : ∀ (H1 : Heap) (locs1 : List Loc), va_P D cl (ws.set q0 (a, .inl (cA, n, .inr (.inl (zL (zU X i x)))))) H1 → va_D A (ws.set q0 (a, .inl (cA, n, .inr (.inl (zL (zU X i x)))))) → va_S A H0 H1 locs1 → W p l e R s m args below meth c H1 locs1 cells slots Q (F0 m (pc + 1) ls rest)) : W p l e R s m args below meth c H locs cells slots Q (F0 m pc ls (.long (lI x) :: .int (iI i) :: .ref a :: rest)) := va_last hx hb hK hP hD hS q0 t0 ha ht (zI_in hi hn) hdg (by rw [zL_up X x ⟨hi.1, by omega⟩]; exact k)
theorem zi_max (hx : p.tables.exec = Jvm.exec) (hb : c.code = cc) (hml : c.maxLocals = ls.size) {own : String} {index : Nat} (hown : s.vm.findClass own = some m.cls) (hlink : (Cond.methodLink own index Lib.Math.max.name).before args s = true) (hstat : (Cond.static Lib.Math.max.name).before args s = true) (hini : (Cond.initialized "java/lang/Math").before args s = true) (hcode : (Cond.code Lib.Math.max.name Lib.Math.max.code 2 (some .int)).before args s = true)
    (hframes : 1 ≤ R.frames) (hlocals : (rest.map fun v => v.category).sum + 13 ≤ R.locals) (hc : cells ≤ R.cells) (hs : slots ≤ R.slots) {x y : Int} (hdg : decode cc pc = .ok (.invokestatic index, 3)) (hxr : -2147483648 ≤ x ∧ x ≤ 2147483647) (hyr : -2147483648 ≤ y ∧ y ≤ 2147483647)
    (kk : W p l e R s m args below meth c H locs cells slots Q (F0 m (pc + 3) ls (.int (iI (max x y)) :: rest))) : W p l e R s m args below meth c H locs cells slots Q (F0 m pc ls (.int (iI y) :: .int (iI x) :: rest)) := va_mmax hx hb hml hown hlink hstat hini hcode hframes hlocals hc hs hdg (by
  have h : (if iI x < iI y then iI y else iI x) = iI (max x y) := by
    by_cases h : x < y
    · rw [if_pos ((iI_lt hxr hyr).mpr h), Int.max_eq_right (by omega)]
    · rw [if_neg (fun z => h ((iI_lt hxr hyr).mp z)), Int.max_eq_left (by omega)]
  rw [h]; exact kk)
theorem zi_min (hx : p.tables.exec = Jvm.exec) (hb : c.code = cc) (hml : c.maxLocals = ls.size) {own : String} {index : Nat} (hown : s.vm.findClass own = some m.cls) (hlink : (Cond.methodLink own index Lib.Math.min.name).before args s = true) (hstat : (Cond.static Lib.Math.min.name).before args s = true) (hini : (Cond.initialized "java/lang/Math").before args s = true) (hcode : (Cond.code Lib.Math.min.name Lib.Math.min.code 2 (some .int)).before args s = true)
    (hframes : 1 ≤ R.frames) (hlocals : (rest.map fun v => v.category).sum + 13 ≤ R.locals) (hc : cells ≤ R.cells) (hs : slots ≤ R.slots) {x y : Int} (hdg : decode cc pc = .ok (.invokestatic index, 3)) (hxr : -2147483648 ≤ x ∧ x ≤ 2147483647) (hyr : -2147483648 ≤ y ∧ y ≤ 2147483647)
    (kk : W p l e R s m args below meth c H locs cells slots Q (F0 m (pc + 3) ls (.int (iI (min x y)) :: rest))) : W p l e R s m args below meth c H locs cells slots Q (F0 m pc ls (.int (iI y) :: .int (iI x) :: rest)) := va_mmin hx hb hml hown hlink hstat hini hcode hframes hlocals hc hs hdg (by
  have h : (if iI y < iI x then iI y else iI x) = iI (min x y) := by
    by_cases h : y < x
    · rw [if_pos ((iI_lt hyr hxr).mpr h), Int.min_eq_right (by omega)]
    · rw [if_neg (fun z => h ((iI_lt hyr hxr).mp z)), Int.min_eq_left (by omega)]
  rw [h]; exact kk)
def zab (x : Int) : Int := if 0 ≤ x then x else -x
theorem zi_abs (hx : p.tables.exec = Jvm.exec) (hb : c.code = cc) (hml : c.maxLocals = ls.size) {own : String} {index : Nat} (hown : s.vm.findClass own = some m.cls) (hlink : (Cond.methodLink own index Lib.Math.abs.name).before args s = true) (hstat : (Cond.static Lib.Math.abs.name).before args s = true) (hini : (Cond.initialized "java/lang/Math").before args s = true) (hcode : (Cond.code Lib.Math.abs.name Lib.Math.abs.code 1 (some .int)).before args s = true)
    (hframes : 1 ≤ R.frames) (hlocals : (rest.map fun v => v.category).sum + 13 ≤ R.locals) (hc : cells ≤ R.cells) (hs : slots ≤ R.slots) {x : Int} (hdg : decode cc pc = .ok (.invokestatic index, 3)) (hxr : -2147483648 ≤ x ∧ x ≤ 2147483647)
    (kk : W p l e R s m args below meth c H locs cells slots Q (F0 m (pc + 3) ls (.int (iI (zab x)) :: rest))) : W p l e R s m args below meth c H locs cells slots Q (F0 m pc ls (.int (iI x) :: rest)) := va_mabs hx hb hml hown hlink hstat hini hcode hframes hlocals hc hs hdg (by
  have h : (if 0 ≤ iI x then iI x else 0 - iI x) = iI (zab x) := by
    unfold zab
    rw [← iI_0]
    by_cases h : 0 ≤ x
    · rw [if_pos ((iI_le (by omega) hxr).mpr h), if_pos h]
    · rw [if_neg (fun z => h ((iI_le (by omega) hxr).mp z)), if_neg h, iI_sub, Int.zero_sub]
  rw [h]; exact kk)
theorem zl_abs (hx : p.tables.exec = Jvm.exec) (hb : c.code = cc) (hml : c.maxLocals = ls.size) {own : String} {index : Nat} (hown : s.vm.findClass own = some m.cls) (hlink : (Cond.methodLink own index Lib.MathLoose.abs_long.x).before args s = true) (hstat : (Cond.static Lib.MathLoose.abs_long.x).before args s = true) (hini : (Cond.initialized "java/lang/Math").before args s = true) (hcode : (Cond.code Lib.MathLoose.abs_long.x Lib.MathLoose.abs_long.code 2 (some .long)).before args s = true)
    (hframes : 1 ≤ R.frames) (hlocals : (rest.map fun v => v.category).sum + 13 ≤ R.locals) (hc : cells ≤ R.cells) (hs : slots ≤ R.slots) {x : Int} (hdg : decode cc pc = .ok (.invokestatic index, 3)) (hxr : -9223372036854775808 ≤ x ∧ x ≤ 9223372036854775807)
    (kk : W p l e R s m args below meth c H locs cells slots Q (F0 m (pc + 3) ls (.long (lI (zab x)) :: rest))) : W p l e R s m args below meth c H locs cells slots Q (F0 m pc ls (.long (lI x) :: rest)) := va_mabs_long hx hb hml hown hlink hstat hini hcode hframes hlocals hc hs hdg (by
  have h : (if 0 < lI x then lI x else -lI x) = lI (zab x) := by
    unfold zab
    rw [← lI_0]
    by_cases h : 0 < x
    · rw [if_pos ((lI_lt (by omega) hxr).mpr h), if_pos (by omega)]
    · rw [if_neg (fun z => h ((lI_lt (by omega) hxr).mp z)), lI_neg]
      by_cases h0 : 0 ≤ x
      · rw [if_pos h0, show x = 0 by omega]; rfl
      · rw [if_neg h0]
  rw [h]; exact kk)
theorem zi_idiv (hx : p.tables.exec = Jvm.exec) (hb : c.code = cc) {x y : Int} (hdg : decode cc pc = .ok (.idiv, 1)) (hxr : -2147483648 ≤ x ∧ x ≤ 2147483647) (hyr : -2147483648 ≤ y ∧ y ≤ 2147483647) (h0 : y ≠ 0) (hxm : -2147483648 < x) (k : W p l e R s m args below meth c H locs cells slots Q (F0 m (pc + 1) ls (.int (iI (x.tdiv y)) :: rest))) : W p l e R s m args below meth c H locs cells slots Q (F0 m pc ls (.int (iI y) :: .int (iI x) :: rest)) := lv_idiv hx hb hdg (by rw [← iI_0, iI_eq hyr (by omega)]; exact h0) (by
  have h : iI x / iI y = iI (x.tdiv y) := by
    apply Int32.toInt_inj.mp
    rw [Int32.toInt_div_of_ne_left _ _ (fun z => by have := congrArg Int32.toInt z; rw [iI_T hxr] at this; rw [this] at hxm; exact absurd hxm (by decide)), iI_T hxr, iI_T hyr]
    have h1 : (x.tdiv y).natAbs ≤ x.natAbs := Int.natAbs_tdiv_le_natAbs x y
    exact (iI_T (by omega)).symm
  rw [h]; exact k)
theorem zi_irem (hx : p.tables.exec = Jvm.exec) (hb : c.code = cc) {x y : Int} (hdg : decode cc pc = .ok (.irem, 1)) (hxr : -2147483648 ≤ x ∧ x ≤ 2147483647) (hyr : -2147483648 ≤ y ∧ y ≤ 2147483647) (h0 : y ≠ 0) (hxm : -2147483648 < x) (k : W p l e R s m args below meth c H locs cells slots Q (F0 m (pc + 1) ls (.int (iI (x.tmod y)) :: rest))) : W p l e R s m args below meth c H locs cells slots Q (F0 m pc ls (.int (iI y) :: .int (iI x) :: rest)) := lv_irem hx hb hdg (by rw [← iI_0, iI_eq hyr (by omega)]; exact h0) (by
  have h : iI x / iI y = iI (x.tdiv y) := by
    apply Int32.toInt_inj.mp
    rw [Int32.toInt_div_of_ne_left _ _ (fun z => by have := congrArg Int32.toInt z; rw [iI_T hxr] at this; rw [this] at hxm; exact absurd hxm (by decide)), iI_T hxr, iI_T hyr]
    have h1 : (x.tdiv y).natAbs ≤ x.natAbs := Int.natAbs_tdiv_le_natAbs x y
    exact (iI_T (by omega)).symm
  rw [h, iI_mul, iI_sub, Int.mul_comm, ← Int.tmod_def]; exact k)
theorem zl_ldiv (hx : p.tables.exec = Jvm.exec) (hb : c.code = cc) {x y : Int} (hdg : decode cc pc = .ok (.ldiv, 1)) (hxr : -9223372036854775808 ≤ x ∧ x ≤ 9223372036854775807) (hyr : -9223372036854775808 ≤ y ∧ y ≤ 9223372036854775807) (h0 : y ≠ 0) (hxm : -9223372036854775808 < x) (k : W p l e R s m args below meth c H locs cells slots Q (F0 m (pc + 1) ls (.long (lI (x.tdiv y)) :: rest))) : W p l e R s m args below meth c H locs cells slots Q (F0 m pc ls (.long (lI y) :: .long (lI x) :: rest)) := lv_ldiv hx hb hdg (by rw [← lI_0, lI_eq hyr (by omega)]; exact h0) (by
  have h : lI x / lI y = lI (x.tdiv y) := by
    apply Int64.toInt_inj.mp
    rw [Int64.toInt_div_of_ne_left _ _ (fun z => by have := congrArg Int64.toInt z; rw [lI_T hxr] at this; rw [this] at hxm; exact absurd hxm (by decide)), lI_T hxr, lI_T hyr]
    have h1 : (x.tdiv y).natAbs ≤ x.natAbs := Int.natAbs_tdiv_le_natAbs x y
    exact (lI_T (by omega)).symm
  rw [h]; exact k)
theorem zl_lrem (hx : p.tables.exec = Jvm.exec) (hb : c.code = cc) {x y : Int} (hdg : decode cc pc = .ok (.lrem, 1)) (hxr : -9223372036854775808 ≤ x ∧ x ≤ 9223372036854775807) (hyr : -9223372036854775808 ≤ y ∧ y ≤ 9223372036854775807) (h0 : y ≠ 0) (hxm : -9223372036854775808 < x) (k : W p l e R s m args below meth c H locs cells slots Q (F0 m (pc + 1) ls (.long (lI (x.tmod y)) :: rest))) : W p l e R s m args below meth c H locs cells slots Q (F0 m pc ls (.long (lI y) :: .long (lI x) :: rest)) := lv_lrem hx hb hdg (by rw [← lI_0, lI_eq hyr (by omega)]; exact h0) (by
  have h : lI x / lI y = lI (x.tdiv y) := by
    apply Int64.toInt_inj.mp
    rw [Int64.toInt_div_of_ne_left _ _ (fun z => by have := congrArg Int64.toInt z; rw [lI_T hxr] at this; rw [this] at hxm; exact absurd hxm (by decide)), lI_T hxr, lI_T hyr]
    have h1 : (x.tdiv y).natAbs ≤ x.natAbs := Int.natAbs_tdiv_le_natAbs x y
    exact (lI_T (by omega)).symm
  rw [h, lI_mul, lI_sub, Int.mul_comm, ← Int.tmod_def]; exact k)
end ZI
theorem zx_ge {x y : Int} (hx : -2147483648 ≤ x ∧ x ≤ 2147483647) (hy : 0 ≤ y ∧ y ≤ 2147483647) : (0 ≤ iI x ^^^ iI y) ↔ 0 ≤ x := by
  have e : ∀ z : Int32, z.toInt < 0 ↔ z.toBitVec.msb = true := fun z => by
    rw [BitVec.msb_eq_toInt, decide_eq_true_eq]
    exact Iff.rfl
  have e1 : (iI y).toBitVec.msb = false := by
    cases h : (iI y).toBitVec.msb with
    | false => rfl
    | true =>
      have := (e _).mpr h
      rw [iI_T (by omega)] at this
      omega
  have h1 : (iI x ^^^ iI y).toInt < 0 ↔ x < 0 := by
    rw [e, Int32.toBitVec_xor, BitVec.msb_xor, e1, Bool.xor_false, ← e, iI_T hx]
  rw [Int32.le_iff_toInt_le, show (0 : Int32).toInt = 0 from rfl]
  omega
section ZX
variable {p : Program} {l : Launch} {e : Env} {R : Room} {s : State} {m : MethodId} {args : Array Value} {below : List Frame} {meth : Method} {c : Code} {H : Heap} {locs : List Loc} {cells slots : Nat} {Q : State → Prop}
variable {cc : ByteArray} {pc : Nat} {ls : Array Slot} {rest st : List Value} {D : va_G} {cl : List vw_C} {A : Nat → Prop} {a : Nat} {tys : List (ClassId × FieldType)} {ws : va_W} {H0 : Heap}
theorem zi_xor_ge (hx : p.tables.exec = Jvm.exec) (hb : c.code = cc) {x y : Int} {off : Int} {tgt : Nat} (hdg : decode cc pc = .ok (.ixor, 1)) (hdg2 : decode cc (pc + 1) = .ok (.ifCond .ge off, 3)) (ht : ((pc + 1 : Nat) : Int) + off = (tgt : Int)) (hxr : -2147483648 ≤ x ∧ x ≤ 2147483647) (hyr : 0 ≤ y ∧ y ≤ 2147483647) (kt : 0 ≤ x → W p l e R s m args below meth c H locs cells slots Q (F0 m tgt ls rest)) (kf : ¬ 0 ≤ x → W p l e R s m args below meth c H locs cells slots Q (F0 m (pc + 1 + 3) ls rest)) : W p l e R s m args below meth c H locs cells slots Q (F0 m pc ls (.int (iI y) :: .int (iI x) :: rest)) := lv_ixor hx hb hdg (lv_if_ge hx hb hdg2 ht (fun h => kt ((zx_ge hxr hyr).mp h)) (fun h => kf (fun z => h ((zx_ge hxr hyr).mpr z))))
end ZX
/-- a contract's start: the world, nothing else -/
def zP (D : va_G) (av : List Value) (sz : Nat) (ws : va_W) (tys : List (ClassId × FieldType)) : Array Value → State → Prop := va_Pc av (fun U => U.heap.size = sz ∧ va_P D vwCl ws U.heap ∧ va_K D vwCl tys U ∧ va_D (fun _ => True) ws)
/-- only new cells -/
def zN (sz : Nat) : Nat → Prop := fun q => sz ≤ q
/-- ends of methods that only read: an int, a long -/
def zRi (v : Int) (sz : Nat) : Array Value → State → Outcome → State → Prop := va_Qi (fun r (_ : Unit) => r = iI v) (fun _ _ => True) (zN sz)
def zRl (v : Int) (sz : Nat) : Array Value → State → Outcome → State → Prop := va_Ql (fun r (_ : Unit) => r = lI v) (fun _ _ => True) (zN sz)
def zRv (sz : Nat) : Array Value → State → Outcome → State → Prop := va_Qv (fun (_ : Unit) => True) (fun _ _ => True) (zN sz)
/-- ends of methods that write: the world behind them -/
def zB (D : va_G) (w1 w : va_W) (sz : Nat) (t : State) : Prop := va_P D vwCl w1 t.heap ∧ va_D (va_A w sz) w1
def zWv {S : Type} (post : S → Prop) (D : va_G) (w1 : S → va_W) (w : va_W) (sz : Nat) : Array Value → State → Outcome → State → Prop := va_Qv (fun (u : S) => post u) (fun u t => zB D (w1 u) w sz t) (va_A w sz)
def zWi {S : Type} (v : S → Int) (post : S → Prop) (D : va_G) (w1 : S → va_W) (w : va_W) (sz : Nat) : Array Value → State → Outcome → State → Prop := va_Qi (fun r (u : S) => r = iI (v u) ∧ post u) (fun u t => zB D (w1 u) w sz t) (va_A w sz)
def zWl {S : Type} (v : S → Int) (post : S → Prop) (D : va_G) (w1 : S → va_W) (w : va_W) (sz : Nat) : Array Value → State → Outcome → State → Prop := va_Ql (fun r (u : S) => r = lI (v u) ∧ post u) (fun u t => zB D (w1 u) w sz t) (va_A w sz)
theorem zP_blind {D : va_G} {av : List Value} {sz : Nat} {ws : va_W} {tys : List (ClassId × FieldType)} : FrameBlind (zP D av sz ws tys) := fun a U g mk q => by
  obtain ⟨q0, q1, qP, qK, qD⟩ := q
  exact ⟨q0, q1, qP, va_K.moved (u := U) (U := U.calling g mk a) (Vm.Alike.refl U.vm) qK, qD⟩
theorem zP_V {s : State} {H : Heap} {D : va_G} {ws : va_W} {tys : List (ClassId × FieldType)} {A : Nat → Prop} {C : String} {T : u_T} {N b ci : Nat} {fs : List Value} {As : List Value} (hP : va_P D vwCl ws H) (hK : va_K D vwCl tys s) (hD : va_D A ws) (hc : vwCl[ci]? = some (C, T, N)) (he : ws[0]? = some (b, .inr (ci, fs))) : PreV s H C b (zP D (.ref b :: As) H.size ws tys) As :=
  ⟨zP_blind, va_recv hK hP hc he, fun U hU hW => ⟨rfl, by rw [hU], by rw [hU]; exact hP, va_K.moved hW.alike hK, hD.weaken (fun _ _ _ _ => trivial)⟩⟩
theorem zP_S {s : State} {H : Heap} {D : va_G} {ws : va_W} {tys : List (ClassId × FieldType)} {A : Nat → Prop} {As : List Value} (hP : va_P D vwCl ws H) (hK : va_K D vwCl tys s) (hD : va_D A ws) : PreS s H (zP D As H.size ws tys) As :=
  ⟨zP_blind, fun U hU hW => ⟨rfl, by rw [hU], by rw [hU]; exact hP, va_K.moved hW.alike hK, hD.weaken (fun _ _ _ _ => trivial)⟩⟩
/-- a part of the world, by places -/
theorem zsub_P {D : va_G} {cl : List vw_C} {ws wc : va_W} {H : Heap} (h : va_P D cl ws H) (is : List Nat) (hs : is.map (fun i => ws[i]?) = wc.map some) : va_P D cl wc H := by
  intro k q hk
  have h1 : (is.map (fun i => ws[i]?))[k]? = some (some q) := by rw [hs, List.getElem?_map, hk]; rfl
  rw [List.getElem?_map] at h1
  cases hi : is[k]? with
  | none => rw [hi] at h1; cases h1
  | some i => rw [hi] at h1; exact h i q (Option.some.inj h1)
section ZC
variable {p : Program} {l : Launch} {e : Env} {R : Room} {s : State} {m : MethodId} {args : Array Value} {below : List Frame} {meth : Method} {c : Code} {H : Heap} {locs : List Loc} {cells slots : Nat} {Q : State → Prop}
variable {cc : ByteArray} {pc : Nat} {ls : Array Slot} {rest st : List Value} {D : va_G} {cl : List vw_C} {A : Nat → Prop} {a : Nat} {tys : List (ClassId × FieldType)} {ws : va_W} {H0 : Heap}
variable {nL maxL mc ms n index ci N b : Nat} {bytes : ByteArray} {y : MethodName} {ret : Option FieldType} {wsy Ts : List Cond} {rm : Room} {own C : String} {T : u_T} {fs As : List Value} {wc wc1 wr ws1 : va_W}
theorem zc_ri {A9 : Nat → Prop} {v : Int} (S9 : CallFix p m c cc nL s args Ts own) (hM : Met l y wsy rm (zP D (.ref b :: As) H.size wc tys) (zRi v H.size) 0 0 (zN H.size)) (cw : CallW R s args own C index y bytes maxL ret wsy rm 0 0 n) (hP : va_P D vwCl ws H) (hK : va_K D vwCl tys s) (hD : va_D A9 ws) (hS : va_S A H0 H locs) (hA : ∀ q : Nat, H0.size ≤ q → A q) (isC : List Nat) (hnd : va_nd isC = true) (hC : isC.map (fun i => ws[i]?) = wc.map some) (hc : vwCl[ci]? = some (C, T, N)) (he : wc[0]? = some (b, .inr (ci, fs))) (hn : As.length = n) (hsize : ls.size = nL) (hstack : st = As.reverse ++ .ref b :: rest) (hrest : (rest.map fun v => v.category).sum ≤ 8) (hdg : decode cc pc = .ok (.invokevirtual index, 3)) (hf : cells ≤ R.cells ∧ slots ≤ R.slots) (kk : ∀ (H1 : Heap) (locs1 : List Loc), va_P D vwCl ws H1 → va_S A H0 H1 locs1 → W p l e R s m args below meth c H1 locs1 cells slots Q (F0 m (pc + 3) ls (.int (iI v) :: rest))) : W p l e R s m args below meth c H locs cells slots Q (F0 m pc ls st) := by
  have hf9 : ∀ q : Nat, (zN H.size) q → A q := fun q h => hA q (Nat.le_trans hS.1 h)
  refine va_calli (va_runV (As := As) (rest := rest) S9 hM cw (zP_V (zsub_P hP isC hC) hK (hD.sub isC hnd hC) hc he) rfl hn hsize hstack (lv_room hrest) hdg hf) hS (fun q _ h => hf9 q h) hf9 (fun r u t H1 locs1 ht hvm hw hB1 hz hk hS1 => ?_)
  subst hw
  exact kk H1 locs1 (hP.kept (fun k q hq => hk q.1 ((hP k q hq).lt) (fun z => Nat.lt_irrefl _ (Nat.lt_of_lt_of_le ((hP k q hq).lt) z)))) hS1
theorem zc_riS {A9 : Nat → Prop} {v : Int} (S9 : CallFix p m c cc nL s args Ts own) (hM : Met l y wsy rm (zP D (As) H.size wc tys) (zRi v H.size) 0 0 (zN H.size)) (cw : CallB R s args own index y bytes maxL ret wsy rm 0 0 n ∧ (Cond.static y).before args s = true) (hP : va_P D vwCl ws H) (hK : va_K D vwCl tys s) (hD : va_D A9 ws) (hS : va_S A H0 H locs) (hA : ∀ q : Nat, H0.size ≤ q → A q) (isC : List Nat) (hnd : va_nd isC = true) (hC : isC.map (fun i => ws[i]?) = wc.map some) (hn : As.length = n) (hsize : ls.size = nL) (hstack : st = As.reverse ++ rest) (hrest : (rest.map fun v => v.category).sum ≤ 8) (hdg : decode cc pc = .ok (.invokestatic index, 3)) (hf : cells ≤ R.cells ∧ slots ≤ R.slots) (kk : ∀ (H1 : Heap) (locs1 : List Loc), va_P D vwCl ws H1 → va_S A H0 H1 locs1 → W p l e R s m args below meth c H1 locs1 cells slots Q (F0 m (pc + 3) ls (.int (iI v) :: rest))) : W p l e R s m args below meth c H locs cells slots Q (F0 m pc ls st) := by
  have hf9 : ∀ q : Nat, (zN H.size) q → A q := fun q h => hA q (Nat.le_trans hS.1 h)
  refine va_calli (va_runS (As := As) (rest := rest) S9 hM cw (zP_S (zsub_P hP isC hC) hK (hD.sub isC hnd hC)) rfl hn hsize hstack (lv_room hrest) hdg hf) hS (fun q _ h => hf9 q h) hf9 (fun r u t H1 locs1 ht hvm hw hB1 hz hk hS1 => ?_)
  subst hw
  exact kk H1 locs1 (hP.kept (fun k q hq => hk q.1 ((hP k q hq).lt) (fun z => Nat.lt_irrefl _ (Nat.lt_of_lt_of_le ((hP k q hq).lt) z)))) hS1
theorem zc_rl {A9 : Nat → Prop} {v : Int} (S9 : CallFix p m c cc nL s args Ts own) (hM : Met l y wsy rm (zP D (.ref b :: As) H.size wc tys) (zRl v H.size) 0 0 (zN H.size)) (cw : CallW R s args own C index y bytes maxL ret wsy rm 0 0 n) (hP : va_P D vwCl ws H) (hK : va_K D vwCl tys s) (hD : va_D A9 ws) (hS : va_S A H0 H locs) (hA : ∀ q : Nat, H0.size ≤ q → A q) (isC : List Nat) (hnd : va_nd isC = true) (hC : isC.map (fun i => ws[i]?) = wc.map some) (hc : vwCl[ci]? = some (C, T, N)) (he : wc[0]? = some (b, .inr (ci, fs))) (hn : As.length = n) (hsize : ls.size = nL) (hstack : st = As.reverse ++ .ref b :: rest) (hrest : (rest.map fun v => v.category).sum ≤ 8) (hdg : decode cc pc = .ok (.invokevirtual index, 3)) (hf : cells ≤ R.cells ∧ slots ≤ R.slots) (kk : ∀ (H1 : Heap) (locs1 : List Loc), va_P D vwCl ws H1 → va_S A H0 H1 locs1 → W p l e R s m args below meth c H1 locs1 cells slots Q (F0 m (pc + 3) ls (.long (lI v) :: rest))) : W p l e R s m args below meth c H locs cells slots Q (F0 m pc ls st) := by
  have hf9 : ∀ q : Nat, (zN H.size) q → A q := fun q h => hA q (Nat.le_trans hS.1 h)
  refine va_calll (va_runV (As := As) (rest := rest) S9 hM cw (zP_V (zsub_P hP isC hC) hK (hD.sub isC hnd hC) hc he) rfl hn hsize hstack (lv_room hrest) hdg hf) hS (fun q _ h => hf9 q h) hf9 (fun r u t H1 locs1 ht hvm hw hB1 hz hk hS1 => ?_)
  subst hw
  exact kk H1 locs1 (hP.kept (fun k q hq => hk q.1 ((hP k q hq).lt) (fun z => Nat.lt_irrefl _ (Nat.lt_of_lt_of_le ((hP k q hq).lt) z)))) hS1
theorem zc_rlS {A9 : Nat → Prop} {v : Int} (S9 : CallFix p m c cc nL s args Ts own) (hM : Met l y wsy rm (zP D (As) H.size wc tys) (zRl v H.size) 0 0 (zN H.size)) (cw : CallB R s args own index y bytes maxL ret wsy rm 0 0 n ∧ (Cond.static y).before args s = true) (hP : va_P D vwCl ws H) (hK : va_K D vwCl tys s) (hD : va_D A9 ws) (hS : va_S A H0 H locs) (hA : ∀ q : Nat, H0.size ≤ q → A q) (isC : List Nat) (hnd : va_nd isC = true) (hC : isC.map (fun i => ws[i]?) = wc.map some) (hn : As.length = n) (hsize : ls.size = nL) (hstack : st = As.reverse ++ rest) (hrest : (rest.map fun v => v.category).sum ≤ 8) (hdg : decode cc pc = .ok (.invokestatic index, 3)) (hf : cells ≤ R.cells ∧ slots ≤ R.slots) (kk : ∀ (H1 : Heap) (locs1 : List Loc), va_P D vwCl ws H1 → va_S A H0 H1 locs1 → W p l e R s m args below meth c H1 locs1 cells slots Q (F0 m (pc + 3) ls (.long (lI v) :: rest))) : W p l e R s m args below meth c H locs cells slots Q (F0 m pc ls st) := by
  have hf9 : ∀ q : Nat, (zN H.size) q → A q := fun q h => hA q (Nat.le_trans hS.1 h)
  refine va_calll (va_runS (As := As) (rest := rest) S9 hM cw (zP_S (zsub_P hP isC hC) hK (hD.sub isC hnd hC)) rfl hn hsize hstack (lv_room hrest) hdg hf) hS (fun q _ h => hf9 q h) hf9 (fun r u t H1 locs1 ht hvm hw hB1 hz hk hS1 => ?_)
  subst hw
  exact kk H1 locs1 (hP.kept (fun k q hq => hk q.1 ((hP k q hq).lt) (fun z => Nat.lt_irrefl _ (Nat.lt_of_lt_of_le ((hP k q hq).lt) z)))) hS1
theorem zc_rv {A9 : Nat → Prop} (S9 : CallFix p m c cc nL s args Ts own) (hM : Met l y wsy rm (zP D (.ref b :: As) H.size wc tys) (zRv H.size) 0 0 (zN H.size)) (cw : CallW R s args own C index y bytes maxL ret wsy rm 0 0 n) (hP : va_P D vwCl ws H) (hK : va_K D vwCl tys s) (hD : va_D A9 ws) (hS : va_S A H0 H locs) (hA : ∀ q : Nat, H0.size ≤ q → A q) (isC : List Nat) (hnd : va_nd isC = true) (hC : isC.map (fun i => ws[i]?) = wc.map some) (hc : vwCl[ci]? = some (C, T, N)) (he : wc[0]? = some (b, .inr (ci, fs))) (hn : As.length = n) (hsize : ls.size = nL) (hstack : st = As.reverse ++ .ref b :: rest) (hrest : (rest.map fun v => v.category).sum ≤ 8) (hdg : decode cc pc = .ok (.invokevirtual index, 3)) (hf : cells ≤ R.cells ∧ slots ≤ R.slots) (kk : ∀ (H1 : Heap) (locs1 : List Loc), va_P D vwCl ws H1 → va_S A H0 H1 locs1 → W p l e R s m args below meth c H1 locs1 cells slots Q (F0 m (pc + 3) ls (rest))) : W p l e R s m args below meth c H locs cells slots Q (F0 m pc ls st) := by
  have hf9 : ∀ q : Nat, (zN H.size) q → A q := fun q h => hA q (Nat.le_trans hS.1 h)
  refine va_callv (va_runV (As := As) (rest := rest) S9 hM cw (zP_V (zsub_P hP isC hC) hK (hD.sub isC hnd hC) hc he) rfl hn hsize hstack (lv_room hrest) hdg hf) hS (fun q _ h => hf9 q h) hf9 (fun u t H1 locs1 ht hvm hw hB1 hz hk hS1 => ?_)
  skip
  exact kk H1 locs1 (hP.kept (fun k q hq => hk q.1 ((hP k q hq).lt) (fun z => Nat.lt_irrefl _ (Nat.lt_of_lt_of_le ((hP k q hq).lt) z)))) hS1
theorem zc_rvS {A9 : Nat → Prop} (S9 : CallFix p m c cc nL s args Ts own) (hM : Met l y wsy rm (zP D (As) H.size wc tys) (zRv H.size) 0 0 (zN H.size)) (cw : CallB R s args own index y bytes maxL ret wsy rm 0 0 n ∧ (Cond.static y).before args s = true) (hP : va_P D vwCl ws H) (hK : va_K D vwCl tys s) (hD : va_D A9 ws) (hS : va_S A H0 H locs) (hA : ∀ q : Nat, H0.size ≤ q → A q) (isC : List Nat) (hnd : va_nd isC = true) (hC : isC.map (fun i => ws[i]?) = wc.map some) (hn : As.length = n) (hsize : ls.size = nL) (hstack : st = As.reverse ++ rest) (hrest : (rest.map fun v => v.category).sum ≤ 8) (hdg : decode cc pc = .ok (.invokestatic index, 3)) (hf : cells ≤ R.cells ∧ slots ≤ R.slots) (kk : ∀ (H1 : Heap) (locs1 : List Loc), va_P D vwCl ws H1 → va_S A H0 H1 locs1 → W p l e R s m args below meth c H1 locs1 cells slots Q (F0 m (pc + 3) ls (rest))) : W p l e R s m args below meth c H locs cells slots Q (F0 m pc ls st) := by
  have hf9 : ∀ q : Nat, (zN H.size) q → A q := fun q h => hA q (Nat.le_trans hS.1 h)
  refine va_callv (va_runS (As := As) (rest := rest) S9 hM cw (zP_S (zsub_P hP isC hC) hK (hD.sub isC hnd hC)) rfl hn hsize hstack (lv_room hrest) hdg hf) hS (fun q _ h => hf9 q h) hf9 (fun u t H1 locs1 ht hvm hw hB1 hz hk hS1 => ?_)
  skip
  exact kk H1 locs1 (hP.kept (fun k q hq => hk q.1 ((hP k q hq).lt) (fun z => Nat.lt_irrefl _ (Nat.lt_of_lt_of_le ((hP k q hq).lt) z)))) hS1
theorem zc_wi {S : Type} {v : S → Int} {post : S → Prop} {wc1 ws1 : S → va_W} (S9 : CallFix p m c cc nL s args Ts own) (hM : Met l y wsy rm (zP D (.ref b :: As) H.size wc tys) (zWi v post D wc1 wc H.size) 0 0 (va_A wc H.size)) (cw : CallW R s args own C index y bytes maxL ret wsy rm 0 0 n) (hP : va_P D vwCl ws H) (hK : va_K D vwCl tys s) (hD : va_D A ws) (hS : va_S A H0 H locs) (hA : ∀ q : Nat, H0.size ≤ q → A q) (isC : List Nat) (hnd : va_nd isC = true) (hC : isC.map (fun i => ws[i]?) = wc.map some) (hc : vwCl[ci]? = some (C, T, N)) (he : wc[0]? = some (b, .inr (ci, fs))) (isR isB : List Nat) (hR : isR.map (fun i => ws[i]?) = wr.map some) (hnR : va_nd isR = true) (hdis : ∀ i ∈ isR, i ∉ isC) (hB : ∀ u : S, isB.map (fun i => (wr ++ wc1 u)[i]?) = (ws1 u).map some) (hnB : va_nd isB = true) (hn : As.length = n) (hsize : ls.size = nL) (hstack : st = As.reverse ++ .ref b :: rest) (hrest : (rest.map fun v => v.category).sum ≤ 8) (hdg : decode cc pc = .ok (.invokevirtual index, 3)) (hf : cells ≤ R.cells ∧ slots ≤ R.slots) (kk : ∀ (u : S) (H1 : Heap) (locs1 : List Loc), post u → va_P D vwCl (ws1 u) H1 → va_D A (ws1 u) → va_S A H0 H1 locs1 → W p l e R s m args below meth c H1 locs1 cells slots Q (F0 m (pc + 3) ls (.int (iI (v u)) :: rest))) : W p l e R s m args below meth c H locs cells slots Q (F0 m pc ls st) := by
  have hf9 : ∀ q : Nat, (va_A wc H.size) q → A q := va_free hD hS hA isC hC
  refine va_calli (va_runV (As := As) (rest := rest) S9 hM cw (zP_V (zsub_P hP isC hC) hK (hD.sub isC hnd hC) hc he) rfl hn hsize hstack (lv_room hrest) hdg hf) hS (fun q _ h => hf9 q h) hf9 (fun r u t H1 locs1 ht hvm hw hB1 hz hk hS1 => ?_)
  obtain ⟨rfl, hw⟩ := hw
  obtain ⟨hP1, hD1⟩ := hB1
  rw [ht] at hP1
  obtain ⟨hP2, hD2⟩ := va_join hP hD isC isR hC hR hnR hdis hk hf9 hP1 hD1
  exact kk u H1 locs1 hw (zsub_P hP2 isB (hB u)) (hD2.sub isB hnB (hB u)) hS1
theorem zc_wl {S : Type} {v : S → Int} {post : S → Prop} {wc1 ws1 : S → va_W} (S9 : CallFix p m c cc nL s args Ts own) (hM : Met l y wsy rm (zP D (.ref b :: As) H.size wc tys) (zWl v post D wc1 wc H.size) 0 0 (va_A wc H.size)) (cw : CallW R s args own C index y bytes maxL ret wsy rm 0 0 n) (hP : va_P D vwCl ws H) (hK : va_K D vwCl tys s) (hD : va_D A ws) (hS : va_S A H0 H locs) (hA : ∀ q : Nat, H0.size ≤ q → A q) (isC : List Nat) (hnd : va_nd isC = true) (hC : isC.map (fun i => ws[i]?) = wc.map some) (hc : vwCl[ci]? = some (C, T, N)) (he : wc[0]? = some (b, .inr (ci, fs))) (isR isB : List Nat) (hR : isR.map (fun i => ws[i]?) = wr.map some) (hnR : va_nd isR = true) (hdis : ∀ i ∈ isR, i ∉ isC) (hB : ∀ u : S, isB.map (fun i => (wr ++ wc1 u)[i]?) = (ws1 u).map some) (hnB : va_nd isB = true) (hn : As.length = n) (hsize : ls.size = nL) (hstack : st = As.reverse ++ .ref b :: rest) (hrest : (rest.map fun v => v.category).sum ≤ 8) (hdg : decode cc pc = .ok (.invokevirtual index, 3)) (hf : cells ≤ R.cells ∧ slots ≤ R.slots) (kk : ∀ (u : S) (H1 : Heap) (locs1 : List Loc), post u → va_P D vwCl (ws1 u) H1 → va_D A (ws1 u) → va_S A H0 H1 locs1 → W p l e R s m args below meth c H1 locs1 cells slots Q (F0 m (pc + 3) ls (.long (lI (v u)) :: rest))) : W p l e R s m args below meth c H locs cells slots Q (F0 m pc ls st) := by
  have hf9 : ∀ q : Nat, (va_A wc H.size) q → A q := va_free hD hS hA isC hC
  refine va_calll (va_runV (As := As) (rest := rest) S9 hM cw (zP_V (zsub_P hP isC hC) hK (hD.sub isC hnd hC) hc he) rfl hn hsize hstack (lv_room hrest) hdg hf) hS (fun q _ h => hf9 q h) hf9 (fun r u t H1 locs1 ht hvm hw hB1 hz hk hS1 => ?_)
  obtain ⟨rfl, hw⟩ := hw
  obtain ⟨hP1, hD1⟩ := hB1
  rw [ht] at hP1
  obtain ⟨hP2, hD2⟩ := va_join hP hD isC isR hC hR hnR hdis hk hf9 hP1 hD1
  exact kk u H1 locs1 hw (zsub_P hP2 isB (hB u)) (hD2.sub isB hnB (hB u)) hS1
theorem zc_wv {S : Type} {post : S → Prop} {wc1 ws1 : S → va_W} (S9 : CallFix p m c cc nL s args Ts own) (hM : Met l y wsy rm (zP D (.ref b :: As) H.size wc tys) (zWv post D wc1 wc H.size) 0 0 (va_A wc H.size)) (cw : CallW R s args own C index y bytes maxL ret wsy rm 0 0 n) (hP : va_P D vwCl ws H) (hK : va_K D vwCl tys s) (hD : va_D A ws) (hS : va_S A H0 H locs) (hA : ∀ q : Nat, H0.size ≤ q → A q) (isC : List Nat) (hnd : va_nd isC = true) (hC : isC.map (fun i => ws[i]?) = wc.map some) (hc : vwCl[ci]? = some (C, T, N)) (he : wc[0]? = some (b, .inr (ci, fs))) (isR isB : List Nat) (hR : isR.map (fun i => ws[i]?) = wr.map some) (hnR : va_nd isR = true) (hdis : ∀ i ∈ isR, i ∉ isC) (hB : ∀ u : S, isB.map (fun i => (wr ++ wc1 u)[i]?) = (ws1 u).map some) (hnB : va_nd isB = true) (hn : As.length = n) (hsize : ls.size = nL) (hstack : st = As.reverse ++ .ref b :: rest) (hrest : (rest.map fun v => v.category).sum ≤ 8) (hdg : decode cc pc = .ok (.invokevirtual index, 3)) (hf : cells ≤ R.cells ∧ slots ≤ R.slots) (kk : ∀ (u : S) (H1 : Heap) (locs1 : List Loc), post u → va_P D vwCl (ws1 u) H1 → va_D A (ws1 u) → va_S A H0 H1 locs1 → W p l e R s m args below meth c H1 locs1 cells slots Q (F0 m (pc + 3) ls (rest))) : W p l e R s m args below meth c H locs cells slots Q (F0 m pc ls st) := by
  have hf9 : ∀ q : Nat, (va_A wc H.size) q → A q := va_free hD hS hA isC hC
  refine va_callv (va_runV (As := As) (rest := rest) S9 hM cw (zP_V (zsub_P hP isC hC) hK (hD.sub isC hnd hC) hc he) rfl hn hsize hstack (lv_room hrest) hdg hf) hS (fun q _ h => hf9 q h) hf9 (fun u t H1 locs1 ht hvm hw hB1 hz hk hS1 => ?_)
  skip
  obtain ⟨hP1, hD1⟩ := hB1
  rw [ht] at hP1
  obtain ⟨hP2, hD2⟩ := va_join hP hD isC isR hC hR hnR hdis hk hf9 hP1 hD1
  exact kk u H1 locs1 hw (zsub_P hP2 isB (hB u)) (hD2.sub isB hnB (hB u)) hS1
end ZC
