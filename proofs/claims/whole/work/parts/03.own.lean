def zPw (X Y W : Int → Int) (s x y : Int) : Int := (x - X s) * (x - X s) + (y - Y s) * (y - Y s) - W s
def zHt (X Y W : Int → Int) (s : Int) : Int := zPw X Y W s 0 0
/-- places in the box, weights in their range -/
def zBd (X Y W : Int → Int) : Prop := (∀ i, 0 ≤ X i ∧ X i ≤ 40) ∧ (∀ i, 0 ≤ Y i ∧ Y i ≤ 40) ∧ ∀ i, -999 ≤ W i ∧ W i ≤ 999
theorem zm_le {a b A B : Int} (ha : -A ≤ a ∧ a ≤ A) (hb : -B ≤ b ∧ b ≤ B) : -(A * B) ≤ a * b ∧ a * b ≤ A * B := by
  have hA : 0 ≤ A := by omega
  have hB : 0 ≤ B := by omega
  have h1 : (a * b).natAbs ≤ (A * B).natAbs := by
    rw [Int.natAbs_mul, Int.natAbs_mul]
    exact Nat.mul_le_mul (by omega) (by omega)
  have h2 : 0 ≤ A * B := Int.mul_nonneg hA hB
  omega
theorem zs_ge (a : Int) : 0 ≤ a * a := by
  rcases Int.le_total 0 a with h | h
  · exact Int.mul_nonneg h h
  · exact Int.mul_nonneg_of_nonpos_of_nonpos h h
theorem zPw_rg {X Y W : Int → Int} (h : zBd X Y W) (s : Int) {x y : Int} (hx : 0 ≤ x ∧ x ≤ 40) (hy : 0 ≤ y ∧ y ≤ 40) : -999 ≤ zPw X Y W s x y ∧ zPw X Y W s x y ≤ 4199 := by
  have h1 := h.1 s
  have h2 := h.2.1 s
  have h3 := h.2.2 s
  have a1 := zm_le (a := x - X s) (b := x - X s) (A := 40) (B := 40) (by omega) (by omega)
  have a2 := zm_le (a := y - Y s) (b := y - Y s) (A := 40) (B := 40) (by omega) (by omega)
  have b1 := zs_ge (x - X s)
  have b2 := zs_ge (y - Y s)
  unfold zPw
  omega
theorem zHt_rg {X Y W : Int → Int} (h : zBd X Y W) (s : Int) : -999 ≤ zHt X Y W s ∧ zHt X Y W s ≤ 4199 := zPw_rg h s (by omega) (by omega)
/-! owners, sums, spans: plain mathematics -/
def zOw (P : Int → Int) : Nat → Int
  | 0 => -1
  | n + 1 => if zOw P n = -1 ∨ P n < P (zOw P n) then (n : Int) else zOw P n
theorem zOw_rg (P : Int → Int) : ∀ n : Nat, -1 ≤ zOw P n ∧ zOw P n < n ∧ (0 < n → 0 ≤ zOw P n)
  | 0 => ⟨by show (-1 : Int) ≤ -1; omega, by show (-1 : Int) < 0; omega, fun h => absurd h (by omega)⟩
  | n + 1 => by
    have ih := zOw_rg P n
    show -1 ≤ (if zOw P n = -1 ∨ P n < P (zOw P n) then (n : Int) else zOw P n) ∧ (if zOw P n = -1 ∨ P n < P (zOw P n) then (n : Int) else zOw P n) < ((n + 1 : Nat) : Int) ∧ (0 < n + 1 → 0 ≤ (if zOw P n = -1 ∨ P n < P (zOw P n) then (n : Int) else zOw P n))
    split
    · omega
    · rename_i h
      have h2 : ¬ zOw P n = -1 := fun z => h (Or.inl z)
      omega
/-- the least of the first n, of several the lowest -/
theorem zOw_min (P : Int → Int) : ∀ n : Nat, 0 < n → ∀ k : Int, 0 ≤ k → k < n → (k < zOw P n → P (zOw P n) < P k) ∧ P (zOw P n) ≤ P k
  | 0, h, _, _, _ => absurd h (by omega)
  | n + 1, _, k, hk0, hk => by
    have hr := zOw_rg P n
    have ih := zOw_min P n
    have e : zOw P (n + 1) = if zOw P n = -1 ∨ P n < P (zOw P n) then (n : Int) else zOw P n := rfl
    by_cases hn : n = 0
    · subst hn
      have e2 : zOw P 1 = 0 := by rw [e, if_pos (Or.inl (show zOw P 0 = -1 from rfl))]; rfl
      have e3 : k = 0 := by omega
      subst e3
      rw [e2]
      exact ⟨fun h => absurd h (by omega), Int.le_refl _⟩
    · have ih := ih (by omega)
      by_cases hc : zOw P n = -1 ∨ P n < P (zOw P n)
      · rw [e, if_pos hc]
        have hlt : P n < P (zOw P n) := by
          rcases hc with hc | hc
          · have := hr.2.2 (by omega); omega
          · exact hc
        by_cases hkn : k = n
        · subst hkn
          exact ⟨fun h => absurd h (by omega), Int.le_refl _⟩
        · have h1 := (ih k hk0 (by omega)).2
          exact ⟨fun _ => by omega, by omega⟩
      · rw [e, if_neg hc]
        by_cases hkn : k = n
        · subst hkn
          have h1 : ¬ P n < P (zOw P n) := fun z => hc (Or.inr z)
          exact ⟨fun h => absurd h (by omega), by omega⟩
        · exact ih k hk0 (by omega)
theorem zOw_iff (P : Int → Int) {n : Nat} {s : Int} (hs : 0 ≤ s ∧ s < n) : zOw P n = s ↔ ∀ k : Int, 0 ≤ k → k < n → (k < s → P s < P k) ∧ P s ≤ P k := by
  constructor
  · intro h k h0 h1
    subst h
    exact zOw_min P n (by omega) k h0 h1
  · intro h
    have hr := zOw_rg P n
    have hm := zOw_min P n (by omega)
    have h0 := hr.2.2 (by omega)
    rcases Int.lt_trichotomy (zOw P n) s with z | z | z
    · have a := (h (zOw P n) h0 hr.2.1).1 z
      have b := (hm s hs.1 hs.2).2
      omega
    · exact z
    · have a := (hm s hs.1 hs.2).1 z
      have b := (h (zOw P n) h0 hr.2.1).2
      omega
/-- who owns a point, of the first i sites -/
def zOA (X Y W : Int → Int) (x y i : Int) : Int := zOw (fun k => zPw X Y W k x y) i.toNat
theorem zOA_0 (X Y W : Int → Int) (x y : Int) : zOA X Y W x y 0 = -1 := rfl
theorem zOA_s (X Y W : Int → Int) (x y : Int) {i : Int} (h : 0 ≤ i) : zOA X Y W x y (i + 1) = if zOA X Y W x y i = -1 ∨ zPw X Y W i x y < zPw X Y W (zOA X Y W x y i) x y then i else zOA X Y W x y i := by
  have e : ((i.toNat : Nat) : Int) = i := Int.toNat_of_nonneg h
  unfold zOA
  rw [show (i + 1).toNat = i.toNat + 1 by omega]
  show (if _ ∨ zPw X Y W (i.toNat : Int) x y < _ then (i.toNat : Int) else _) = _
  rw [e]
theorem zOA_rg (X Y W : Int → Int) (x y : Int) {i : Int} (h : 0 ≤ i) : -1 ≤ zOA X Y W x y i ∧ zOA X Y W x y i < i ∧ (0 < i → 0 ≤ zOA X Y W x y i) := by
  have h1 := zOw_rg (fun k => zPw X Y W k x y) i.toNat
  have h2 : zOA X Y W x y i = zOw (fun k => zPw X Y W k x y) i.toNat := rfl
  rw [h2]
  omega
theorem zOA_iff (X Y W : Int → Int) (x y : Int) {i s : Int} (hs : 0 ≤ s ∧ s < i) : zOA X Y W x y i = s ↔ ∀ k : Int, 0 ≤ k → k < i → (k < s → zPw X Y W s x y < zPw X Y W k x y) ∧ zPw X Y W s x y ≤ zPw X Y W k x y := by
  have h := zOw_iff (fun k => zPw X Y W k x y) (n := i.toNat) (s := s) (by omega)
  refine h.trans ⟨fun h k h0 h1 => h k h0 (by omega), fun h k h0 h1 => h k h0 (by omega)⟩
/-- sums -/
def zSn (g : Int → Int) : Nat → Int
  | 0 => 0
  | n + 1 => zSn g n + g n
def zSm (g : Int → Int) (i : Int) : Int := zSn g i.toNat
theorem zSm_0 (g : Int → Int) : zSm g 0 = 0 := rfl
theorem zSm_s (g : Int → Int) {i : Int} (h : 0 ≤ i) : zSm g (i + 1) = zSm g i + g i := by
  have e : ((i.toNat : Nat) : Int) = i := Int.toNat_of_nonneg h
  unfold zSm
  rw [show (i + 1).toNat = i.toNat + 1 by omega]
  show zSn g i.toNat + g (i.toNat : Int) = _
  rw [e]
theorem zSn_c {g h : Int → Int} : ∀ n : Nat, (∀ k : Int, 0 ≤ k → k < n → g k = h k) → zSn g n = zSn h n
  | 0, _ => rfl
  | n + 1, e => by
    show zSn g n + g n = zSn h n + h n
    rw [zSn_c n (fun k h0 h1 => e k h0 (by omega)), e n (by omega) (by omega)]
theorem zSm_c {g h : Int → Int} {i : Int} (e : ∀ k : Int, 0 ≤ k → k < i → g k = h k) : zSm g i = zSm h i := zSn_c i.toNat (fun k h0 h1 => e k h0 (by omega))
theorem zSn_rg {g : Int → Int} {B : Int} (hB : 0 ≤ B) : ∀ n : Nat, (∀ k : Int, 0 ≤ k → k < n → 0 ≤ g k ∧ g k ≤ B) → 0 ≤ zSn g n ∧ zSn g n ≤ B * n
  | 0, _ => ⟨Int.le_refl 0, by show (0 : Int) ≤ B * ((0 : Nat) : Int); simp⟩
  | n + 1, h => by
    have ih := zSn_rg hB n (fun k h0 h1 => h k h0 (by omega))
    have h2 := h n (by omega) (by omega)
    have e : zSn g (n + 1) = zSn g n + g n := rfl
    have e2 : B * ((n + 1 : Nat) : Int) = B * n + B := by rw [show ((n + 1 : Nat) : Int) = (n : Int) + 1 from rfl, Int.mul_add, Int.mul_one]
    rw [e, e2]
    omega
theorem zSm_rg {g : Int → Int} {B i : Int} (hB : 0 ≤ B) (hi : 0 ≤ i) (h : ∀ k : Int, 0 ≤ k → k < i → 0 ≤ g k ∧ g k ≤ B) : 0 ≤ zSm g i ∧ zSm g i ≤ B * i := by
  have h1 := zSn_rg hB i.toNat (fun k h0 h1 => h k h0 (by omega))
  rw [Int.toNat_of_nonneg hi] at h1
  exact h1
/-- how many of 0 .. n-1 lie between f and l -/
theorem zSm_span {f l : Int} (hf : 0 ≤ f) : ∀ n : Nat, l < n → zSn (fun x => bI (f ≤ x ∧ x ≤ l)) n = max 0 (l - f + 1) := by
  have key : ∀ n : Nat, zSn (fun x => bI (f ≤ x ∧ x ≤ l)) n = max 0 (min l ((n : Int) - 1) - f + 1) := by
    intro n
    induction n with
    | zero =>
      show (0 : Int) = max 0 (min l (((0 : Nat) : Int) - 1) - f + 1)
      rw [Int.max_eq_left]
      have := Int.min_le_right l (((0 : Nat) : Int) - 1)
      omega
    | succ n ih =>
      show zSn (fun x => bI (f ≤ x ∧ x ≤ l)) n + bI (f ≤ (n : Int) ∧ (n : Int) ≤ l) = _
      rw [ih]
      by_cases h : f ≤ (n : Int) ∧ (n : Int) ≤ l
      · rw [bI_t h, Int.min_eq_right (by omega), Int.min_eq_right (by omega), Int.max_eq_right (by omega), Int.max_eq_right (by omega)]
        omega
      · rw [bI_f h]
        by_cases h1 : l < (n : Int)
        · rw [Int.min_eq_left (by omega), Int.min_eq_left (by omega)]
          omega
        · rw [Int.min_eq_right (by omega), Int.min_eq_right (by omega), Int.max_eq_left (by omega), Int.max_eq_left (by omega)]
          omega
  intro n hn
  rw [key n, Int.min_eq_left (by omega)]
/-- the points of a site in a row, and in all -/
noncomputable def zRw (X Y W : Int → Int) (N s y : Int) : Int := zSm (fun x => bI (zOA X Y W x y N = s)) 41
noncomputable def zSh (X Y W : Int → Int) (N s : Int) : Int := zSm (fun y => zRw X Y W N s y) 41
theorem zRw_rg (X Y W : Int → Int) (N s y : Int) : 0 ≤ zRw X Y W N s y ∧ zRw X Y W N s y ≤ 41 := by
  have h := zSm_rg (g := fun x => bI (zOA X Y W x y N = s)) (B := 1) (i := 41) (by omega) (by omega) (fun k _ _ => bI_rg _)
  unfold zRw
  omega
theorem zSh_rg (X Y W : Int → Int) (N s : Int) : 0 ≤ zSh X Y W N s ∧ zSh X Y W N s ≤ 1681 := by
  have h := zSm_rg (g := fun y => zRw X Y W N s y) (B := 41) (i := 41) (by omega) (by omega) (fun k _ _ => zRw_rg X Y W N s k)
  unfold zSh
  omega
/-- a span: the x of a row that the site s owns, against the first i sites -/
def zBt (X Y W : Int → Int) (s y i x : Int) : Prop := ∀ k : Int, 0 ≤ k → k < i → (k < s → zPw X Y W s x y < zPw X Y W k x y) ∧ zPw X Y W s x y ≤ zPw X Y W k x y
def zSpan (X Y W : Int → Int) (s y i f l : Int) : Prop := 0 ≤ f ∧ f ≤ 9000 ∧ -9000 ≤ l ∧ l ≤ 40 ∧ ∀ x : Int, 0 ≤ x → x ≤ 40 → (f ≤ x ∧ x ≤ l ↔ zBt X Y W s y i x)
theorem zSpan_w {X Y W : Int → Int} {s y N f l : Int} (hs : 0 ≤ s ∧ s < N) (h : zSpan X Y W s y N f l) : max 0 (l - f + 1) = zRw X Y W N s y := by
  have h1 := zSm_span (f := f) (l := l) h.1 41 (by have := h.2.2.2.1; omega)
  rw [← h1]
  refine zSn_c 41 (fun k h0 hk => bI_c ?_)
  rw [zOA_iff X Y W k y hs]
  exact h.2.2.2.2 k h0 (by omega)
/-- floor division -/
theorem zfd_n {x y : Int} (hy : 0 < y) (h : x < 0) : ∃ d m : Int, x.tdiv y = -d ∧ y * d + m = -x ∧ 0 ≤ m ∧ m < y := by
  refine ⟨(-x) / y, (-x) % y, ?_, Int.mul_ediv_add_emod (-x) y, Int.emod_nonneg _ (by omega), Int.emod_lt_of_pos _ hy⟩
  rw [← Int.tdiv_eq_ediv_of_nonneg (show 0 ≤ -x by omega), Int.neg_tdiv, Int.neg_neg]
theorem zfd_r {x y : Int} (hy : 0 < y) (h : x < 0) : x ≤ x.tdiv y * y ∧ x.tdiv y * y ≤ x + y := by
  obtain ⟨d, m, e1, e2, e3, e4⟩ := zfd_n hy h
  rw [e1, Int.neg_mul, Int.mul_comm]
  omega
theorem zfd_2 {x y : Int} (hy : 0 < y) (e : x.tdiv y * y = x) : x.tdiv y = x / y := by
  have h : x / y = (x.tdiv y * y) / y := by rw [e]
  rw [h, Int.mul_ediv_cancel _ (by omega)]
theorem zfd_3 {x y : Int} (hy : 0 < y) (h : x < 0) (e : ¬ x.tdiv y * y = x) : x.tdiv y - 1 = x / y := by
  obtain ⟨d, m, e1, e2, e3, e4⟩ := zfd_n hy h
  rw [e1, Int.neg_mul, Int.mul_comm] at e
  rw [e1]
  refine ((Int.ediv_emod_unique (r := y - m) hy).mpr ⟨?_, by omega, by omega⟩).1.symm
  rw [Int.mul_sub, Int.mul_neg]
  omega
