/-! the reference's ways of counting -/
theorem zHt_m (X Y W : Int → Int) (k : Int) : X k * X k + Y k * Y k - W k = zHt X Y W k := by
  unfold zHt zPw
  rw [Int.zero_sub, Int.zero_sub, Int.neg_mul_neg, Int.neg_mul_neg]
def zow (X Y W : Int → Int) (N x y i own : Int) : Prop := (i = N - 1 → own = -1) ∧ (i < N - 1 → i < own ∧ own < N ∧ ∀ k : Int, i < k → k < N → (k < own → zPw X Y W own x y < zPw X Y W k x y) ∧ zPw X Y W own x y ≤ zPw X Y W k x y)
theorem zow_a {X Y W : Int → Int} {N x y i own : Int} (h : zow X Y W N x y i own) (hi : 0 ≤ i ∧ i ≤ N - 1) (c : own = -1) : zow X Y W N x y (i + -1) i := by
  have hn : i = N - 1 := by
    by_cases z : i < N - 1
    · have := (h.2 z).1; omega
    · omega
  refine ⟨fun z => by omega, fun _ => ⟨by omega, by omega, fun k h0 h1 => ?_⟩⟩
  have e : k = i := by omega
  subst e
  exact ⟨fun z => absurd z (by omega), Int.le_refl _⟩
theorem zow_b {X Y W : Int → Int} {N x y i own : Int} (h : zow X Y W N x y i own) (hi : 0 ≤ i ∧ i ≤ N - 1 ∧ ¬ own = -1) (c : zPw X Y W own x y < zPw X Y W i x y) : zow X Y W N x y (i + -1) own := by
  have hn : i < N - 1 := by
    by_cases z : i = N - 1
    · have := h.1 z; omega
    · omega
  obtain ⟨h1, h2, h3⟩ := h.2 hn
  refine ⟨fun z => by omega, fun _ => ⟨by omega, h2, fun k k0 k1 => ?_⟩⟩
  by_cases e : k = i
  · subst e
    exact ⟨fun _ => c, by omega⟩
  · exact h3 k (by omega) k1
theorem zow_c {X Y W : Int → Int} {N x y i own : Int} (h : zow X Y W N x y i own) (hi : 0 ≤ i ∧ i ≤ N - 1) (c : ¬ own = -1) (d : ¬ zPw X Y W own x y < zPw X Y W i x y) : zow X Y W N x y (i + -1) i := by
  have hn : i < N - 1 := by
    by_cases z : i = N - 1
    · have := h.1 z; omega
    · omega
  obtain ⟨h1, h2, h3⟩ := h.2 hn
  refine ⟨fun z => by omega, fun _ => ⟨by omega, by omega, fun k k0 k1 => ?_⟩⟩
  by_cases e : k = i
  · subst e
    exact ⟨fun z => absurd z (by omega), Int.le_refl _⟩
  · have h4 := (h3 k (by omega) k1).2
    exact ⟨fun z => absurd z (by omega), by omega⟩
theorem zow_e {X Y W : Int → Int} {N x y i own : Int} (hN : 0 ≤ N) (hi : i = -1) (h : zow X Y W N x y i own) : own = zOA X Y W x y N := by
  subst hi
  by_cases z : N = 0
  · subst z
    rw [h.1 (by omega)]
    exact (zOA_0 X Y W x y).symm
  · obtain ⟨h1, h2, h3⟩ := h.2 (by omega)
    exact ((zOA_iff X Y W x y (show 0 ≤ own ∧ own < N by omega)).mpr (fun k k0 k1 => h3 k (by omega) k1)).symm
/-- a sum over the grid, row by row -/
theorem zSn_add (g : Int → Int) (n : Nat) : ∀ m : Nat, zSn g (n + m) = zSn g n + zSn (fun k => g (n + k)) m
  | 0 => by
    show zSn g n = zSn g n + 0
    omega
  | m + 1 => by
    show zSn g (n + m) + g ((n + m : Nat) : Int) = zSn g n + (zSn (fun k => g (n + k)) m + g ((n : Int) + (m : Int)))
    rw [zSn_add g n m, show ((n + m : Nat) : Int) = (n : Int) + (m : Int) from rfl]
    omega
theorem zSn_grid (f : Int → Int → Int) : ∀ r : Nat, zSn (fun k => f (k.tmod 41) (k.tdiv 41)) (41 * r) = zSn (fun y => zSn (fun x => f x y) 41) r
  | 0 => rfl
  | r + 1 => by
    rw [show 41 * (r + 1) = 41 * r + 41 by omega, zSn_add, zSn_grid f r]
    show _ + _ = zSn (fun y => zSn (fun x => f x y) 41) r + zSn (fun x => f x (r : Int)) 41
    congr 1
    refine zSn_c 41 (fun k h0 h1 => ?_)
    have e1 : (((41 * r : Nat) : Int) + k).tmod 41 = k := by
      rw [Int.tmod_eq_emod_of_nonneg (by omega)]
      omega
    have e2 : (((41 * r : Nat) : Int) + k).tdiv 41 = (r : Int) := by
      rw [Int.tdiv_eq_ediv_of_nonneg (by omega)]
      omega
    show f ((((41 * r : Nat) : Int) + k).tmod 41) ((((41 * r : Nat) : Int) + k).tdiv 41) = f k r
    rw [e1, e2]
theorem zSh_grid (X Y W : Int → Int) (N s : Int) : zSm (fun k => bI (zOA X Y W (k.tmod 41) (k.tdiv 41) N = s)) 1681 = zSh X Y W N s := zSn_grid (fun x y => bI (zOA X Y W x y N = s)) 41
/-- one point more -/
theorem zct_s {X Y W : Int → Int} {N i : Int} {sh : Int → Int} (hi : 0 ≤ i) (h : ∀ s : Int, 0 ≤ s → s < N → sh s = zSm (fun k => bI (zOA X Y W (k.tmod 41) (k.tdiv 41) N = s)) i) : ∀ s : Int, 0 ≤ s → s < N → zU sh (zOA X Y W (i.tmod 41) (i.tdiv 41) N) (sh (zOA X Y W (i.tmod 41) (i.tdiv 41) N) + 1) s = zSm (fun k => bI (zOA X Y W (k.tmod 41) (k.tdiv 41) N = s)) (i + 1) := by
  intro s h0 h1
  rw [zSm_s _ hi]
  by_cases e : zOA X Y W (i.tmod 41) (i.tdiv 41) N = s
  · rw [e, zU_s, bI_t rfl, h s h0 h1]
  · rw [zU_n _ _ (fun z => e z.symm), bI_f e, h s h0 h1]
    omega
theorem zgr {i : Int} (h : 0 ≤ i ∧ i < 1681) : (0 ≤ i.tmod 41 ∧ i.tmod 41 ≤ 40) ∧ (0 ≤ i.tdiv 41 ∧ i.tdiv 41 ≤ 40) := by
  rw [Int.tmod_eq_emod_of_nonneg h.1, Int.tdiv_eq_ediv_of_nonneg h.1]
  omega
def zMs (bs tm N : Int) : Int := if ¬ (1 ≤ bs ∧ bs ≤ 999 ∧ 1 ≤ tm ∧ tm ≤ 20) then 1 else if N = 0 then 2 else 0
theorem zU_same {W : Int → Int} {s : Int} : zU (zU W s (W s)) s (W s) = W := by
  funext k
  unfold zU
  by_cases h : k = s
  · rw [if_pos h, h]
  · rw [if_neg h, if_neg h]
/-! what ofSite tells; what a trace says -/
noncomputable def zOf (X Y W C : Int → Int) (N k wv : Int) : Int := if wv = 0 then X k else if wv = 1 then Y k else if wv = 2 then W k else if wv = 3 then C k else if wv = 4 then zHt X Y W k else zSh X Y W N k - C k
def zTrP (X Y W : Int → Int) (N k o r up em rf sf lv lt lb ht hb : Int) : Prop := ((X k = X o ∧ Y k = Y o) → r = -3) ∧ (¬ (X k = X o ∧ Y k = Y o) → zLay X Y W k o up rf sf lv ∧ zFb lt lb ht hb ∧ (r, (em, lt, lb, ht, hb)) = zTrc X Y W N k o up rf sf lv)
theorem zTc_rg (X Y W : Int → Int) (up rf sf lv k o : Int) : ∀ (n : Nat) (i : Int) (q : Int × Int × Int × Int × Int), (zTc X Y W up rf sf lv k o n i q).1 = -1 ∨ i ≤ (zTc X Y W up rf sf lv k o n i q).1 ∧ (zTc X Y W up rf sf lv k o n i q).1 < i + n
  | 0, _, _ => Or.inl rfl
  | n + 1, i, q => by
    by_cases h : i = k ∨ i = o
    · rw [zTc_k h]
      have ih := zTc_rg X Y W up rf sf lv k o n (i + 1) q
      omega
    · by_cases hg : zGone (zCs X Y W up rf sf lv k i q)
      · rw [zTc_g h hg]
        refine Or.inr ⟨by dsimp only; omega, by dsimp only; omega⟩
      · rw [zTc_n h hg]
        have ih := zTc_rg X Y W up rf sf lv k o n (i + 1) (zCs X Y W up rf sf lv k i q)
        omega
theorem zTrc_rg (X Y W : Int → Int) {N : Int} (k o up rf sf lv : Int) (hN : 0 ≤ N) : -2 ≤ (zTrc X Y W N k o up rf sf lv).1 ∧ ((zTrc X Y W N k o up rf sf lv).1 < N ∨ (zTrc X Y W N k o up rf sf lv).1 = -1 ∨ (zTrc X Y W N k o up rf sf lv).1 = -2) := by
  by_cases h : zGone (zBox rf sf lv)
  · rw [zTrc_1 h]
    dsimp only
    omega
  · rw [zTrc_2 h]
    have := zTc_rg X Y W up rf sf lv k o N.toNat 0 (zBox rf sf lv)
    omega
theorem zTr_r {X Y W : Int → Int} {N k o r up em rf sf lv lt lb ht hb : Int} (h : zTrP X Y W N k o r up em rf sf lv lt lb ht hb) : 0 ≤ N ∧ N ≤ 12 → -3 ≤ r ∧ r < 12 := by
  intro hN
  by_cases z : X k = X o ∧ Y k = Y o
  · have := h.1 z
    omega
  · have h1 := congrArg Prod.fst (h.2 z).2.2
    dsimp only at h1
    have h2 := zTrc_rg X Y W k o up rf sf lv hN.1
    rw [← h1] at h2
    omega
/-- the cause, told by the places alone -/
noncomputable def zTrV (X Y W : Int → Int) (N k o : Int) : Int := @ite _ (X k = X o ∧ Y k = Y o) (Classical.propDecidable _) (-3) (zTrc X Y W N k o (zUp (Y o - Y k)) (zTu (zSd (zUp (Y o - Y k)) (X o - X k) (Y o - Y k)) * zRn (zUp (Y o - Y k)) (X o - X k) (Y o - Y k)) (zTu (zSd (zUp (Y o - Y k)) (X o - X k) (Y o - Y k)) * zSd (zUp (Y o - Y k)) (X o - X k) (Y o - Y k)) (zTu (zSd (zUp (Y o - Y k)) (X o - X k) (Y o - Y k)) * (zHt X Y W o - zHt X Y W k))).1
theorem zTrV_r {X Y W : Int → Int} {N k o r up em rf sf lv lt lb ht hb : Int} (h : zTrP X Y W N k o r up em rf sf lv lt lb ht hb) : r = zTrV X Y W N k o := by
  by_cases z : X k = X o ∧ Y k = Y o
  · rw [h.1 z]
    exact (if_pos z).symm
  · obtain ⟨⟨e1, e2, e3, e4⟩, -, h2⟩ := h.2 z
    have h1 := congrArg Prod.fst h2
    dsimp only at h1
    rw [h1, e4, e3, e2, e1]
    exact (if_neg z).symm
/-- a border is there: the line, the ends -/
def zTrQ (X Y W : Int → Int) (N k o up em rf sf lv lt lb ht hb : Int) : Prop := ¬ (X k = X o ∧ Y k = Y o) ∧ zLay X Y W k o up rf sf lv ∧ zFb lt lb ht hb ∧ (-1, (em, lt, lb, ht, hb)) = zTrc X Y W N k o up rf sf lv
theorem zTrP_q {X Y W : Int → Int} {N k o r up em rf sf lv lt lb ht hb : Int} (h : zTrP X Y W N k o r up em rf sf lv lt lb ht hb) (hr : r = -1) : zTrQ X Y W N k o up em rf sf lv lt lb ht hb := by
  subst hr
  have z : ¬ (X k = X o ∧ Y k = Y o) := fun z => absurd (h.1 z) (by decide)
  exact ⟨z, h.2 z⟩
theorem zTrQ_rg {X Y W : Int → Int} {N k o up em rf sf lv lt lb ht hb : Int} (hB : zBd X Y W) (h : zTrQ X Y W N k o up em rf sf lv lt lb ht hb) : zLb rf sf lv ∧ zFb lt lb ht hb ∧ 0 < sf ∧ 0 ≤ up ∧ up ≤ 1 := by
  have h1 := zLay_rg hB h.2.1
  exact ⟨h1.1, h.2.2.1, h1.2.2.2.2 h.1, h1.2.1, h1.2.2.1⟩
theorem zWould {X Y C W W1 W2 kp : Int → Int} {N b : Int} {n : Nat} (hN : 1 ≤ N) (h1 : ∀ k : Int, 0 ≤ k → k < N → kp k = W k) (h2 : W1 = (zRep X Y C N b n W).2) (h3 : ∀ k : Int, (0 ≤ k → k < N → W2 k = kp k) ∧ (¬ (0 ≤ k ∧ k < N) → W2 k = W1 k)) : W2 = W := by
  funext k
  by_cases z : 0 ≤ k ∧ k < N
  · rw [(h3 k).1 z.1 z.2, h1 k z.1 z.2]
  · rw [(h3 k).2 z, h2, zRep_o X Y C b hN n W k z]
