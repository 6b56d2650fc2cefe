/-! greatest, least, disorder, balancing -/
def zG (E : Int → Int) : Nat → Int
  | 0 => 0
  | n + 1 => if E (zG E n) < E n then (n : Int) else zG E n
def zLo (E : Int → Int) : Nat → Int
  | 0 => 0
  | n + 1 => if E n < E (zLo E n) then (n : Int) else zLo E n
def zGi (E : Int → Int) (i : Int) : Int := zG E i.toNat
def zLi (E : Int → Int) (i : Int) : Int := zLo E i.toNat
theorem zGi_1 (E : Int → Int) : zGi E 1 = 0 := by
  show (if E 0 < E ((0 : Nat) : Int) then ((0 : Nat) : Int) else 0) = 0
  split <;> rfl
theorem zLi_1 (E : Int → Int) : zLi E 1 = 0 := by
  show (if E ((0 : Nat) : Int) < E 0 then ((0 : Nat) : Int) else 0) = 0
  split <;> rfl
theorem zGi_s (E : Int → Int) {i : Int} (h : 0 ≤ i) : zGi E (i + 1) = if E (zGi E i) < E i then i else zGi E i := by
  have e : ((i.toNat : Nat) : Int) = i := Int.toNat_of_nonneg h
  unfold zGi
  rw [show (i + 1).toNat = i.toNat + 1 by omega]
  show (if E (zG E i.toNat) < E (i.toNat : Int) then (i.toNat : Int) else _) = _
  rw [e]
theorem zLi_s (E : Int → Int) {i : Int} (h : 0 ≤ i) : zLi E (i + 1) = if E i < E (zLi E i) then i else zLi E i := by
  have e : ((i.toNat : Nat) : Int) = i := Int.toNat_of_nonneg h
  unfold zLi
  rw [show (i + 1).toNat = i.toNat + 1 by omega]
  show (if E (i.toNat : Int) < E (zLo E i.toNat) then (i.toNat : Int) else _) = _
  rw [e]
theorem zG_rg (E : Int → Int) : ∀ n : Nat, 0 ≤ zG E n ∧ zG E n ≤ n ∧ (0 < n → zG E n < n)
  | 0 => ⟨Int.le_refl 0, Int.le_refl 0, fun h => absurd h (by omega)⟩
  | n + 1 => by
    have ih := zG_rg E n
    show 0 ≤ (if E (zG E n) < E n then (n : Int) else zG E n) ∧ (if E (zG E n) < E n then (n : Int) else zG E n) ≤ ((n + 1 : Nat) : Int) ∧ (0 < n + 1 → (if E (zG E n) < E n then (n : Int) else zG E n) < ((n + 1 : Nat) : Int))
    split <;> omega
theorem zLo_rg (E : Int → Int) : ∀ n : Nat, 0 ≤ zLo E n ∧ zLo E n ≤ n ∧ (0 < n → zLo E n < n)
  | 0 => ⟨Int.le_refl 0, Int.le_refl 0, fun h => absurd h (by omega)⟩
  | n + 1 => by
    have ih := zLo_rg E n
    show 0 ≤ (if E n < E (zLo E n) then (n : Int) else zLo E n) ∧ (if E n < E (zLo E n) then (n : Int) else zLo E n) ≤ ((n + 1 : Nat) : Int) ∧ (0 < n + 1 → (if E n < E (zLo E n) then (n : Int) else zLo E n) < ((n + 1 : Nat) : Int))
    split <;> omega
theorem zGi_rg (E : Int → Int) {i : Int} (h : 1 ≤ i) : 0 ≤ zGi E i ∧ zGi E i < i := by
  have h1 := zG_rg E i.toNat
  have e : zGi E i = zG E i.toNat := rfl
  rw [e]
  omega
theorem zLi_rg (E : Int → Int) {i : Int} (h : 1 ≤ i) : 0 ≤ zLi E i ∧ zLi E i < i := by
  have h1 := zLo_rg E i.toNat
  have e : zLi E i = zLo E i.toNat := rfl
  rw [e]
  omega
theorem zG_c {E F : Int → Int} : ∀ n : Nat, (∀ k : Int, 0 ≤ k → k < n → E k = F k) → zG E n = zG F n
  | 0, _ => rfl
  | n + 1, h => by
    have ih := zG_c n (fun k h0 h1 => h k h0 (by omega))
    show (if E (zG E n) < E n then (n : Int) else zG E n) = (if F (zG F n) < F n then (n : Int) else zG F n)
    have hr := zG_rg F n
    rw [ih, h (zG F n) hr.1 (by omega), h n (by omega) (by omega)]
theorem zLo_c {E F : Int → Int} : ∀ n : Nat, (∀ k : Int, 0 ≤ k → k < n → E k = F k) → zLo E n = zLo F n
  | 0, _ => rfl
  | n + 1, h => by
    have ih := zLo_c n (fun k h0 h1 => h k h0 (by omega))
    show (if E n < E (zLo E n) then (n : Int) else zLo E n) = (if F n < F (zLo F n) then (n : Int) else zLo F n)
    have hr := zLo_rg F n
    rw [ih, h (zLo F n) hr.1 (by omega), h n (by omega) (by omega)]
theorem zGi_c {E F : Int → Int} {N : Int} (h : ∀ k : Int, 0 ≤ k → k < N → E k = F k) : zGi E N = zGi F N := zG_c N.toNat (fun k h0 h1 => h k h0 (by omega))
theorem zLi_c {E F : Int → Int} {N : Int} (h : ∀ k : Int, 0 ≤ k → k < N → E k = F k) : zLi E N = zLi F N := zLo_c N.toNat (fun k h0 h1 => h k h0 (by omega))
noncomputable def zDi (X Y W C : Int → Int) (N : Int) : Int := zSm (fun k => zab (zSh X Y W N k - C k)) N
theorem zab_rg {x B : Int} (h : -B ≤ x ∧ x ≤ B) : 0 ≤ zab x ∧ zab x ≤ B := by
  unfold zab
  split <;> omega
theorem zDi_rg (X Y W C : Int → Int) (N : Int) (hN : 1 ≤ N ∧ N ≤ 12) (hC : ∀ i : Int, 0 ≤ C i ∧ C i ≤ 1681) : 0 ≤ zDi X Y W C N ∧ zDi X Y W C N ≤ 20172 := by
  have h := zSm_rg (g := fun k => zab (zSh X Y W N k - C k)) (B := 1681) (i := N) (by omega) (by omega) (fun k _ _ => zab_rg (by have a := zSh_rg X Y W N k; have b := hC k; omega))
  unfold zDi
  omega
theorem zEx_rg {X Y W C ey : Int → Int} {N : Int} (hC : ∀ i : Int, 0 ≤ C i ∧ C i ≤ 1681) (h : ∀ k : Int, 0 ≤ k → k < N → ey k = zSh X Y W N k - C k) : ∀ i : Int, 0 ≤ i → i < N → -1681 ≤ ey i ∧ ey i ≤ 1681 := by
  intro i h0 h1
  rw [h i h0 h1]
  have a := zSh_rg X Y W N i
  have b := hC i
  omega
theorem zU_st {ey g : Int → Int} {i : Int} (h : ∀ k : Int, 0 ≤ k → k < i → ey k = g k) : ∀ k : Int, 0 ≤ k → k < i + 1 → zU ey i (g i) k = g k := by
  intro k h0 h1
  by_cases e : k = i
  · subst e
    exact zU_s _ _ _
  · rw [zU_n _ _ e]
    exact h k h0 (by omega)
theorem zU_bd {X Y W : Int → Int} {i v : Int} (h : zBd X Y W) (hv : -999 ≤ v ∧ v ≤ 999) : zBd X Y (zU W i v) := by
  refine ⟨h.1, h.2.1, fun k => ?_⟩
  unfold zU
  split
  · exact hv
  · exact h.2.2 k
theorem zBd_st {X Y W : Int → Int} {g s b : Int} (h : zBd X Y W) (hb : 1 ≤ b ∧ b ≤ 999) : zBd X Y (zU (zU W g (max (-999) (W g - b))) s (min 999 (W s + b))) := by
  have h1 := h.2.2 g
  have h2 := h.2.2 s
  exact zU_bd (zU_bd h (by omega)) (by omega)
theorem zU_bk {W : Int → Int} {g s a b : Int} (h : ¬ g = s) : zU (zU (zU (zU W g a) s b) g (W g)) s (W s) = W := by
  funext k
  unfold zU
  by_cases h1 : k = s
  · rw [if_pos h1, h1]
  · rw [if_neg h1]
    by_cases h2 : k = g
    · rw [if_pos h2, h2]
    · rw [if_neg h2, if_neg h1, if_neg h2]
/-- one step of balancing; many -/
noncomputable def zSt (X Y C : Int → Int) (N b : Int) (W : Int → Int) : Int → Int := zU (zU W (zGi (fun k => zSh X Y W N k - C k) N) (max (-999) (W (zGi (fun k => zSh X Y W N k - C k) N) - b))) (zLi (fun k => zSh X Y W N k - C k) N) (min 999 (W (zLi (fun k => zSh X Y W N k - C k) N) + b))
noncomputable def zRep (X Y C : Int → Int) (N b : Int) : Nat → (Int → Int) → Int × (Int → Int)
  | 0, W => (0, W)
  | n + 1, W => if zGi (fun k => zSh X Y W N k - C k) N = zLi (fun k => zSh X Y W N k - C k) N then (0, W) else if zDi X Y (zSt X Y C N b W) C N < zDi X Y W C N then ((zRep X Y C N b n (zSt X Y C N b W)).1 + 1, (zRep X Y C N b n (zSt X Y C N b W)).2) else (0, W)
theorem zRep_s (X Y C : Int → Int) (N b : Int) (n : Nat) (W : Int → Int) : zRep X Y C N b (n + 1) W = if zGi (fun k => zSh X Y W N k - C k) N = zLi (fun k => zSh X Y W N k - C k) N then (0, W) else if zDi X Y (zSt X Y C N b W) C N < zDi X Y W C N then ((zRep X Y C N b n (zSt X Y C N b W)).1 + 1, (zRep X Y C N b n (zSt X Y C N b W)).2) else (0, W) := rfl
theorem zRep_o (X Y C : Int → Int) {N : Int} (b : Int) (hN : 1 ≤ N) : ∀ (n : Nat) (W : Int → Int) (k : Int), ¬ (0 ≤ k ∧ k < N) → (zRep X Y C N b n W).2 k = W k
  | 0, _, _, _ => rfl
  | n + 1, W, k, hk => by
    rw [zRep_s]
    split
    · rfl
    · split
      · show (zRep X Y C N b n (zSt X Y C N b W)).2 k = W k
        rw [zRep_o X Y C b hN n _ k hk]
        have h1 := zGi_rg (fun k => zSh X Y W N k - C k) hN
        have h2 := zLi_rg (fun k => zSh X Y W N k - C k) hN
        unfold zSt
        rw [zU_n _ _ (fun z => hk (by rw [z]; exact h2)), zU_n _ _ (fun z => hk (by rw [z]; exact h1))]
      · rfl
