/-! ranges of answers -/
theorem zRep_1 (X Y C : Int → Int) (N b : Int) : ∀ (n : Nat) (W : Int → Int), 0 ≤ (zRep X Y C N b n W).1 ∧ (zRep X Y C N b n W).1 ≤ n
  | 0, _ => ⟨Int.le_refl 0, Int.le_refl 0⟩
  | n + 1, W => by
    rw [zRep_s]
    have ih := zRep_1 X Y C N b n (zSt X Y C N b W)
    split
    · try dsimp only
      omega
    · split
      · try dsimp only
        omega
      · try dsimp only
        omega
theorem zSmb_rg (P : Int → Prop) {N : Int} (hN : 0 ≤ N) : 0 ≤ zSm (fun o => bI (P o)) N ∧ zSm (fun o => bI (P o)) N ≤ N := by
  have h : ∀ n : Nat, 0 ≤ zSm (fun o => bI (P o)) (n : Int) ∧ zSm (fun o => bI (P o)) (n : Int) ≤ n := by
    intro n
    induction n with
    | zero =>
      show 0 ≤ zSm (fun o => bI (P o)) 0 ∧ zSm (fun o => bI (P o)) 0 ≤ 0
      rw [zSm_0]
      omega
    | succ n ih =>
      rw [show ((n + 1 : Nat) : Int) = (n : Int) + 1 by omega, zSm_s _ (show 0 ≤ (n : Int) by omega)]
      have := bI_rg (P (n : Int))
      try dsimp only
      omega
  have h1 := h N.toNat
  rw [show ((N.toNat : Nat) : Int) = N by omega] at h1
  exact h1
theorem zOf_rg {X Y W C : Int → Int} {N k wv : Int} (hB : zBd X Y W) (hC : ∀ i : Int, 0 ≤ C i ∧ C i ≤ 1681) : -6000 ≤ zOf X Y W C N k wv ∧ zOf X Y W C N k wv ≤ 6000 := by
  have h1 := hB.1 k
  have h2 := hB.2.1 k
  have h3 := hB.2.2 k
  have h4 := hC k
  have h5 := zHt_rg hB k
  have h6 := zSh_rg X Y W N k
  unfold zOf
  split
  · omega
  · split
    · omega
    · split
      · omega
      · split
        · omega
        · split <;> omega
