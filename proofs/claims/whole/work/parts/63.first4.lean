section FIRST
variable {N : Nat} {A cs wn : Nat → Nat}
theorem ff_step (hN : N ≤ 7) {lets : Nat → Int32} (hA : ∀ j, j < N → lets j = nI (A j)) (hAl : ∀ j, j < N → A j < 128) (KB KG : Int32 → (Nat → Int32) → Option (Int32 × Int32 × (Nat → Int32))) {s i c n : Nat} {ones : Nat → Int32} (hs : s < 2 ^ N) (hi : i < N) (hc : ch (fun p => cfB A p s) N 0 = c) :
    Ord_findFirst_L12 (nI N) lets KB KG (n + 1) (nI s) (nI i) (nI i) ones = if c < N then Ord_findFirst_L12 (nI N) lets KB KG n (nI (s ||| 2 ^ c)) (nI (i + 1)) (nI (i + 1)) (upd ones i (nI c)) else KB (nI i) ones := by
  rw [Ord_findFirst_L12, if_neg (nI_ge hi (by omega))]
  simp only [nmI_e]
  rw [dn_N (by omega), ff_in hN hA hAl hs _ N FU (-4) (Nat.le_refl _) (by unfold FU; omega), hc]
  by_cases h : c < N
  · simp only [h, if_true]
    rw [if_pos ((nI_0le (by omega)).mpr trivial), E_rowadd (by omega)]
    simp only [bindS]
    rw [one_sh _ (by omega), nx_or, nI_a1]
  · simp only [h, if_false]
    rw [if_neg (by decide)]
end FIRST
