section FIRST
variable {N : Nat} {A cs wn : Nat → Nat}
/-- a row that is found, of those chosen -/
def RFo (N : Nat) (Q : Nat → Nat → Bool) (ones : Nat → Int32) : Prop := ∀ i, i < N → ones i = nI (ch (Q (sq Q N i)) N 0)
theorem ff_in (hN : N ≤ 7) {lets : Nat → Int32} (hA : ∀ j, j < N → lets j = nI (A j)) (hAl : ∀ j, j < N → A j < 128) {s : Nat} (hs : s < 2 ^ N) (K : Int32 → Option (Int32 × Int32 × (Nat → Int32))) :
    ∀ (d n : Nat) (x : Int32), d ≤ N → d < n → Ord_findFirst_L31 lets (nI s) K n x (dn d) = K (if ch (fun p => cfB A p s) d 0 < d then nI (ch (fun p => cfB A p s) d 0) else x) := by
  have h128 := p128 hN
  intro d
  induction d with
  | zero =>
    intro n x hd hn
    obtain ⟨n, rfl⟩ : ∃ k, n = k + 1 := ⟨n - 1, by omega⟩
    rw [Ord_findFirst_L31, if_pos (by decide), if_neg (show ¬ ch (fun p => cfB A p s) 0 0 < 0 by omega)]
  | succ d ih =>
    intro n x hd hn
    obtain ⟨n, rfl⟩ : ∃ k, n = k + 1 := ⟨n - 1, by omega⟩
    rw [show dn (d + 1) = nI d from rfl, Ord_findFirst_L31, if_neg (nI_pos (by omega)), E_canF (A := A) (by omega) (hAl d (by omega)) (by omega) (hA d (by omega))]
    simp only [bindS, nmI, dn_m1]
    rw [ch_s, Nat.zero_add]
    have hle := (ch_le (fun p => cfB A p s) d 0).2
    by_cases hcf : cfB A d s = true
    · simp only [hcf, if_true, i10, if_false]
      rw [ih n (nI d) (by omega) (by omega)]
      by_cases h : ch (fun p => cfB A p s) d 0 < d
      · simp only [h, if_true]
        rw [if_pos (by omega)]
      · simp only [h, if_false]
        rw [if_pos (by omega)]
    · simp only [hcf, if_false, i00, if_true, Bool.false_eq_true]
      rw [ih n x (by omega) (by omega)]
      by_cases h : ch (fun p => cfB A p s) d 0 < d
      · simp only [h, if_true]
        rw [if_pos (show ch (fun p => cfB A p s) d 0 < d + 1 by omega)]
      · simp only [h, if_false]
        rw [if_neg (show ¬ d + 1 < d + 1 by omega)]
end FIRST
