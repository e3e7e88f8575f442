/-! ORDERS: the first one -/
def ch (Q : Nat → Bool) : Nat → Nat → Nat
  | 0, p => p
  | d + 1, p => if Q p = true then p else ch Q d (p + 1)
theorem ch_le (Q : Nat → Bool) : ∀ d p, p ≤ ch Q d p ∧ ch Q d p ≤ p + d := by
  intro d
  induction d with
  | zero => intro p; exact ⟨Nat.le_refl _, Nat.le_refl _⟩
  | succ d ih =>
    intro p
    unfold ch
    by_cases h : Q p = true
    · rw [if_pos h]; omega
    · rw [if_neg h]; have := ih (p + 1); omega
theorem ch_q (Q : Nat → Bool) : ∀ d p, ch Q d p < p + d → Q (ch Q d p) = true := by
  intro d
  induction d with
  | zero => intro p h; unfold ch at h; omega
  | succ d ih =>
    intro p h
    unfold ch at h ⊢
    by_cases hq : Q p = true
    · rw [if_pos hq]; exact hq
    · rw [if_neg hq] at h ⊢
      exact ih (p + 1) (by omega)
theorem ch_ex (Q : Nat → Bool) {q : Nat} (hq : Q q = true) : ∀ d p, p ≤ q → q < p + d → ch Q d p < p + d := by
  intro d
  induction d with
  | zero => intro p h1 h2; omega
  | succ d ih =>
    intro p h1 h2
    unfold ch
    by_cases h : Q p = true
    · rw [if_pos h]; omega
    · rw [if_neg h]
      have : p ≠ q := fun e => h (by rw [e]; exact hq)
      have := ih (p + 1) (by omega) (by omega)
      omega
theorem ch_eq {Q Q' : Nat → Bool} : ∀ d p, (∀ q, p ≤ q → q < p + d → Q q = Q' q) → ch Q d p = ch Q' d p := by
  intro d
  induction d with
  | zero => intro p _; rfl
  | succ d ih =>
    intro p h
    unfold ch
    rw [h p (Nat.le_refl _) (by omega), ih (p + 1) (fun q h1 h2 => h q (by omega) (by omega))]
theorem ch_s (Q : Nat → Bool) : ∀ d p, ch Q (d + 1) p = if ch Q d p < p + d then ch Q d p else if Q (p + d) = true then p + d else p + d + 1 := by
  intro d
  induction d with
  | zero =>
    intro p
    show (if Q p = true then p else p + 1) = if p < p + 0 then p else if Q (p + 0) = true then p + 0 else p + 0 + 1
    rw [if_neg (show ¬ p < p + 0 by omega)]
    rfl
  | succ d ih =>
    intro p
    show (if Q p = true then p else ch Q (d + 1) (p + 1)) = if (if Q p = true then p else ch Q d (p + 1)) < p + (d + 1) then (if Q p = true then p else ch Q d (p + 1)) else if Q (p + (d + 1)) = true then p + (d + 1) else p + (d + 1) + 1
    by_cases h : Q p = true
    · simp only [h, if_true]
      rw [if_pos (by omega)]
    · simp only [h, if_false]
      rw [ih (p + 1), show p + 1 + d = p + (d + 1) by omega]
      rfl
def sq (Q : Nat → Nat → Bool) (N : Nat) : Nat → Nat
  | 0 => 0
  | k + 1 => sq Q N k ||| 2 ^ ch (Q (sq Q N k)) N 0
section FIRST
variable {N : Nat} {A cs wn : Nat → Nat}
/-- what follows, of what may: a set never grows by one of its own -/
def Qok (N : Nat) (A : Nat → Nat) (Q : Nat → Nat → Bool) : Prop := ∀ s p, p < N → Q s p = true → cfB A p s = true
theorem sq_pop (hN : N ≤ 7) {Q : Nat → Nat → Bool} (hQ : Qok N A Q) : ∀ k, k ≤ N → (∀ i, i < k → ch (Q (sq Q N i)) N 0 < N) → sq Q N k < 2 ^ N ∧ popB (sq Q N k) = k := by
  have h128 := p128 hN
  intro k
  induction k with
  | zero => intro _ _; exact ⟨Nat.two_pow_pos N, by show popB 0 = 0; decide⟩
  | succ k ih =>
    intro hk h
    obtain ⟨h1, h2⟩ := ih (by omega) (fun i hi => h i (by omega))
    have hc := h k (by omega)
    have hq := ch_q (Q (sq Q N k)) N 0 (by omega)
    have hcf := hQ _ _ hc hq
    unfold sq
    exact ⟨or_lt h1 hc, by rw [pop_or _ (by omega) _ (by omega) (cf_bit hcf), h2]⟩
end FIRST
