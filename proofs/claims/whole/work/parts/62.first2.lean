section FIRST
variable {N : Nat} {A cs wn : Nat → Nat}
theorem WW_mono (hN : N ≤ 7) {s p : Nat} (hs : s < 2 ^ N) (hp : p < N) (hcf : cfB A p s = true) : WW N A cs wn (s ||| 2 ^ p) ≤ WW N A cs wn s := by
  have h128 := p128 hN
  have hgt := cf_gt (by omega) (by omega) hcf
  have hlt := or_lt hs hp
  rw [WW_step hN hs (by omega)]
  exact fV_ge hcf N hp
/-- if there is an ORDER, one may follow every set -/
theorem WW_ex (hN : N ≤ 7) {s : Nat} (hs : s < 2 ^ N) (hne : s ≠ 2 ^ N - 1) : ∀ d t, t + d = 2 ^ N - 1 → t &&& s = t → WW N A cs wn t ≠ 0 → ∃ p, p < N ∧ cfB A p s = true := by
  have h128 := p128 hN
  intro d
  induction d using Nat.strongRecOn with
  | ind d ih =>
    intro t ht hsub hW
    have htne : t ≠ 2 ^ N - 1 := fun e => hne (by
      have h1 : t ≤ s := by rw [← hsub]; exact Nat.and_le_right
      omega)
    rw [WW_step hN (by omega) htne] at hW
    obtain ⟨p, hp, hcf, h0⟩ := fV_pos N hW
    have hgt := cf_gt (by omega) (by omega) hcf
    have hlt := or_lt (N := N) (s := t) (p := p) (by omega) hp
    have htb : ∀ i, t.testBit i = true → s.testBit i = true := fun i hi => by
      rw [← hsub, Nat.testBit_and] at hi
      simp at hi
      exact hi.2
    by_cases hps : s.testBit p = true
    · refine ih (2 ^ N - 1 - (t ||| 2 ^ p)) (by omega) (t ||| 2 ^ p) (by omega) ?_ h0
      apply Nat.eq_of_testBit_eq
      intro i
      rw [Nat.testBit_and, Nat.testBit_or, Nat.testBit_two_pow]
      by_cases e : p = i
      · subst e; simp [hps]
      · have := htb i
        cases h1 : t.testBit i <;> cases h2 : s.testBit i <;> simp_all
    · refine ⟨p, hp, ?_⟩
      unfold cfB at hcf ⊢
      have h0 : s.testBit p = false := by cases hh : s.testBit p <;> simp_all
      have hA : A p &&& t = A p := by
        cases hh : t.testBit p <;> simp_all
      have hAs : A p &&& s = A p := by
        apply Nat.eq_of_testBit_eq
        intro i
        have hAi := congrArg (fun x => x.testBit i) hA
        simp only [Nat.testBit_and] at hAi
        rw [Nat.testBit_and]
        have := htb i
        cases h1 : (A p).testBit i <;> cases h2 : s.testBit i <;> cases h3 : t.testBit i <;> simp_all
      rw [h0, hAs]
      simp
theorem WW_all (hN : N ≤ 7) (h0 : WW N A cs wn 0 ≠ 0) : ∀ d s, s + d = 2 ^ N - 1 → WW N A cs wn s ≠ 0 := by
  have h128 := p128 hN
  have hpos : 0 < 2 ^ N := Nat.two_pow_pos N
  intro d
  induction d using Nat.strongRecOn with
  | ind d ih =>
    intro s hs
    by_cases e : s = 2 ^ N - 1
    · rw [e, WW_full]; decide
    · obtain ⟨p, hp, hcf⟩ := WW_ex (A := A) (cs := cs) (wn := wn) hN (show s < 2 ^ N by omega) e (2 ^ N - 1) 0 (by omega) (Nat.zero_and s) h0
      have hgt := cf_gt (by omega) (by omega) hcf
      have hlt := or_lt (N := N) (s := s) (p := p) (by omega) hp
      have := ih (2 ^ N - 1 - (s ||| 2 ^ p)) (by omega) (s ||| 2 ^ p) (by omega)
      have := WW_mono (cs := cs) (wn := wn) hN (show s < 2 ^ N by omega) hp hcf
      omega
/-- if it goes through, there is an ORDER -/
theorem sq_none (hN : N ≤ 7) {Q : Nat → Nat → Bool} (hQ : Qok N A Q) (h : ∀ i, i < N → ch (Q (sq Q N i)) N 0 < N) : WW N A cs wn 0 ≠ 0 := by
  have h128 := p128 hN
  have mono : ∀ k, k ≤ N → WW N A cs wn (sq Q N k) ≤ WW N A cs wn 0 := by
    intro k
    induction k with
    | zero => intro _; exact Nat.le_refl _
    | succ k ih =>
      intro hk
      have h1 := ih (by omega)
      obtain ⟨h2, h3⟩ := sq_pop hN hQ k (by omega) (fun i hi => h i (by omega))
      have hc := h k (by omega)
      have hcf := hQ _ _ hc (ch_q (Q (sq Q N k)) N 0 (by omega))
      have := WW_mono (cs := cs) (wn := wn) hN h2 hc hcf
      show WW N A cs wn (sq Q N k ||| 2 ^ ch (Q (sq Q N k)) N 0) ≤ WW N A cs wn 0
      omega
  obtain ⟨h2, h3⟩ := sq_pop hN hQ N (Nat.le_refl _) h
  have e := (pop_full N (by omega) _ (by omega) h2).2 h3
  have := mono N (Nat.le_refl _)
  rw [e, WW_full] at this
  omega
end FIRST
