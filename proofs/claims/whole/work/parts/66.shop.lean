section SHOP
variable {N : Nat} {A cs wn : Nat → Nat}
theorem fW_1 {tk s : Nat} {g : Nat → Nat × Nat} {p : Nat} (h : cfB A p s = true) : fWC A cs tk s g (p + 1) = ((fWC A cs tk s g p).1 + (g (s ||| 2 ^ p)).1, if (fWC A cs tk s g p).2 ≤ cs p * tk + (g (s ||| 2 ^ p)).2 then (fWC A cs tk s g p).2 else cs p * tk + (g (s ||| 2 ^ p)).2) := by rw [fWC, if_pos h]
theorem fW_0 {tk s : Nat} {g : Nat → Nat × Nat} {p : Nat} (h : ¬ cfB A p s = true) : fWC A cs tk s g (p + 1) = fWC A cs tk s g p := by rw [fWC, if_neg h]
theorem fW_inv {M tk s : Nat} {g : Nat → Nat × Nat} (htk : ∀ p, p < N → cs p * tk ≤ 567) (hM : M + 567 < 1000000) (hg : ∀ p, p < N → cfB A p s = true → ((g (s ||| 2 ^ p)).1 = 0 ∧ (g (s ||| 2 ^ p)).2 = 1000000) ∨ ((g (s ||| 2 ^ p)).1 ≠ 0 ∧ (g (s ||| 2 ^ p)).2 ≤ M)) :
    ∀ n, n ≤ N → ((fWC A cs tk s g n).1 = 0 ∧ (fWC A cs tk s g n).2 = 1000000) ∨ ((fWC A cs tk s g n).1 ≠ 0 ∧ (fWC A cs tk s g n).2 ≤ M + 567 ∧ ∃ p, p < n ∧ cfB A p s = true ∧ cs p * tk + (g (s ||| 2 ^ p)).2 = (fWC A cs tk s g n).2) := by
  intro n
  induction n with
  | zero => intro _; exact Or.inl ⟨rfl, rfl⟩
  | succ n ih =>
    intro hn
    have h := ih (by omega)
    by_cases hcf : cfB A n s = true
    · rw [fW_1 hcf]
      have ht := htk n (by omega)
      have hgn := hg n (by omega) hcf
      generalize fWC A cs tk s g n = F at h ⊢
      obtain ⟨f1, f2⟩ := F
      by_cases hle : f2 ≤ cs n * tk + (g (s ||| 2 ^ n)).2
      · show (f1 + (g (s ||| 2 ^ n)).1 = 0 ∧ (if f2 ≤ cs n * tk + (g (s ||| 2 ^ n)).2 then f2 else cs n * tk + (g (s ||| 2 ^ n)).2) = 1000000) ∨ (f1 + (g (s ||| 2 ^ n)).1 ≠ 0 ∧ (if f2 ≤ cs n * tk + (g (s ||| 2 ^ n)).2 then f2 else cs n * tk + (g (s ||| 2 ^ n)).2) ≤ M + 567 ∧ ∃ p, p < n + 1 ∧ cfB A p s = true ∧ cs p * tk + (g (s ||| 2 ^ p)).2 = (if f2 ≤ cs n * tk + (g (s ||| 2 ^ n)).2 then f2 else cs n * tk + (g (s ||| 2 ^ n)).2))
        rw [if_pos hle]
        rcases h with ⟨h1, h2⟩ | ⟨h1, h2, p, h3, h4, h5⟩
        · have h1 : f1 = 0 := h1
          have h2 : f2 = 1000000 := h2
          rcases hgn with ⟨e1, e2⟩ | ⟨e1, e2⟩
          · exact Or.inl ⟨by omega, h2⟩
          · omega
        · have h1 : f1 ≠ 0 := h1
          exact Or.inr ⟨by omega, h2, p, by omega, h4, h5⟩
      · show (f1 + (g (s ||| 2 ^ n)).1 = 0 ∧ (if f2 ≤ cs n * tk + (g (s ||| 2 ^ n)).2 then f2 else cs n * tk + (g (s ||| 2 ^ n)).2) = 1000000) ∨ (f1 + (g (s ||| 2 ^ n)).1 ≠ 0 ∧ (if f2 ≤ cs n * tk + (g (s ||| 2 ^ n)).2 then f2 else cs n * tk + (g (s ||| 2 ^ n)).2) ≤ M + 567 ∧ ∃ p, p < n + 1 ∧ cfB A p s = true ∧ cs p * tk + (g (s ||| 2 ^ p)).2 = (if f2 ≤ cs n * tk + (g (s ||| 2 ^ n)).2 then f2 else cs n * tk + (g (s ||| 2 ^ n)).2))
        rw [if_neg hle]
        rcases hgn with ⟨e1, e2⟩ | ⟨e1, e2⟩
        · have : f2 ≤ 1000000 := by
            rcases h with ⟨h1, h2⟩ | ⟨h1, h2, -⟩
            · have h2 : f2 = 1000000 := h2
              omega
            · have h2 : f2 ≤ M + 567 := h2
              omega
          omega
        · exact Or.inr ⟨by omega, by omega, n, by omega, hcf, rfl⟩
    · rw [fW_0 hcf]
      rcases h with h | ⟨h1, h2, p, h3, h4, h5⟩
      · exact Or.inl h
      · exact Or.inr ⟨h1, h2, p, by omega, h4, h5⟩
/-- the costs on, of those that have ways on -/
def cok (N : Nat) (A cs wn : Nat → Nat) (M s : Nat) : Prop := (WW N A cs wn s = 0 ∧ CC N A cs wn s = 1000000) ∨ (WW N A cs wn s ≠ 0 ∧ CC N A cs wn s ≤ M)
theorem tk_b (hN : N ≤ 7) (hw9 : ∀ p, p < N → wn p ≤ 9) (hc9 : ∀ p, p < N → cs p ≤ 9) (s : Nat) : ∀ p, p < N → cs p * tkS wn s N ≤ 567 := fun p hp => by
  have b3 := tkS_le (wn := wn) s N hw9
  have b4 : cs p * tkS wn s N ≤ 9 * (9 * N) := Nat.mul_le_mul (hc9 p hp) b3
  omega
theorem CC_b (hN : N ≤ 7) (hw9 : ∀ p, p < N → wn p ≤ 9) (hc9 : ∀ p, p < N → cs p ≤ 9) : ∀ d s, s + d = 2 ^ N - 1 → cok N A cs wn (567 * d) s := by
  have h128 := p128 hN
  have hpos : 0 < 2 ^ N := Nat.two_pow_pos N
  intro d
  induction d using Nat.strongRecOn with
  | ind d ih =>
    intro s hs
    unfold cok WW CC
    by_cases e : s = 2 ^ N - 1
    · rw [e, GW_full]; exact Or.inr ⟨Nat.one_ne_zero, Nat.zero_le _⟩
    · rw [GW_step hN (by omega) e]
      rcases fW_inv (N := N) (A := A) (cs := cs) (M := 567 * (d - 1)) (s := s) (g := GW N A cs wn) (tk_b hN hw9 hc9 s) (by omega) (fun p hp hcf => by
        have h1 := cf_gt (by omega) (by omega) hcf
        have h2 := or_lt (N := N) (s := s) (p := p) (by omega) hp
        rcases ih (2 ^ N - 1 - (s ||| 2 ^ p)) (by omega) (s ||| 2 ^ p) (by omega) with h | ⟨g1, g2⟩
        · exact Or.inl h
        · exact Or.inr ⟨g1, Nat.le_trans g2 (Nat.mul_le_mul_left _ (by omega))⟩) N (Nat.le_refl _) with h | ⟨h1, h2, -⟩
      · exact Or.inl h
      · exact Or.inr ⟨h1, by omega⟩
theorem CC_c (hN : N ≤ 7) (hw9 : ∀ p, p < N → wn p ≤ 9) (hc9 : ∀ p, p < N → cs p ≤ 9) {s : Nat} (hs : s < 2 ^ N) : cok N A cs wn 72009 s := by
  have h128 := p128 hN
  rcases CC_b (A := A) hN hw9 hc9 (2 ^ N - 1 - s) s (by omega) with h | ⟨h1, h2⟩
  · exact Or.inl h
  · exact Or.inr ⟨h1, by omega⟩
/-- the least cost is attained -/
theorem CC_at (hN : N ≤ 7) (hw9 : ∀ p, p < N → wn p ≤ 9) (hc9 : ∀ p, p < N → cs p ≤ 9) {s : Nat} (hs : s < 2 ^ N) (hne : s ≠ 2 ^ N - 1) (hW : WW N A cs wn s ≠ 0) : ∃ p, p < N ∧ Q3 N A cs wn true s p = true := by
  have h128 := p128 hN
  have e := GW_step (A := A) (cs := cs) (wn := wn) hN hs hne
  rcases fW_inv (N := N) (A := A) (cs := cs) (M := 72009) (s := s) (g := GW N A cs wn) (tk_b hN hw9 hc9 s) (by omega) (fun p hp hcf => CC_c hN hw9 hc9 (or_lt hs hp)) N (Nat.le_refl _) with h | ⟨h1, h2, p, h3, h4, h5⟩
  · rw [← e] at h
    exact absurd h.1 hW
  · rw [← e] at h5
    refine ⟨p, h3, ?_⟩
    unfold Q3
    rw [h4]
    simp [h5]
end SHOP
