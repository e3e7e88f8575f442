section FIRST
variable {N : Nat} {A cs wn : Nat → Nat}
theorem row_gen (hN : N ≤ 7) {Q : Nat → Nat → Bool} (hQ : Qok N A Q) {α : Type} {F : Nat → Nat → Nat → (Nat → Int32) → α} {KB KG : Int32 → (Nat → Int32) → α}
    (hstep : ∀ n s i ones, s < 2 ^ N → i < N → F (n + 1) s i ones = if ch (Q s) N 0 < N then F n (s ||| 2 ^ ch (Q s) N 0) (i + 1) (upd ones i (nI (ch (Q s) N 0))) else KB (nI i) ones)
    (hend : ∀ n s ones, F (n + 1) s N ones = KG (nI N) ones) :
    ∀ (d i n : Nat) (ones : Nat → Int32), i + d = N → d < n → (∀ j, j < i → ch (Q (sq Q N j)) N 0 < N) → (∀ j, j < i → ones j = nI (ch (Q (sq Q N j)) N 0)) →
    ((∀ j, j < N → ch (Q (sq Q N j)) N 0 < N) ∧ ∃ ones', F n (sq Q N i) i ones = KG (nI N) ones' ∧ RFo N Q ones') ∨
    ((¬ ∀ j, j < N → ch (Q (sq Q N j)) N 0 < N) ∧ ∃ l ones', F n (sq Q N i) i ones = KB l ones') := by
  intro d
  induction d with
  | zero =>
    intro i n ones hi hn hch ho
    obtain ⟨n, rfl⟩ : ∃ k, n = k + 1 := ⟨n - 1, by omega⟩
    obtain rfl : i = N := by omega
    exact Or.inl ⟨hch, ones, hend _ _ _, ho⟩
  | succ d ih =>
    intro i n ones hi hn hch ho
    obtain ⟨n, rfl⟩ : ∃ k, n = k + 1 := ⟨n - 1, by omega⟩
    obtain ⟨hs, -⟩ := sq_pop (A := A) hN hQ i (by omega) hch
    have e := hstep n (sq Q N i) i ones hs (by omega)
    by_cases hc : ch (Q (sq Q N i)) N 0 < N
    · rw [if_pos hc] at e
      rw [e]
      exact ih (i + 1) n (upd ones i (nI (ch (Q (sq Q N i)) N 0))) (by omega) (by omega) (fun j hj => by
        by_cases e : j = i
        · rw [e]; exact hc
        · exact hch j (by omega)) (fun j hj => by
        by_cases e : j = i
        · rw [e, upd_s]
        · rw [upd_n e]; exact ho j (by omega))
    · rw [if_neg hc] at e
      exact Or.inr ⟨fun h => hc (h i (by omega)), _, _, e⟩
end FIRST
