section FIRST
variable {N : Nat} {A cs wn : Nat → Nat}
theorem nmI_e {α : Type} (x : Int32) (k : Int32 → Option α) : nmI x k = k x := by
  have h : nmI x k = k x := rfl
  exact h
abbrev Q1 (A : Nat → Nat) : Nat → Nat → Bool := fun s p => cfB A p s
theorem E_rowadd {i : Nat} (hi : i < 7) (x : Int32) (ones : Nat → Int32) : Row_add x (nI i) ones = some (nI (i + 1), upd ones i x) := by
  unfold Row_add
  rw [if_neg (show ¬ (7 : Int32) ≤ nI i from nI_ge (b := 7) hi (by omega)), wrA_nI (by omega) (by omega)]
  simp only [nmI, nI_a1]
theorem dn_N {N : Nat} (h : 0 < N) : nI N - 1 = dn N := by
  obtain ⟨k, rfl⟩ : ∃ k, N = k + 1 := ⟨N - 1, by omega⟩
  rw [nI_m1 (by omega)]; rfl
end FIRST
