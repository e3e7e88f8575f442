section FIRST
variable {N : Nat} {A cs wn : Nat → Nat}
theorem E_first (hN : N ≤ 7) {lets : Nat → Int32} (hA : ∀ j, j < N → lets j = nI (A j)) (hAl : ∀ j, j < N → A j < 128) (ones : Nat → Int32) :
    ((∀ j, j < N → ch (Q1 A (sq (Q1 A) N j)) N 0 < N) ∧ ∃ ones', Ord_findFirst (nI N) lets ones = some (1, nI N, ones') ∧ RFo N (Q1 A) ones') ∨
    ((¬ ∀ j, j < N → ch (Q1 A (sq (Q1 A) N j)) N 0 < N) ∧ ∃ l ones', Ord_findFirst (nI N) lets ones = some (0, l, ones')) := by
  have h := row_gen (A := A) (Q := Q1 A) hN (fun _ _ _ h => h) (F := fun n s i ones => Ord_findFirst_L12 (nI N) lets (fun l o => some (0, l, o)) (fun l o => some (1, l, o)) n (nI s) (nI i) (nI i) ones) (KB := fun l o => some (0, l, o)) (KG := fun l o => some (1, l, o))
    (fun n s i ones hs hi => ff_step hN hA hAl _ _ hs hi rfl) (fun n s ones => by
      show Ord_findFirst_L12 (nI N) lets _ _ (n + 1) (nI s) (nI N) (nI N) ones = _
      rw [Ord_findFirst_L12, if_pos (nI_le (Nat.le_refl _) (by omega))]) N 0 FU ones (by omega) (by unfold FU; omega) (fun j hj => by omega) (fun j hj => by omega)
  rw [show sq (Q1 A) N 0 = 0 from rfl, show nI 0 = (0 : Int32) from rfl] at h
  unfold Ord_findFirst
  exact h
end FIRST
