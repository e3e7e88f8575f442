/-! door -/
def RBd (W : Nat → Nat → Nat) (w0 : Nat) (S : Nat → Nat → Prop) (f wt c q : Int32) : Prop := (f = 0 ∧ wt = nI w0 ∧ ∀ v b, S v b → w0 ≤ W v b) ∨ (f = 1 ∧ ∃ v b, S v b ∧ wt = nI (W v b) ∧ c = nI v ∧ q = nI b ∧ W v b < w0 ∧ ∀ v' b', S v' b' → W v b < W v' b' ∨ (W v b = W v' b' ∧ (v < v' ∨ (v = v' ∧ b ≤ b'))))
def RBm (W : Nat → Nat → Nat) (w0 : Nat) (S : Nat → Nat → Prop) (bw bq bc : Int32) : Prop := ∃ f, RBd W w0 S f bw bc bq ∧ (f = 0 → bq = -4)
def Vd (N p c : Nat) (db : Nat → Nat) (v b : Nat) : Prop := 1 ≤ v ∧ v ≤ 50 ∧ v ≤ c ∧ b < N ∧ b ≠ p ∧ db b + v ≤ 999
section DOOR
variable {W : Nat → Nat → Nat} {w0 : Nat} {S S2 : Nat → Nat → Prop}
theorem RBd.ext {f wt c q : Int32} (h : RBd W w0 S f wt c q) (he : ∀ v b, S v b ↔ S2 v b) : RBd W w0 S2 f wt c q := by
  have : S = S2 := by
    funext v b
    exact propext (he v b)
  rw [← this]
  exact h
theorem RBm.ext {bw bq bc : Int32} (h : RBm W w0 S bw bq bc) (he : ∀ v b, S v b ↔ S2 v b) : RBm W w0 S2 bw bq bc := by
  obtain ⟨f, h1, h2⟩ := h
  exact ⟨f, h1.ext he, h2⟩
/-- one that is better than all -/
theorem RBd.new {f wt c q : Int32} {v b : Nat} (h : RBd W w0 S f wt c q) (hS : S v b → False) (hW : ∀ v b, W v b ≤ 130) (hw0 : w0 ≤ 130) (hb : nI (W v b) < wt ∨ (f = 1 ∧ nI (W v b) = wt ∧ ∃ v1 b1, c = nI v1 ∧ q = nI b1 ∧ v1 ≤ 50 ∧ b1 < 7 ∧ (v < v1 ∨ (v = v1 ∧ b < b1)))) (hSb : ∀ v b, S v b → v ≤ 50 ∧ b < 7) :
    RBd W w0 (fun v' b' => S v' b' ∨ (v' = v ∧ b' = b)) 1 (nI (W v b)) (nI v) (nI b) := by
  have hWv := hW v b
  refine Or.inr ⟨rfl, v, b, Or.inr ⟨rfl, rfl⟩, rfl, rfl, rfl, ?_, ?_⟩
  · rcases h with ⟨rfl, rfl, h⟩ | ⟨rfl, v1, b1, h1, rfl, rfl, rfl, h2, h3⟩
    · rcases hb with hb | ⟨hb, -⟩
      · exact (nI_ltI (by omega) (by omega)).mp hb
      · exact absurd hb (by decide)
    · have := hW v1 b1
      rcases hb with hb | ⟨-, hb, -⟩
      · have := (nI_ltI (by omega) (by omega)).mp hb
        omega
      · have := (nI_eq (by omega) (by omega)).mp hb
        omega
  · intro v' b' hs
    rcases hs with hs | ⟨rfl, rfl⟩
    · rcases h with ⟨rfl, rfl, h⟩ | ⟨rfl, v1, b1, h1, rfl, rfl, rfl, h2, h3⟩
      · rcases hb with hb | ⟨hb, -⟩
        · have := (nI_ltI (by omega) (by omega)).mp hb
          have := h v' b' hs
          omega
        · exact absurd hb (by decide)
      · have := hW v1 b1
        have g := h3 v' b' hs
        rcases hb with hb | ⟨-, hb, v2, b2, e1, e2, l1, l2, l3⟩
        · have := (nI_ltI (by omega) (by omega)).mp hb
          omega
        · have := (nI_eq (by omega) (by omega)).mp hb
          have := hSb v1 b1 h1
          have := (nI_eq (by omega) (by omega)).mp e1
          have := (nI_eq (by omega) (by omega)).mp e2
          omega
    · exact Or.inr ⟨rfl, Or.inr ⟨rfl, Nat.le_refl _⟩⟩
/-- one that is no better -/
theorem RBd.old {f wt c q : Int32} {v b : Nat} (h : RBd W w0 S f wt c q) (hW : ∀ v b, W v b ≤ 130) (hw0 : w0 ≤ 130) (hSb : ∀ v b, S v b → v ≤ 50 ∧ b < 7) (hn : ¬ nI (W v b) < wt) (hb : f = 1 → nI (W v b) = wt → ∃ v1 b1, c = nI v1 ∧ q = nI b1 ∧ v1 ≤ 50 ∧ b1 < 7 ∧ (v1 < v ∨ (v1 = v ∧ b1 ≤ b))) :
    RBd W w0 (fun v' b' => S v' b' ∨ (v' = v ∧ b' = b)) f wt c q := by
  have hWv := hW v b
  rcases h with ⟨rfl, rfl, h⟩ | ⟨rfl, v1, b1, h1, rfl, rfl, rfl, h2, h3⟩
  · refine Or.inl ⟨rfl, rfl, fun v' b' hs => ?_⟩
    rcases hs with hs | ⟨rfl, rfl⟩
    · exact h v' b' hs
    · have g : ¬ W v' b' < w0 := fun hh => hn ((nI_ltI (by omega) (by omega)).mpr hh)
      omega
  · refine Or.inr ⟨rfl, v1, b1, Or.inl h1, rfl, rfl, rfl, h2, fun v' b' hs => ?_⟩
    rcases hs with hs | ⟨rfl, rfl⟩
    · exact h3 v' b' hs
    · have := hW v1 b1
      have g : ¬ W v' b' < W v1 b1 := fun hh => hn ((nI_ltI (by omega) (by omega)).mpr hh)
      by_cases he : W v1 b1 = W v' b'
      · obtain ⟨v2, b2, e1, e2, l1, l2, l3⟩ := hb rfl (by rw [he])
        have := hSb v1 b1 h1
        have := (nI_eq (by omega) (by omega)).mp e1
        have := (nI_eq (by omega) (by omega)).mp e2
        omega
      · omega
theorem RBd.stepA {f wt c q : Int32} {v b : Nat} (h : RBd W w0 S f wt c q) (hW : ∀ v b, W v b ≤ 130) (hw0 : w0 ≤ 130) (hSb : ∀ v b, S v b → v ≤ 50 ∧ b < 7) (hv : v ≤ 50) (hb : b < 7) (hlt : ∀ v' b', S v' b' → v' < v ∨ (v' = v ∧ b' < b)) :
    RBd W w0 (fun v' b' => S v' b' ∨ (v' = v ∧ b' = b)) (aStep f wt c q (nI (W v b)) (nI v) (nI b)).1 (aStep f wt c q (nI (W v b)) (nI v) (nI b)).2.1 (aStep f wt c q (nI (W v b)) (nI v) (nI b)).2.2.1 (aStep f wt c q (nI (W v b)) (nI v) (nI b)).2.2.2 := by
  have hS : S v b → False := fun hs => by have := hlt v b hs; omega
  unfold aStep
  by_cases h1 : nI (W v b) < wt
  · simp only [h1, if_true]
    exact h.new hS hW hw0 (Or.inl h1) hSb
  · have hold : f = 1 → nI (W v b) = wt → ∃ v1 b1, c = nI v1 ∧ q = nI b1 ∧ v1 ≤ 50 ∧ b1 < 7 ∧ (v1 < v ∨ (v1 = v ∧ b1 ≤ b)) := fun hf _ => by
      rcases h with ⟨rfl, -⟩ | ⟨-, v1, b1, g1, rfl, rfl, rfl, h2, h3⟩
      · exact absurd hf (by decide)
      · have := hlt v1 b1 g1
        have := hSb v1 b1 g1
        exact ⟨v1, b1, rfl, rfl, by omega, by omega, by omega⟩
    have hO := h.old hW hw0 hSb h1 hold
    simp only [h1, if_false]
    by_cases h2 : f = 0
    · simp only [h2, if_true]
      rw [h2] at hO
      exact hO
    · simp only [h2, if_false]
      by_cases h3 : nI (W v b) = wt
      · simp only [h3, if_true]
        have hf : f = 1 := by
          rcases h with ⟨rfl, -⟩ | ⟨h, -⟩
          · exact absurd rfl h2
          · exact h
        obtain ⟨v1, b1, e1, e2, l1, l2, l3⟩ := hold hf h3
        rw [if_pos (by rw [e1]; exact nI_le (by omega) (by omega))]
        rw [← h3]
        rw [← h3] at hO
        exact hO
      · simp only [h3, if_false]
        exact hO
theorem RBm.step {bw bq bc : Int32} {v b : Nat} (h : RBm W w0 S bw bq bc) (hW : ∀ v b, W v b ≤ 130) (hw0 : w0 ≤ 130) (hSb : ∀ v b, S v b → v ≤ 50 ∧ b < 7) (hv : v ≤ 50) (hb : b < 7) (hS : S v b → False) :
    RBm W w0 (fun v' b' => S v' b' ∨ (v' = v ∧ b' = b)) (mStep bw bq bc (nI (W v b)) (nI b) (nI v)).1 (mStep bw bq bc (nI (W v b)) (nI b) (nI v)).2.1 (mStep bw bq bc (nI (W v b)) (nI b) (nI v)).2.2 := by
  obtain ⟨f, h, hq⟩ := h
  have one0 : (1 : Int32) = 0 → nI b = -4 := fun hh => absurd hh (by decide)
  unfold mStep
  by_cases h1 : nI (W v b) < bw
  · simp only [h1, if_true]
    exact ⟨1, h.new hS hW hw0 (Or.inl h1) hSb, one0⟩
  · simp only [h1, if_false]
    by_cases h3 : nI (W v b) = bw
    · simp only [h3, if_true]
      by_cases h4 : bq = -4
      · simp only [h4, if_true]
        rw [h4] at h
        refine ⟨f, h.old hW hw0 hSb h1 (fun hf _ => ?_), fun _ => rfl⟩
        rcases h with ⟨rfl, -⟩ | ⟨-, v1, b1, g1, g2, g3, g4, -⟩
        · exact absurd hf (by decide)
        · have := hSb v1 b1 g1
          exact absurd g4.symm (fun hh => nI_pos (n := b1) (by omega) (by rw [hh]; decide))
      · simp only [h4, if_false]
        have hf : f = 1 := by
          rcases h with ⟨hf, -⟩ | ⟨h, -⟩
          · exact absurd (hq hf) h4
          · exact h
        have hv1 : ∃ v1 b1, bc = nI v1 ∧ bq = nI b1 ∧ v1 ≤ 50 ∧ b1 < 7 := by
          rcases h with ⟨hf', -⟩ | ⟨-, v1, b1, g1, g2, g3, g4, -⟩
          · exact absurd (hq hf') h4
          · have := hSb v1 b1 g1
            exact ⟨v1, b1, g3, g4, by omega, by omega⟩
        obtain ⟨v1, b1, e1, e2, l1, l2⟩ := hv1
        by_cases h5 : nI v < bc
        · simp only [h5, if_true]
          rw [← h3]
          refine ⟨1, h.new hS hW hw0 (Or.inr ⟨hf, h3, v1, b1, e1, e2, l1, l2, Or.inl ?_⟩) hSb, one0⟩
          rw [e1] at h5
          exact (nI_ltI (by omega) (by omega)).mp h5
        · simp only [h5, if_false]
          by_cases h6 : nI v = bc
          · rw [if_pos h6]
            have hvv : v = v1 := (nI_eq (by omega) (by omega)).mp (h6.trans e1)
            by_cases h7 : bq ≤ nI b
            · rw [if_pos h7]
              rw [e2] at h7
              have := (nI_leI (by omega) (by omega)).mp h7
              exact ⟨f, h.old hW hw0 hSb h1 (fun _ _ => ⟨v1, b1, e1, e2, l1, l2, Or.inr ⟨hvv.symm, this⟩⟩), hq⟩
            · rw [if_neg h7, ← h3]
              rw [e2] at h7
              have : b < b1 := by
                rcases Nat.lt_or_ge b b1 with g | g
                · exact g
                · exact absurd (nI_le g (by omega)) h7
              exact ⟨1, h.new hS hW hw0 (Or.inr ⟨hf, h3, v1, b1, e1, e2, l1, l2, Or.inr ⟨hvv, this⟩⟩) hSb, one0⟩
          · rw [if_neg h6]
            have : v1 < v := by
              rw [e1] at h5 h6
              rcases Nat.lt_trichotomy v v1 with g | g | g
              · exact absurd (nI_lt g (by omega)) h5
              · exact absurd (by rw [g]) h6
              · exact g
            exact ⟨f, h.old hW hw0 hSb h1 (fun _ _ => ⟨v1, b1, e1, e2, l1, l2, Or.inl this⟩), hq⟩
    · simp only [h3, if_false]
      exact ⟨f, h.old hW hw0 hSb h1 (fun _ hh => absurd hh h3), hq⟩
theorem RBd.one {f wt c q bw bq bc : Int32} {v : Nat} (hv : v ≤ 2) (h : RBd W w0 S f wt c q) (h2 : RBm W w0 S bw bq bc) (hSb : ∀ v b, S v b → v ≤ 50 ∧ b < 7) : ∃ x, Adv_answer (nI v) f wt c q = some x ∧ Mod_best (nI v) bw bq bc = some x := by
  obtain ⟨g, h2, hq⟩ := h2
  apply ans_sim (s := 7) (by omega) hv
  rcases h with ⟨rfl, rfl, h⟩ | ⟨rfl, v1, b1, h1, rfl, rfl, rfl, h3, h4⟩
  · rcases h2 with ⟨rfl, rfl, k⟩ | ⟨rfl, v2, b2, k1, rfl, rfl, rfl, k3, k4⟩
    · exact Or.inl ⟨rfl, hq rfl, rfl⟩
    · have := h v2 b2 k1
      omega
  · rcases h2 with ⟨rfl, rfl, k⟩ | ⟨rfl, v2, b2, k1, rfl, rfl, rfl, k3, k4⟩
    · have := k v1 b1 h1
      omega
    · have a1 := h4 v2 b2 k1
      have a2 := k4 v1 b1 h1
      have ev : v1 = v2 := by omega
      have eb : b1 = b2 := by omega
      subst ev
      subst eb
      have := hSb v1 b1 h1
      exact Or.inr ⟨rfl, rfl, rfl, rfl, b1, by omega, rfl⟩
end DOOR
