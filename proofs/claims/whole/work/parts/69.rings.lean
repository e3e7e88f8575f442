/-! RINGS: whom one lets in, and whom those let in, and so on -/
def sB (X Y : Nat) : Prop := ∀ i, X.testBit i = true → Y.testBit i = true
theorem sB_refl (X : Nat) : sB X X := fun _ h => h
theorem sB_tr {X Y Z : Nat} (h : sB X Y) (g : sB Y Z) : sB X Z := fun i hi => g i (h i hi)
theorem sB_l (X Y : Nat) : sB X (X ||| Y) := fun i h => by rw [Nat.testBit_or, h]; rfl
theorem sB_r (X Y : Nat) : sB Y (X ||| Y) := fun i h => by rw [Nat.testBit_or, h]; simp
theorem sB_or {X Y Z : Nat} (h : sB X Z) (g : sB Y Z) : sB (X ||| Y) Z := fun i hi => by
  rw [Nat.testBit_or] at hi
  cases hx : X.testBit i
  · rw [hx] at hi; exact g i (by simpa using hi)
  · exact h i hx
theorem sB_eq {X Y : Nat} (h : sB X Y) (g : sB Y X) : X = Y := by
  apply Nat.eq_of_testBit_eq
  intro i
  have h1 := h i
  have g1 := g i
  cases hx : X.testBit i <;> cases hy : Y.testBit i <;> simp_all
theorem sB_and {X Y : Nat} (h : sB X Y) : X &&& Y = X := by
  apply Nat.eq_of_testBit_eq
  intro i
  have h1 := h i
  rw [Nat.testBit_and]
  cases hx : X.testBit i <;> simp_all
theorem pop_lt : ∀ s, s < 128 → ∀ t, t < 128 → s &&& t = s → s ≠ t → popB s < popB t := by decide +kernel
section RINGS
variable {N : Nat} {A : Nat → Nat}
def clo (N : Nat) (A : Nat → Nat) (X : Nat) : Prop := ∀ m, m < N → X.testBit m = true → sB (A m) X
/-- what holds of the rows once those below m were gone through -/
def RIn (N : Nat) (A : Nat → Nat) (L : Nat → Nat) (m : Nat) : Prop := (∀ a, a < N → sB (A a) (L a)) ∧ (∀ a, a < N → ∀ X, clo N A X → sB (A a) X → sB (L a) X) ∧ (∀ a, a < N → ∀ k, k < m → (L a).testBit k = true → sB (L k) (L a))
def fl (L : Nat → Nat) (m a : Nat) : Nat := if (L a).testBit m = true then L a ||| L m else L a
theorem fl_s (L : Nat → Nat) (m : Nat) : fl L m m = L m := by
  unfold fl
  by_cases h : (L m).testBit m = true
  · rw [if_pos h, Nat.or_self]
  · rw [if_neg h]
theorem fl_ge (L : Nat → Nat) (m a : Nat) : sB (L a) (fl L m a) := by
  unfold fl
  by_cases h : (L a).testBit m = true
  · rw [if_pos h]; exact sB_l _ _
  · rw [if_neg h]; exact sB_refl _
theorem fl_m {L : Nat → Nat} {m a : Nat} (h : (L a).testBit m = true) : sB (L m) (fl L m a) := by
  unfold fl
  rw [if_pos h]; exact sB_r _ _
theorem fl_le {L : Nat → Nat} {m a X : Nat} (h : sB (L a) X) (g : (L a).testBit m = true → sB (L m) X) : sB (fl L m a) X := by
  unfold fl
  by_cases hb : (L a).testBit m = true
  · rw [if_pos hb]; exact sB_or h (g hb)
  · rw [if_neg hb]; exact h
theorem fl_c {L : Nat → Nat} {m a k : Nat} (h : (fl L m a).testBit k = true) : (L a).testBit k = true ∨ ((L a).testBit m = true ∧ (L m).testBit k = true) := by
  unfold fl at h
  by_cases hb : (L a).testBit m = true
  · rw [if_pos hb, Nat.testBit_or] at h
    cases hx : (L a).testBit k
    · rw [hx] at h; exact Or.inr ⟨hb, by simpa using h⟩
    · exact Or.inl rfl
  · rw [if_neg hb] at h; exact Or.inl h
theorem RIn_s {L : Nat → Nat} {m : Nat} (hm : m < N) (h : RIn N A L m) : RIn N A (fl L m) (m + 1) := by
  obtain ⟨h1, h2, h3⟩ := h
  refine ⟨fun a ha => sB_tr (h1 a ha) (fl_ge L m a), fun a ha X hX hA => ?_, fun a ha k hk hb => ?_⟩
  · have := h2 a ha X hX hA
    exact fl_le this (fun hb => h2 m hm X hX (hX m hm (this m hb)))
  · by_cases e : k = m
    · subst e
      rw [fl_s]
      have : (L a).testBit k = true := by
        rcases fl_c hb with g | ⟨g, -⟩
        · exact g
        · exact g
      exact fl_m this
    · have hk' : k < m := by omega
      rcases fl_c hb with g | ⟨g1, g2⟩
      · have hs := h3 a ha k hk' g
        exact fl_le (sB_tr hs (fl_ge L m a)) (fun hb2 => fl_m (hs m hb2))
      · exact fl_le (sB_tr (h3 m hm k hk' g2) (fl_m g1)) (fun _ => fl_m g1)
theorem RIn_c {L : Nat → Nat} (h : RIn N A L N) {a : Nat} (ha : a < N) : clo N A (L a) := fun m hm hb => sB_tr (h.1 m hm) (h.2.2 a ha m hm hb)
/-- step by step, seven times around -/
def tq (A : Nat → Nat) (p : Nat) : Nat → Nat
  | 0 => A p
  | k + 1 => if (tq A p k).testBit (k % 7) = true then tq A p k ||| A (k % 7) else tq A p k
theorem tq_s (A : Nat → Nat) (p k : Nat) : tq A p (k + 1) = if (tq A p k).testBit (k % 7) = true then tq A p k ||| A (k % 7) else tq A p k := rfl
theorem tb_N {X i : Nat} (h : X < 2 ^ N) (hb : X.testBit i = true) : i < N := by
  by_cases hi : i < N
  · exact hi
  · have : X < 2 ^ i := Nat.lt_of_lt_of_le h (Nat.pow_le_pow_right (by omega) (by omega))
    rw [Nat.testBit_lt_two_pow this] at hb
    cases hb
theorem tq_lt (hAl : ∀ j, j < N → A j < 2 ^ N) {p : Nat} (hp : p < N) : ∀ k, tq A p k < 2 ^ N := by
  intro k
  induction k with
  | zero => exact hAl p hp
  | succ k ih =>
    rw [tq_s]
    by_cases h : (tq A p k).testBit (k % 7) = true
    · rw [if_pos h]
      exact Nat.or_lt_two_pow ih (hAl _ (tb_N ih h))
    · rw [if_neg h]; exact ih
theorem tq_1 (A : Nat → Nat) (p k : Nat) : sB (tq A p k) (tq A p (k + 1)) := by
  rw [tq_s]
  by_cases h : (tq A p k).testBit (k % 7) = true
  · rw [if_pos h]; exact sB_l _ _
  · rw [if_neg h]; exact sB_refl _
theorem tq_mono (A : Nat → Nat) (p k : Nat) : ∀ d, sB (tq A p k) (tq A p (k + d)) := by
  intro d
  induction d with
  | zero => exact sB_refl _
  | succ d ih => exact sB_tr ih (tq_1 A p (k + d))
theorem tq_le (hAl : ∀ j, j < N → A j < 2 ^ N) {p : Nat} (hp : p < N) {X : Nat} (hX : clo N A X) (h : sB (A p) X) : ∀ k, sB (tq A p k) X := by
  intro k
  induction k with
  | zero => exact h
  | succ k ih =>
    rw [tq_s]
    by_cases hb : (tq A p k).testBit (k % 7) = true
    · rw [if_pos hb]
      exact sB_or ih (hX _ (tb_N (tq_lt hAl hp k) hb) (ih _ hb))
    · rw [if_neg hb]; exact ih
theorem tq_stop (hN : N ≤ 7) {p j : Nat} (h : tq A p (7 * j + 7) = tq A p (7 * j)) : clo N A (tq A p (7 * j)) := fun m hm hb => by
  have h1 := tq_mono A p (7 * j) m
  have h2 := tq_mono A p (7 * j + m + 1) (6 - m)
  rw [show 7 * j + m + 1 + (6 - m) = 7 * j + 7 by omega, h] at h2
  have hb2 := h1 m hb
  rw [tq_s, show (7 * j + m) % 7 = m by omega, if_pos hb2] at h2
  exact sB_tr (sB_r _ _) h2
theorem tq_stay (hAl : ∀ j, j < N → A j < 2 ^ N) {p k : Nat} (hp : p < N) (h : clo N A (tq A p k)) : ∀ d, tq A p (k + d) = tq A p k := by
  intro d
  induction d with
  | zero => rfl
  | succ d ih =>
    rw [← Nat.add_assoc, tq_s, ih]
    by_cases hb : (tq A p k).testBit ((k + d) % 7) = true
    · rw [if_pos hb]
      exact sB_eq (sB_or (sB_refl _) (h _ (tb_N (tq_lt hAl hp k) hb) hb)) (sB_l _ _)
    · rw [if_neg hb]
theorem tq_pop (hN : N ≤ 7) (hAl : ∀ j, j < N → A j < 2 ^ N) {p : Nat} (hp : p < N) : ∀ j, clo N A (tq A p (7 * j)) ∨ j ≤ popB (tq A p (7 * j)) := by
  have h128 := p128 hN
  intro j
  induction j with
  | zero => exact Or.inr (Nat.zero_le _)
  | succ j ih =>
    rw [show 7 * (j + 1) = 7 * j + 7 by omega]
    rcases ih with h | h
    · left; rw [tq_stay hAl hp h]; exact h
    · by_cases e : tq A p (7 * j + 7) = tq A p (7 * j)
      · left; rw [e]; exact tq_stop hN e
      · right
        have l1 := tq_lt hAl hp (7 * j)
        have l2 := tq_lt hAl hp (7 * j + 7)
        have := pop_lt _ (show tq A p (7 * j) < 128 by omega) _ (show tq A p (7 * j + 7) < 128 by omega) (sB_and (tq_mono A p (7 * j) 7)) (fun hh => e hh.symm)
        omega
theorem tq_c (hN : N ≤ 7) (hAl : ∀ j, j < N → A j < 2 ^ N) {p : Nat} (hp : p < N) : clo N A (tq A p 49) := by
  have h128 := p128 hN
  have h7 := tq_pop hN hAl hp 7
  rw [show 7 * 7 = 49 from rfl] at h7
  rcases h7 with h | h
  · exact h
  · have l1 := tq_lt hAl hp 49
    have hf := (pop_full 7 (by omega) (tq A p 49) (by omega) (by omega))
    have e := hf.2 (by have := hf.1; omega)
    intro m hm _ i hi
    rw [e]
    have := tb_N (hAl m hm) hi
    exact full_bit 7 (by omega) i (by omega)
theorem RIn_tq (hN : N ≤ 7) (hAl : ∀ j, j < N → A j < 2 ^ N) {L : Nat → Nat} (h : RIn N A L N) {a : Nat} (ha : a < N) : L a = tq A a 49 := by
  refine sB_eq (h.2.1 a ha _ (tq_c hN hAl ha) (by have := tq_mono A a 0 49; rw [Nat.zero_add] at this; exact this)) ?_
  exact tq_le hAl ha (RIn_c h ha) (h.1 a ha) 49
end RINGS
