section RUN2
variable {N : Nat} {law counters : Int32} {kind father comes wants cost : Nat → Int32} {cm : Nat → Nat} {st0 : Nat → Int32}
theorem next_1 (hN : N ≤ 7) (hcm : ∀ j, j < N → comes j = nI (cm j) ∧ cm j ≤ 60) {t : Nat} (ht : t ≤ 130) (K : Int32 → Option Int32) : ∀ (d p n m : Nat), p + d = N → d < n → t < m → m ≤ 1000 → (∀ j, j < p → t < cm j → m ≤ cm j) → (m = 1000 ∨ ∃ j, j < N ∧ cm j = m) →
    ∃ m', Run_minuteBehind_L6 (nI N) comes (nI t) K n (nI m) (nI p) = K (nI m') ∧ t < m' ∧ m' ≤ 1000 ∧ (∀ j, j < N → t < cm j → m' ≤ cm j) ∧ (m' = 1000 ∨ ∃ j, j < N ∧ cm j = m') := by
  intro d
  induction d with
  | zero =>
    intro p n m hp hn h1 h2 h3 h4
    obtain ⟨n, rfl⟩ : ∃ k, n = k + 1 := ⟨n - 1, by omega⟩
    obtain rfl : p = N := by omega
    exact ⟨m, by rw [Run_minuteBehind_L6, if_pos (nI_le (Nat.le_refl _) (by omega))], h1, h2, h3, h4⟩
  | succ d ih =>
    intro p n m hp hn h1 h2 h3 h4
    obtain ⟨n, rfl⟩ : ∃ k, n = k + 1 := ⟨n - 1, by omega⟩
    have hpN : p < N := by omega
    obtain ⟨hc1, hc2⟩ := hcm p hpN
    rw [Run_minuteBehind_L6, if_neg (nI_ge hpN (by omega)), rdA_nI (by omega) (by omega), hc1]
    by_cases g1 : cm p ≤ t
    · rw [if_pos (nI_le g1 (by omega))]
      simp only [nmI, nI_a1]
      exact ih (p + 1) n m (by omega) (by omega) h1 h2 (fun j hj hc => by
        by_cases e : j = p
        · subst e; omega
        · exact h3 j (by omega) hc) h4
    · rw [if_neg (nI_ge (by omega) (by omega)), rdA_nI (by omega) (by omega), hc1]
      by_cases g2 : m ≤ cm p
      · rw [if_pos (nI_le g2 (by omega))]
        simp only [nmI, nI_a1]
        exact ih (p + 1) n m (by omega) (by omega) h1 h2 (fun j hj hc => by
          by_cases e : j = p
          · subst e; omega
          · exact h3 j (by omega) hc) h4
      · rw [if_neg (nI_ge (by omega) (by omega)), rdA_nI (by omega) (by omega), hc1]
        simp only [nmI, nI_a1]
        exact ih (p + 1) n (cm p) (by omega) (by omega) (by omega) (by omega) (fun j hj hc => by
          by_cases e : j = p
          · subst e; omega
          · have := h3 j (by omega) hc; omega) (Or.inr ⟨p, hpN, rfl⟩)
theorem next_2 {t c0 L : Nat} {free : Nat → Int32} (hL : L ≤ 7) (ht : t ≤ 130) (hc0 : c0 < 2) (hfr : ∀ c, c < 1 + c0 → ∃ b, b ≤ 200 ∧ free c = nI b ∧ (0 < L → t < b)) (K : Int32 → Option Int32) : ∀ (d c n m : Nat), c + d = 1 + c0 → d < n → t < m → m ≤ 1000 →
    ∃ m', Run_minuteBehind_L61 (nI (1 + c0)) (nI L) free K n (nI m) (nI c) = K (nI m') ∧ t < m' ∧ m' ≤ m ∧ (0 < L → ∀ c', c ≤ c' → c' < 1 + c0 → ∀ b, b ≤ 200 → free c' = nI b → m' ≤ b) ∧ (m' = m ∨ (0 < L ∧ ∃ c', c' < 1 + c0 ∧ free c' = nI m')) := by
  intro d
  induction d with
  | zero =>
    intro c n m hc hn h1 h2
    obtain ⟨n, rfl⟩ : ∃ k, n = k + 1 := ⟨n - 1, by omega⟩
    exact ⟨m, by rw [Run_minuteBehind_L61, if_pos (nI_le (by omega) (by omega))], h1, Nat.le_refl _, fun _ c' g1 g2 => by omega, Or.inl rfl⟩
  | succ d ih =>
    intro c n m hc hn h1 h2
    obtain ⟨n, rfl⟩ : ∃ k, n = k + 1 := ⟨n - 1, by omega⟩
    rw [Run_minuteBehind_L61, if_neg (nI_ge (by omega) (by omega))]
    rcases Nat.eq_zero_or_pos L with hz | hz
    · subst hz
      exact ⟨m, by rw [if_pos (by decide)], h1, Nat.le_refl _, fun h => absurd h (by omega), Or.inl rfl⟩
    · obtain ⟨b, hb, hfc, hbt⟩ := hfr c (by omega)
      rw [if_neg (by rw [nI_le0 (by omega)]; omega), rdA_nI (by omega) (by omega), hfc]
      by_cases g : b < m
      · rw [if_pos (nI_lt g (by omega))]
        simp only [nmI, nI_a1]
        obtain ⟨m', e1, e2, e3, e4, e5⟩ := ih (c + 1) n b (by omega) (by omega) (hbt hz) (by omega)
        refine ⟨m', e1, e2, by omega, fun _ c' g1 g2 b' hb' hf' => ?_, ?_⟩
        · by_cases e : c' = c
          · subst e
            rw [hfc] at hf'
            have := (nI_eq (by omega) (by omega)).mp hf'
            omega
          · exact e4 hz c' (by omega) g2 b' hb' hf'
        · rcases e5 with e5 | e5
          · right; exact ⟨hz, c, by omega, by rw [e5]; exact hfc⟩
          · exact Or.inr e5
      · rw [if_neg (nI_nlt (by omega) (by omega))]
        simp only [nmI, nI_a1]
        obtain ⟨m', e1, e2, e3, e4, e5⟩ := ih (c + 1) n m (by omega) (by omega) h1 h2
        refine ⟨m', e1, e2, e3, fun _ c' g1 g2 b' hb' hf' => ?_, e5⟩
        by_cases e : c' = c
        · subst e
          rw [hfc] at hf'
          have := (nI_eq (by omega) (by omega)).mp hf'
          omega
        · exact e4 hz c' (by omega) g2 b' hb' hf'
theorem E_next (hN : N ≤ 7) (hcm : ∀ j, j < N → comes j = nI (cm j) ∧ cm j ≤ 60) {t c0 L : Nat} {free : Nat → Int32} (hL : L ≤ 7) (ht : t ≤ 130) (hc0 : c0 < 2) (hfr : ∀ c, c < 1 + c0 → ∃ b, b ≤ 200 ∧ free c = nI b ∧ (0 < L → t < b)) :
    ∃ m', Run_minuteBehind (nI t) (nI N) (nI (1 + c0)) comes (nI L) free = some (nI m') ∧ t < m' ∧ m' ≤ 1000 ∧ (∀ j, j < N → t < cm j → m' ≤ cm j) ∧ (0 < L → ∀ c', c' < 1 + c0 → ∀ b, b ≤ 200 → free c' = nI b → m' ≤ b) ∧ (m' = 1000 ∨ (∃ j, j < N ∧ cm j = m') ∨ (0 < L ∧ ∃ c', c' < 1 + c0 ∧ free c' = nI m')) := by
  unfold Run_minuteBehind
  obtain ⟨m1, e1, e2, e3, e4, e5⟩ := next_1 hN hcm ht (fun x2 => Run_minuteBehind_L61 (nI (1 + c0)) (nI L) free (fun x => some x) FU x2 0) N 0 FU 1000 (by omega) (by unfold FU; omega) (by omega) (Nat.le_refl _) (fun j hj => by omega) (Or.inl rfl)
  obtain ⟨m2, f1, f2, f3, f4, f5⟩ := next_2 (t := t) hL ht hc0 hfr (fun x => some x) (1 + c0) 0 FU m1 (by omega) (by unfold FU; omega) e2 e3
  refine ⟨m2, ?_, f2, by omega, fun j hj hc => by have := e4 j hj hc; omega, fun hz c' hc' => f4 hz c' (by omega) hc', ?_⟩
  · rw [show (1000 : Int32) = nI 1000 from rfl, show (0 : Int32) = nI 0 from rfl]
    rw [show (0 : Int32) = nI 0 from rfl] at e1
    rw [e1]
    exact f1
  · rcases f5 with f5 | f5
    · rcases e5 with e5 | ⟨j, g1, g2⟩
      · left; omega
      · right; left; exact ⟨j, g1, by omega⟩
    · exact Or.inr (Or.inr f5)
/-- a minute in which nothing happens -/
def quiet (N : Nat) (cm : Nat → Nat) (c0 L : Nat) (free : Nat → Int32) (t : Nat) : Prop := (∀ j, j < N → ¬ cm j = t) ∧ (L = 0 ∨ ∀ c, c < 1 + c0 → aft free c t)
theorem RI.next {t p K L : Nat} {coins debts ones served free st queue busy servedIn : Nat → Int32} (h : RI N law counters kind father comes wants cost cm st0 t N K coins debts L ones served free st queue busy servedIn) : RI N law counters kind father comes wants cost cm st0 (t + 1) 0 K coins debts L ones served free st queue busy servedIn := by
  obtain ⟨hR, hK, hqo, hon, hbu, hf0, hcov, hfr⟩ := h
  have e : ∀ j, j < N → (arrd cm (t + 1) 0 j ↔ arrd cm t N j) := fun j hj => by unfold arrd; omega
  refine ⟨hR, by rw [arrv_n cm t N N (Nat.le_refl _)]; exact hK, hqo, fun i hi => ?_, hbu, hf0, fun j hj ha => hcov j hj ((e j hj).mp ha), hfr⟩
  obtain ⟨j, g1, g2, g3⟩ := hon i hi
  exact ⟨j, g1, (e j g1).mpr g2, g3⟩
theorem RI.step0 {t K L : Nat} {coins debts ones served free st queue busy servedIn : Nat → Int32} (h : RI N law counters kind father comes wants cost cm st0 t 0 K coins debts L ones served free st queue busy servedIn) (hq : ∀ j, j < N → ¬ cm j = t) : RI N law counters kind father comes wants cost cm st0 (t + 1) 0 K coins debts L ones served free st queue busy servedIn := by
  obtain ⟨hR, hK, hqo, hon, hbu, hf0, hcov, hfr⟩ := h
  have e : ∀ j, j < N → (arrd cm (t + 1) 0 j ↔ arrd cm t 0 j) := fun j hj => by have := hq j hj; unfold arrd; omega
  refine ⟨hR, by rw [arrv_n cm t N N (Nat.le_refl _), arrv_none cm t N N hq]; exact hK, hqo, fun i hi => ?_, hbu, hf0, fun j hj ha => hcov j hj ((e j hj).mp ha), hfr⟩
  obtain ⟨j, g1, g2, g3⟩ := hon i hi
  exact ⟨j, g1, (e j g1).mpr g2, g3⟩
theorem skip_arr {t K L : Nat} (ht : t ≤ 130) {coins debts ones served free st queue busy servedIn : Nat → Int32} (hcm : ∀ j, j < N → comes j = nI (cm j) ∧ cm j ≤ 60) (h : RI N law counters kind father comes wants cost cm st0 t 0 K coins debts L ones served free st queue busy servedIn) (hq : ∀ j, j < N → ¬ cm j = t) (paid : Int32)
    (K2 : Int32 → Int32 → (Nat → Int32) → (Nat → Int32) → Option (Int32 × Int32 × (Nat → Int32) × (Nat → Int32) × (Nat → Int32) × (Nat → Int32))) : ∀ (d p n : Nat), p + d = N → d < n → Mod_runsTo_L55 (nI t) K2 n (nI p) (nI L) paid st queue = K2 (nI L) paid st queue := by
  have hN := h.1.N7
  intro d
  induction d with
  | zero =>
    intro p n hp hn
    obtain ⟨n, rfl⟩ : ∃ k, n = k + 1 := ⟨n - 1, by omega⟩
    rw [Mod_runsTo_L55, nL375, rdA_nI (by omega) (by omega), show st 375 = nI N from h.1.many, if_pos (nI_le (by omega) (by omega))]
  | succ d ih =>
    intro p n hp hn
    obtain ⟨n, rfl⟩ : ∃ k, n = k + 1 := ⟨n - 1, by omega⟩
    have hpN : p < N := by omega
    obtain ⟨hc1, hc2⟩ := hcm p hpN
    have hst : st (282 + 6 * p + 1) = nI (cm p) := by rw [(h.1.cel p hpN).2.1, hc1]
    rw [Mod_runsTo_L55, nL375, rdA_nI (by omega) (by omega), show st 375 = nI N from h.1.many, if_neg (nI_ge hpN (by omega))]
    rw [show (282 + 6 * nI p) + 1 = nI (282 + 6 * p + 1) by rw [nL282, nL6, nL1, pk_mul, nI_add, nI_add], rdA_nI (by omega) (by omega), hst]
    rw [if_neg (fun hh => hq p hpN ((nI_eq (by omega) (by omega)).mp hh))]
    simp only [nmI, nI_a1]
    exact ih (p + 1) n (by omega) (by omega)
theorem skip_take {t c0 L : Nat} (ht : t ≤ 130) (hc0 : c0 < 2) {free st queue busy servedIn : Nat → Int32} (hst : st 374 = nI c0) (hL : L ≤ 7) (hbu : ∀ c, c < 2 → busy c = free c ∧ ∃ b, b ≤ 200 ∧ free c = nI b) (hz : L = 0 ∨ ∀ c, c < 1 + c0 → aft free c t)
    (K2 : Int32 → (Nat → Int32) → (Nat → Int32) → (Nat → Int32) → Option (Int32 × Int32 × (Nat → Int32) × (Nat → Int32) × (Nat → Int32) × (Nat → Int32))) : ∀ (d c n : Nat), c + d = 1 + c0 → d < n → Mod_runsTo_L103 (nI t) st K2 n (nI c) (nI L) queue busy servedIn = K2 (nI L) queue busy servedIn := by
  intro d
  induction d with
  | zero =>
    intro c n hc hn
    obtain ⟨n, rfl⟩ : ∃ k, n = k + 1 := ⟨n - 1, by omega⟩
    rw [Mod_runsTo_L103, nL374, rdA_nI (by omega) (by omega), hst, if_pos (nI_lt (by omega) (by omega))]
  | succ d ih =>
    intro c n hc hn
    obtain ⟨n, rfl⟩ : ∃ k, n = k + 1 := ⟨n - 1, by omega⟩
    obtain ⟨hbc, b, hb, hfc⟩ := hbu c (by omega)
    rw [Mod_runsTo_L103, nL374, rdA_nI (by omega) (by omega), hst, if_neg (nI_nlt (by omega) (by omega)), rdA_nI (by omega) (by omega), hbc, hfc]
    by_cases hbt : t < b
    · rw [if_pos (nI_lt hbt (by omega))]
      simp only [nmI, nI_a1]
      exact ih (c + 1) n (by omega) (by omega)
    · rw [if_neg (nI_nlt (by omega) (by omega))]
      rcases hz with hz | hz
      · subst hz
        rw [if_pos (by decide)]
        simp only [nmI, nI_a1]
        exact ih (c + 1) n (by omega) (by omega)
      · obtain ⟨b', g0, g1, g2⟩ := hz c (by omega)
        rw [hfc] at g1
        have := (nI_eq (by omega) (by omega)).mp g1
        omega
end RUN2
