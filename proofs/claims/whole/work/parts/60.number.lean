/-! ORDERS: their number; the ways to a set and the ways on from it -/
def popB (s : Nat) : Nat := (s.testBit 0).toNat + (s.testBit 1).toNat + (s.testBit 2).toNat + (s.testBit 3).toNat + (s.testBit 4).toNat + (s.testBit 5).toNat + (s.testBit 6).toNat
def facB : Nat → Nat
  | 0 => 1
  | n + 1 => (n + 1) * facB n
def bB (s : Nat) : Nat := facB (7 - popB s)
def sumB (s : Nat) : Nat → Nat
  | 0 => 0
  | p + 1 => sumB s p + (if s.testBit p = true then 0 else bB (s ||| 2 ^ p))
theorem sumB_le : ∀ s, s < 128 → ∀ n, n < 8 → sumB s n ≤ bB s := by decide +kernel
theorem bB_pos : ∀ s, s < 128 → 1 ≤ bB s := by decide +kernel
theorem pop_or : ∀ s, s < 128 → ∀ p, p < 7 → s.testBit p = false → popB (s ||| 2 ^ p) = popB s + 1 := by decide +kernel
theorem pop_full : ∀ N, N < 8 → ∀ s, s < 128 → s < 2 ^ N → (popB s ≤ N ∧ (popB s = N → s = 2 ^ N - 1)) := by decide +kernel
theorem pop_f : ∀ N, N < 8 → popB (2 ^ N - 1) = N := by decide +kernel
def fV (A : Nat → Nat) (V : Nat → Nat) (s : Nat) : Nat → Nat
  | 0 => 0
  | p + 1 => fV A V s p + (if cfB A p s = true then V (s ||| 2 ^ p) else 0)
def Sm (F V : Nat → Nat) : Nat → Nat → Nat
  | _, 0 => 0
  | lo, n + 1 => F lo * V lo + Sm F V (lo + 1) n
def updN (F : Nat → Nat) (k x : Nat) : Nat → Nat := fun t => if t = k then x else F t
theorem updN_s {F : Nat → Nat} {k x : Nat} : updN F k x k = x := if_pos rfl
theorem updN_n {F : Nat → Nat} {k x t : Nat} (h : t ≠ k) : updN F k x t = F t := if_neg h
theorem Sm_eq {F G V : Nat → Nat} : ∀ n lo, (∀ t, lo ≤ t → t < lo + n → F t = G t) → Sm F V lo n = Sm G V lo n := by
  intro n
  induction n with
  | zero => intro lo _; rfl
  | succ n ih =>
    intro lo h
    unfold Sm
    rw [h lo (Nat.le_refl _) (by omega), ih (lo + 1) (fun t h1 h2 => h t (by omega) (by omega))]
theorem Sm_upd {F V : Nat → Nat} {k x : Nat} : ∀ n lo, lo ≤ k → k < lo + n → Sm (updN F k (F k + x)) V lo n = Sm F V lo n + x * V k := by
  intro n
  induction n with
  | zero => intro lo h1 h2; omega
  | succ n ih =>
    intro lo h1 h2
    unfold Sm
    by_cases e : lo = k
    · subst e
      rw [updN_s, Sm_eq (G := F) n (lo + 1) (fun t g1 g2 => updN_n (by omega)), Nat.add_mul]
      omega
    · rw [updN_n e, ih (lo + 1) (by omega) (by omega)]
      omega
theorem Sm_0 {F V : Nat → Nat} : ∀ n lo, (∀ t, lo ≤ t → t < lo + n → F t = 0) → Sm F V lo n = 0 := by
  intro n
  induction n with
  | zero => intro lo _; rfl
  | succ n ih =>
    intro lo h
    unfold Sm
    rw [h lo (Nat.le_refl _) (by omega), ih (lo + 1) (fun t h1 h2 => h t (by omega) (by omega)), Nat.zero_mul]
theorem Sm_ge {F V : Nat → Nat} {k : Nat} : ∀ n lo, lo ≤ k → k < lo + n → F k * V k ≤ Sm F V lo n := by
  intro n
  induction n with
  | zero => intro lo h1 h2; omega
  | succ n ih =>
    intro lo h1 h2
    unfold Sm
    by_cases e : lo = k
    · subst e; omega
    · have := ih (lo + 1) (by omega) (by omega)
      omega
theorem fV_le {A V V' : Nat → Nat} {s : Nat} : ∀ n, (∀ p, p < n → cfB A p s = true → V (s ||| 2 ^ p) ≤ V' (s ||| 2 ^ p)) → fV A V s n ≤ fV A V' s n := by
  intro n
  induction n with
  | zero => intro _; exact Nat.le_refl _
  | succ n ih =>
    intro h
    unfold fV
    have := ih (fun p hp => h p (by omega))
    by_cases hc : cfB A n s = true
    · rw [if_pos hc, if_pos hc]
      have := h n (by omega) hc
      omega
    · rw [if_neg hc, if_neg hc]; omega
theorem fV_ge {A V : Nat → Nat} {s p : Nat} (hc : cfB A p s = true) : ∀ n, p < n → V (s ||| 2 ^ p) ≤ fV A V s n := by
  intro n
  induction n with
  | zero => intro h; omega
  | succ n ih =>
    intro h
    unfold fV
    by_cases e : p = n
    · subst e; rw [if_pos hc]; omega
    · have := ih (by omega)
      omega
theorem fV_pos {A V : Nat → Nat} {s : Nat} : ∀ n, fV A V s n ≠ 0 → ∃ p, p < n ∧ cfB A p s = true ∧ V (s ||| 2 ^ p) ≠ 0 := by
  intro n
  induction n with
  | zero => intro h; exact absurd rfl h
  | succ n ih =>
    intro h
    unfold fV at h
    by_cases hc : cfB A n s = true
    · rw [if_pos hc] at h
      by_cases h0 : V (s ||| 2 ^ n) = 0
      · obtain ⟨p, h1, h2, h3⟩ := ih (by omega)
        exact ⟨p, by omega, h2, h3⟩
      · exact ⟨n, by omega, hc, h0⟩
    · rw [if_neg hc] at h
      obtain ⟨p, h1, h2, h3⟩ := ih (by omega)
      exact ⟨p, by omega, h2, h3⟩
theorem fVB_le (A : Nat → Nat) (s : Nat) : ∀ n, fV A bB s n ≤ sumB s n := by
  intro n
  induction n with
  | zero => exact Nat.le_refl _
  | succ n ih =>
    unfold fV sumB
    by_cases hc : cfB A n s = true
    · rw [if_pos hc, if_neg (by rw [cf_bit hc]; simp)]; omega
    · rw [if_neg hc]; omega
section NUM
variable {N : Nat} {A cs wn : Nat → Nat}
abbrev WW (N : Nat) (A cs wn : Nat → Nat) (s : Nat) : Nat := (GW N A cs wn s).1
theorem fWC_1 {tk s : Nat} {g : Nat → Nat × Nat} : ∀ n, (fWC A cs tk s g n).1 = fV A (fun t => (g t).1) s n := by
  intro n
  induction n with
  | zero => rfl
  | succ n ih =>
    unfold fWC fV
    by_cases hc : cfB A n s = true
    · rw [if_pos hc, if_pos hc, ih]
    · rw [if_neg hc, if_neg hc, ih]; rfl
theorem WW_full : WW N A cs wn (2 ^ N - 1) = 1 := by unfold WW; rw [GW_full]
theorem WW_step (hN : N ≤ 7) {s : Nat} (hs : s < 2 ^ N) (hne : s ≠ 2 ^ N - 1) : WW N A cs wn s = fV A (WW N A cs wn) s N := by
  unfold WW
  rw [GW_step hN hs hne, fWC_1]
theorem WW_le (hN : N ≤ 7) : ∀ d s, s + d = 2 ^ N - 1 → WW N A cs wn s ≤ bB s := by
  have h128 := p128 hN
  have hpos : 0 < 2 ^ N := Nat.two_pow_pos N
  intro d
  induction d using Nat.strongRecOn with
  | ind d ih =>
    intro s hs
    by_cases e : s = 2 ^ N - 1
    · rw [e, WW_full]; exact bB_pos _ (by omega)
    · rw [WW_step hN (by omega) e]
      refine Nat.le_trans (fV_le (V' := bB) N (fun p hp hc => ?_)) (Nat.le_trans (fVB_le A s N) (sumB_le s (by omega) N (by omega)))
      have h1 := cf_gt (by omega) (by omega) hc
      have h2 := or_lt (N := N) (s := s) (p := p) (by omega) hp
      exact ih (2 ^ N - 1 - (s ||| 2 ^ p)) (by omega) _ (by omega)
theorem bB_le : ∀ s, s < 128 → bB s ≤ 5040 := by decide +kernel
theorem WW_b (hN : N ≤ 7) {s : Nat} (hs : s < 2 ^ N) : WW N A cs wn s ≤ 5040 := by
  have h128 := p128 hN
  exact Nat.le_trans (WW_le hN (2 ^ N - 1 - s) s (by omega)) (bB_le s (by omega))
theorem num_in (hN : N ≤ 7) {lets : Nat → Int32} (hA : ∀ j, j < N → lets j = nI (A j)) (hAl : ∀ j, j < N → A j < 128) {s : Nat} (hs : s < 2 ^ N) (K : (Nat → Int32) → Option (Int32 × (Nat → Int32))) :
    ∀ (d p n : Nat) (wy : Nat → Int32) (F : Nat → Nat), p + d = N → d < n → F s < 2 ^ 31 → (∀ t, t < 2 ^ N → wy t = nI (F t)) →
    ∃ (wy' : Nat → Int32) (F' : Nat → Nat), Ord_number_L45 (nI N) lets (nI s) K n (nI p) wy = K wy' ∧ (∀ t, t < 2 ^ N → wy' t = nI (F' t)) ∧ F' s = F s ∧ ∀ V, Sm F' V (s + 1) (2 ^ N - 1 - s) + F s * fV A V s p = Sm F V (s + 1) (2 ^ N - 1 - s) + F s * fV A V s N := by
  have h128 := p128 hN
  intro d
  induction d with
  | zero =>
    intro p n wy F hp hn hF hw
    obtain ⟨n, rfl⟩ : ∃ k, n = k + 1 := ⟨n - 1, by omega⟩
    obtain rfl : p = N := by omega
    refine ⟨wy, F, ?_, hw, rfl, fun V => rfl⟩
    rw [Ord_number_L45, if_pos (nI_le (by omega) (by omega))]
  | succ d ih =>
    intro p n wy F hp hn hF hw
    obtain ⟨n, rfl⟩ : ∃ k, n = k + 1 := ⟨n - 1, by omega⟩
    have hpN : p < N := by omega
    rw [Ord_number_L45, if_neg (nI_ge (by omega) (by omega)), rdA_nI (f := wy) (j := s) (by omega) (by omega), hw s hs]
    have skip : (F s = 0 ∨ ¬ cfB A p s = true) → ∃ (wy' : Nat → Int32) (F' : Nat → Nat), Ord_number_L45 (nI N) lets (nI s) K n (nI (p + 1)) wy = K wy' ∧ (∀ t, t < 2 ^ N → wy' t = nI (F' t)) ∧ F' s = F s ∧ ∀ V, Sm F' V (s + 1) (2 ^ N - 1 - s) + F s * fV A V s p = Sm F V (s + 1) (2 ^ N - 1 - s) + F s * fV A V s N := fun hz => by
      obtain ⟨wy', F', q1, q2, q3, q4⟩ := ih (p + 1) n wy F (by omega) (by omega) hF hw
      refine ⟨wy', F', q1, q2, q3, fun V => ?_⟩
      have := q4 V
      rcases hz with hz | hz
      · rw [hz] at this ⊢
        omega
      · rw [show fV A V s (p + 1) = fV A V s p + 0 by unfold fV; rw [if_neg hz]; cases p <;> rfl, Nat.add_zero] at this
        exact this
    by_cases hF0 : F s = 0
    · rw [if_pos ((nI_le0 hF).mpr hF0)]
      simp only [nmI, nI_a1]
      exact skip (Or.inl hF0)
    · rw [if_neg (fun hh => hF0 ((nI_le0 hF).mp hh)), E_canF (A := A) (by omega) (hAl p hpN) (by omega) (hA p hpN)]
      simp only [bindS]
      by_cases hcf : cfB A p s = true
      · simp only [hcf, if_true, i10, if_false, nmI, nI_a1]
        have hgt := cf_gt (by omega) (by omega) hcf
        have hlt := or_lt hs hpN
        rw [one_sh p (by omega), nx_or, rdA_nI (f := wy) (j := s ||| 2 ^ p) (by omega) (by omega), rdA_nI (f := wy) (j := s) (by omega) (by omega), wrA_nI (f := wy) (by omega) (by omega), hw _ hlt, hw s hs, nI_add]
        obtain ⟨wy', F', q1, q2, q3, q4⟩ := ih (p + 1) n (upd wy (s ||| 2 ^ p) (nI (F (s ||| 2 ^ p) + F s))) (updN F (s ||| 2 ^ p) (F (s ||| 2 ^ p) + F s)) (by omega) (by omega) (by rw [updN_n (by omega)]; exact hF) (fun t ht => by
          by_cases e : t = s ||| 2 ^ p
          · rw [e, upd_s, updN_s]
          · rw [upd_n e, updN_n e]; exact hw t ht)
        rw [updN_n (show s ≠ s ||| 2 ^ p by omega)] at q3 q4
        refine ⟨wy', F', q1, q2, q3, fun V => ?_⟩
        have h4 := q4 V
        rw [Sm_upd _ _ (by omega) (by omega)] at h4
        have hfv : fV A V s (p + 1) = fV A V s p + V (s ||| 2 ^ p) := by rw [fV, if_pos hcf]
        rw [hfv, Nat.mul_add] at h4
        omega
      · simp only [hcf, if_false, i00, if_true, nmI, nI_a1]
        exact skip (Or.inr hcf)
theorem num_out (hN : N ≤ 7) {lets : Nat → Int32} (hA : ∀ j, j < N → lets j = nI (A j)) (hAl : ∀ j, j < N → A j < 128) (K : (Nat → Int32) → Option (Int32 × (Nat → Int32))) :
    ∀ (d s n : Nat) (wy : Nat → Int32) (F : Nat → Nat), s + d = 2 ^ N - 1 → d < n → (∀ t, t < 2 ^ N → wy t = nI (F t)) → Sm F (WW N A cs wn) s (2 ^ N - s) = WW N A cs wn 0 → Sm F bB s (2 ^ N - s) ≤ 5040 →
    ∃ wy' : Nat → Int32, Ord_number_L38 (nI N) lets (nI (2 ^ N - 1)) K n (nI s) wy = K wy' ∧ wy' (2 ^ N - 1) = nI (WW N A cs wn 0) := by
  have h128 := p128 hN
  have hpos : 0 < 2 ^ N := Nat.two_pow_pos N
  intro d
  induction d with
  | zero =>
    intro s n wy F hs hn hw h1 h2
    obtain ⟨n, rfl⟩ : ∃ k, n = k + 1 := ⟨n - 1, by omega⟩
    obtain rfl : s = 2 ^ N - 1 := by omega
    refine ⟨wy, ?_, ?_⟩
    · rw [Ord_number_L38, if_pos (nI_le (by omega) (by omega))]
    · rw [hw _ (by omega)]
      rw [show 2 ^ N - (2 ^ N - 1) = 1 by omega, Sm, Sm, WW_full] at h1
      congr 1
      omega
  | succ d ih =>
    intro s n wy F hs hn hw h1 h2
    obtain ⟨n, rfl⟩ : ∃ k, n = k + 1 := ⟨n - 1, by omega⟩
    have hFs : F s < 2 ^ 31 := by
      have h3 := Sm_ge (F := F) (V := bB) (k := s) (2 ^ N - s) s (Nat.le_refl _) (by omega)
      have h4 : F s * 1 ≤ F s * bB s := Nat.mul_le_mul_left _ (bB_pos s (by omega))
      omega
    rw [Ord_number_L38, if_neg (nI_ge (by omega) (by omega))]
    obtain ⟨wy', F', q1, q2, q3, q4⟩ := num_in (A := A) hN hA hAl (show s < 2 ^ N by omega) (fun t => nmI (nI s + 1) (fun x2 => Ord_number_L38 (nI N) lets (nI (2 ^ N - 1)) K n x2 t)) N 0 FU wy F (by omega) (by unfold FU; omega) hFs hw
    rw [show 2 ^ N - s = 2 ^ N - 1 - s + 1 by omega, Sm] at h1 h2
    have w4 := q4 (WW N A cs wn)
    have b4 := q4 bB
    rw [show fV A (WW N A cs wn) s 0 = 0 from rfl, Nat.mul_zero, ← WW_step hN (by omega) (by omega)] at w4
    rw [show fV A bB s 0 = 0 from rfl, Nat.mul_zero] at b4
    have b5 : F s * fV A bB s N ≤ F s * bB s := Nat.mul_le_mul_left _ (Nat.le_trans (fVB_le A s N) (sumB_le s (by omega) N (by omega)))
    obtain ⟨w2, g1, g2⟩ := ih (s + 1) n wy' F' (by omega) (by omega) q2 (by rw [show 2 ^ N - (s + 1) = 2 ^ N - 1 - s by omega]; omega) (by rw [show 2 ^ N - (s + 1) = 2 ^ N - 1 - s by omega]; omega)
    refine ⟨w2, Eq.trans q1 ?_, g2⟩
    simp only [nmI, nI_a1]
    exact g1
theorem num_0 (hN : N ≤ 7) (K : (Nat → Int32) → Option (Int32 × (Nat → Int32))) : ∀ (d s n : Nat) (wy : Nat → Int32), s + d = 2 ^ N → d < n → (∀ t, t < s → wy t = 0) → ∃ wy', Ord_number_L11 (nI (2 ^ N - 1)) K n (nI s) wy = K wy' ∧ ∀ t, t < 2 ^ N → wy' t = 0 := by
  have h128 := p128 hN
  have hpos : 0 < 2 ^ N := Nat.two_pow_pos N
  intro d
  induction d with
  | zero =>
    intro s n wy hs hn hw
    obtain ⟨n, rfl⟩ : ∃ k, n = k + 1 := ⟨n - 1, by omega⟩
    refine ⟨wy, ?_, fun t ht => hw t (by omega)⟩
    rw [Ord_number_L11, if_pos (nI_lt (by omega) (by omega))]
  | succ d ih =>
    intro s n wy hs hn hw
    obtain ⟨n, rfl⟩ : ∃ k, n = k + 1 := ⟨n - 1, by omega⟩
    rw [Ord_number_L11, if_neg (nI_nlt (by omega) (by omega)), wrA_nI (by omega) (by omega)]
    simp only [nmI, nI_a1]
    exact ih (s + 1) n _ (by omega) (by omega) (fun t ht => by
      by_cases e : t = s
      · rw [e, upd_s]
      · rw [upd_n e]; exact hw t (by omega))
theorem bB_0 : bB 0 = 5040 := by decide +kernel
theorem E_number (hN : N ≤ 7) (cs wn : Nat → Nat) {lets : Nat → Int32} (hA : ∀ j, j < N → lets j = nI (A j)) (hAl : ∀ j, j < N → A j < 128) (wy : Nat → Int32) : ∃ wy', Ord_number (nI N) lets wy = some (nI (WW N A cs wn 0), wy') := by
  have h128 := p128 hN
  have hpos : 0 < 2 ^ N := Nat.two_pow_pos N
  unfold Ord_number
  rw [one_sh N (by omega), nI_m1 hpos]
  simp only [nmI]
  obtain ⟨w1, e1, e2⟩ := num_0 hN (fun t => wrA t 128 0 1 (fun t7 => Ord_number_L38 (nI N) lets (nI (2 ^ N - 1)) (fun t23 => rdA t23 128 (nI (2 ^ N - 1)) (fun v => some (v, t23))) FU 0 t7)) (2 ^ N) 0 FU wy (by omega) (by unfold FU; omega) (fun t ht => by omega)
  obtain ⟨w2, g1, g2⟩ := num_out (cs := cs) (wn := wn) hN hA hAl (fun t23 => rdA t23 128 (nI (2 ^ N - 1)) (fun v => some (v, t23))) (2 ^ N - 1) 0 FU (upd w1 0 1) (fun t => if t = 0 then 1 else 0) (by omega) (by unfold FU; omega) (fun t ht => by
      by_cases e : t = 0
      · subst e; rw [upd_s]; rfl
      · rw [upd_n e, e2 t ht]; show 0 = nI (if t = 0 then 1 else 0); rw [if_neg e]; rfl) (by
      rw [show 2 ^ N - 0 = 2 ^ N - 1 + 1 by omega, Sm, Sm_0 _ _ (fun t h1 h2 => if_neg (by omega))]; simp) (by
      rw [show 2 ^ N - 0 = 2 ^ N - 1 + 1 by omega, Sm, Sm_0 _ _ (fun t h1 h2 => if_neg (by omega)), bB_0]; simp)
  refine ⟨w2, Eq.trans e1 ?_⟩
  rw [show wrA w1 128 0 1 (fun t7 => Ord_number_L38 (nI N) lets (nI (2 ^ N - 1)) (fun t23 => rdA t23 128 (nI (2 ^ N - 1)) (fun v => some (v, t23))) FU 0 t7) = Ord_number_L38 (nI N) lets (nI (2 ^ N - 1)) (fun t23 => rdA t23 128 (nI (2 ^ N - 1)) (fun v => some (v, t23))) FU 0 (upd w1 0 1) from wrA_nI (j := 0) (by omega) (by omega)]
  refine Eq.trans g1 ?_
  rw [rdA_nI (by omega) (by omega), g2]
end NUM
