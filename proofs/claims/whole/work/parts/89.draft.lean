/-! the town that is being read, and the page beside it -/
def RD (N H : Nat) (people law counters : Int32) (kind father comes wants cost coins debts rp : Nat → Int32) (hi : Int32) : Prop :=
  (N ≤ 7 ∧ people = nI N ∧ rp 93 = nI N ∧ rp 91 = law ∧ (law = 0 ∨ law = 1) ∧ ∃ c, c < 2 ∧ counters = nI (1 + c) ∧ rp 92 = nI c) ∧
  (∀ p, p < N → rp (6 * p) = kind p ∧ rp (6 * p + 1) = comes p ∧ rp (6 * p + 2) = wants p ∧ rp (6 * p + 3) = cost p ∧ rp (6 * p + 4) = coins p) ∧
  (∀ p, p < N → kind p = 4 → ∃ f, f < H ∧ f < 7 ∧ f ≠ p ∧ father p = nI f ∧ rp (6 * p + 5) = nI f) ∧
  (∀ p, p < N → ¬ kind p = 4 → rp (6 * p + 5) = -4) ∧
  (∀ p, p < N → (∃ c, c ≤ 60 ∧ comes p = nI c) ∧ (∃ w, 1 ≤ w ∧ w ≤ 9 ∧ wants p = nI w) ∧ (∃ c, c ≤ 9 ∧ cost p = nI c) ∧ ∃ c, c ≤ 50 ∧ coins p = nI c) ∧
  ((∀ k, k < 49 → rp (42 + k) = debts k) ∧ (∀ a, a < 7 → debts (7 * a + a) = 0) ∧ ∀ a b, a < 7 → b < 7 → ∃ d, d ≤ 99 ∧ debts (7 * a + b) = nI d ∧ (d ≠ 0 → a < H ∧ b < H)) ∧
  (H ≤ 7 ∧ hi = dn H ∧ (H ≠ 0 → (∃ p, p < N ∧ kind p = 4 ∧ father p = nI (H - 1)) ∨ ∃ a b, a < 7 ∧ b < 7 ∧ ¬ debts (7 * a + b) = 0 ∧ (a = H - 1 ∨ b = H - 1)))
section DRAFT
variable {N H : Nat} {people law counters : Int32} {kind father comes wants cost coins debts rp : Nat → Int32} {hi : Int32}
theorem RD_law (h : RD N H people law counters kind father comes wants cost coins debts rp hi) {x : Nat} (hx : x ≤ 1) : RD N H people (nI x) counters kind father comes wants cost coins debts (upd rp 91 (nI x)) hi := by
  obtain ⟨⟨a1, a2, a3, a4, a5, c, a6, a7, a8⟩, b1, b2, b3, b4, ⟨c1, c2, c3⟩, d1⟩ := h
  refine ⟨⟨a1, a2, by rw [upd_n (by omega)]; exact a3, upd_s, ?_, c, a6, a7, by rw [upd_n (by omega)]; exact a8⟩, fun p hp => ?_, fun p hp hk => ?_, fun p hp hk => ?_, b4, ⟨fun k hk => ?_, c2, c3⟩, d1⟩
  · rcases (show x = 0 ∨ x = 1 by omega) with rfl | rfl
    · exact Or.inl rfl
    · exact Or.inr rfl
  · rw [upd_n (by omega), upd_n (by omega), upd_n (by omega), upd_n (by omega), upd_n (by omega)]; exact b1 p hp
  · rw [upd_n (by omega)]; exact b2 p hp hk
  · rw [upd_n (by omega)]; exact b3 p hp hk
  · rw [upd_n (by omega)]; exact c1 k hk
theorem RD_cnt (h : RD N H people law counters kind father comes wants cost coins debts rp hi) {x : Nat} (hx : x < 2) : RD N H people law (nI (1 + x)) kind father comes wants cost coins debts (upd rp 92 (nI x)) hi := by
  obtain ⟨⟨a1, a2, a3, a4, a5, c, a6, a7, a8⟩, b1, b2, b3, b4, ⟨c1, c2, c3⟩, d1⟩ := h
  refine ⟨⟨a1, a2, by rw [upd_n (by omega)]; exact a3, by rw [upd_n (by omega)]; exact a4, a5, x, hx, rfl, upd_s⟩, fun p hp => ?_, fun p hp hk => ?_, fun p hp hk => ?_, b4, ⟨fun k hk => ?_, c2, c3⟩, d1⟩
  · rw [upd_n (by omega), upd_n (by omega), upd_n (by omega), upd_n (by omega), upd_n (by omega)]; exact b1 p hp
  · rw [upd_n (by omega)]; exact b2 p hp hk
  · rw [upd_n (by omega)]; exact b3 p hp hk
  · rw [upd_n (by omega)]; exact c1 k hk
theorem mx_dn : ∀ a, a < 7 → ∀ H, H < 8 → mxI (nI a) (dn H) = dn (max H (a + 1)) := by decide +kernel
theorem RD_debt (h : RD N H people law counters kind father comes wants cost coins debts rp hi) {a b x : Nat} (ha : a < 7) (hb : b < 7) (hab : a ≠ b) (hx1 : 1 ≤ x) (hx : x ≤ 99) : RD N (max (max H (a + 1)) (b + 1)) people law counters kind father comes wants cost coins (upd debts (7 * a + b) (nI x)) (upd rp (42 + 7 * a + b) (nI x)) (mxI (nI b) (mxI (nI a) hi)) := by
  obtain ⟨⟨a1, a2, a3, a4, a5, c, a6, a7, a8⟩, b1, b2, b3, b4, ⟨c1, c2, c3⟩, d1, d2, d3⟩ := h
  have hx0 : ¬ nI x = 0 := fun hh => by
    have := (nI_eq (b := 0) (by omega) (by omega)).mp hh
    omega
  refine ⟨⟨a1, a2, by rw [upd_n (by omega)]; exact a3, by rw [upd_n (by omega)]; exact a4, a5, c, a6, a7, by rw [upd_n (by omega)]; exact a8⟩, fun p hp => ?_, fun p hp hk => ?_, fun p hp hk => ?_, b4, ⟨fun k hk => ?_, fun e he => ?_, fun a' b' ha' hb' => ?_⟩, by omega, ?_, fun _ => ?_⟩
  · rw [upd_n (by omega), upd_n (by omega), upd_n (by omega), upd_n (by omega), upd_n (by omega)]; exact b1 p hp
  · rw [upd_n (by omega)]
    obtain ⟨f, f1, f2, f3⟩ := b2 p hp hk
    exact ⟨f, by omega, f2, f3⟩
  · rw [upd_n (by omega)]; exact b3 p hp hk
  · by_cases e : k = 7 * a + b
    · rw [e, show 42 + (7 * a + b) = 42 + 7 * a + b by omega, upd_s, upd_s]
    · rw [upd_n (by omega), upd_n e]; exact c1 k hk
  · rw [upd_n (by omega)]; exact c2 e he
  · by_cases e : 7 * a' + b' = 7 * a + b
    · rw [e, upd_s]
      have e1 : a' = a := by omega
      have e2 : b' = b := by omega
      exact ⟨x, hx, rfl, fun _ => by omega⟩
    · rw [upd_n e]
      obtain ⟨d, g1, g2, g3⟩ := c3 a' b' ha' hb'
      exact ⟨d, g1, g2, fun hd => by have := g3 hd; omega⟩
  · rw [d2, mx_dn a ha H (by omega), mx_dn b hb _ (by omega)]
  · by_cases e1 : max (max H (a + 1)) (b + 1) = b + 1
    · exact Or.inr ⟨a, b, ha, hb, by rw [upd_s]; exact hx0, Or.inr (by omega)⟩
    · by_cases e2 : max (max H (a + 1)) (b + 1) = a + 1
      · exact Or.inr ⟨a, b, ha, hb, by rw [upd_s]; exact hx0, Or.inl (by omega)⟩
      · rcases d3 (by omega) with ⟨p, g1, g2, g3⟩ | ⟨a', b', g1, g2, g3, g4⟩
        · exact Or.inl ⟨p, g1, g2, by rw [g3]; congr 1; omega⟩
        · refine Or.inr ⟨a', b', g1, g2, ?_, by omega⟩
          by_cases e : 7 * a' + b' = 7 * a + b
          · rw [e, upd_s]; exact hx0
          · rw [upd_n e]; exact g3
theorem pgN_ne {N v0 v1 v2 v3 k : Nat} {rp : Nat → Int32} (h1 : k ≠ 6 * N + 1) (h2 : k ≠ 6 * N + 2) (h3 : k ≠ 6 * N + 3) (h4 : k ≠ 6 * N + 4) (h5 : k ≠ 93) : pgN N v0 v1 v2 v3 rp k = rp k := by
  unfold pgN
  rw [upd_n h5, upd_n h4, upd_n h3, upd_n h2, upd_n h1]
theorem rp8_ne {kd fa N k : Nat} {rp : Nat → Int32} (h1 : k ≠ 6 * N) (h2 : k ≠ 6 * N + 5) : rp8 kd fa N rp k = rp k := by
  unfold rp8
  by_cases h : kd = 4
  · rw [if_pos h, upd_n h2, upd_n h2, upd_n h1]
  · rw [if_neg h, upd_n h2, upd_n h1]
theorem faT_ne {kd fa N k : Nat} {father : Nat → Int32} (h1 : k ≠ N) : faT kd fa N father k = father k := by
  unfold faT
  by_cases h : kd = 4
  · rw [if_pos h, upd_n h1, upd_n h1]
  · rw [if_neg h, upd_n h1]
theorem RD_one (h : RD N H people law counters kind father comes wants cost coins debts rp hi) {kd fa v0 v1 v2 v3 : Nat} (hN : N < 7) (hkd : kd < 5) (hfa : kd = 4 → fa < 7 ∧ fa ≠ N) (h0 : v0 ≤ 60) (h1 : 1 ≤ v1 ∧ v1 ≤ 9) (h2 : v2 ≤ 9) (h3 : v3 ≤ 50) : RD (N + 1) (if kd = 4 then max H (fa + 1) else H) (nI (N + 1)) law counters (upd kind N (nI kd)) (faT kd fa N father) (upd comes N (nI v0)) (upd wants N (nI v1)) (upd cost N (nI v2)) (upd coins N (nI v3)) debts (pgN N v0 v1 v2 v3 (rp8 kd fa N rp)) (hiT kd fa hi) := by
  obtain ⟨⟨a1, a2, a3, a4, a5, c, a6, a7, a8⟩, b1, b2, b3, b4, ⟨c1, c2, c3⟩, d1, d2, d3⟩ := h
  have hHle : H ≤ (if kd = 4 then max H (fa + 1) else H) := by
    by_cases e : kd = 4
    · rw [if_pos e]; omega
    · rw [if_neg e]; exact Nat.le_refl _
  have k4 : nI kd = 4 ↔ kd = 4 := nI_eq (b := 4) (by omega) (by omega)
  refine ⟨⟨by omega, rfl, ?_, ?_, a5, c, a6, a7, ?_⟩, fun p hp => ?_, fun p hp hk => ?_, fun p hp hk => ?_, fun p hp => ?_, ⟨fun k hk => ?_, c2, fun a b ha hb => ?_⟩, ?_, ?_, fun hH => ?_⟩
  · unfold pgN; rw [upd_s]
  · rw [pgN_ne (by omega) (by omega) (by omega) (by omega) (by omega), rp8_ne (by omega) (by omega)]; exact a4
  · rw [pgN_ne (by omega) (by omega) (by omega) (by omega) (by omega), rp8_ne (by omega) (by omega)]; exact a8
  · by_cases e : p = N
    · subst e
      rw [pgN_ne (by omega) (by omega) (by omega) (by omega) (by omega)]
      refine ⟨?_, ?_, ?_, ?_, ?_⟩
      · rw [upd_s]
        unfold rp8
        by_cases e4 : kd = 4
        · rw [if_pos e4, upd_n (by omega), upd_n (by omega), upd_s]
        · rw [if_neg e4, upd_n (by omega), upd_s]
      · unfold pgN; rw [upd_n (by omega), upd_n (by omega), upd_n (by omega), upd_n (by omega), upd_s, upd_s]
      · unfold pgN; rw [upd_n (by omega), upd_n (by omega), upd_n (by omega), upd_s, upd_s]
      · unfold pgN; rw [upd_n (by omega), upd_n (by omega), upd_s, upd_s]
      · unfold pgN; rw [upd_n (by omega), upd_s, upd_s]
    · have hpN : p < N := by omega
      rw [pgN_ne (by omega) (by omega) (by omega) (by omega) (by omega), pgN_ne (by omega) (by omega) (by omega) (by omega) (by omega), pgN_ne (by omega) (by omega) (by omega) (by omega) (by omega), pgN_ne (by omega) (by omega) (by omega) (by omega) (by omega), pgN_ne (by omega) (by omega) (by omega) (by omega) (by omega), rp8_ne (by omega) (by omega), rp8_ne (by omega) (by omega), rp8_ne (by omega) (by omega), rp8_ne (by omega) (by omega), rp8_ne (by omega) (by omega), upd_n e, upd_n e, upd_n e, upd_n e, upd_n e]
      exact b1 p hpN
  · by_cases e : p = N
    · subst e
      rw [upd_s] at hk
      have e4 := k4.mp hk
      obtain ⟨f1, f2⟩ := hfa e4
      refine ⟨fa, by rw [if_pos e4]; omega, f1, f2, ?_, ?_⟩
      · unfold faT; rw [if_pos e4, upd_s]
      · rw [pgN_ne (by omega) (by omega) (by omega) (by omega) (by omega)]
        unfold rp8
        rw [if_pos e4, upd_s]
    · have hpN : p < N := by omega
      rw [upd_n e] at hk
      obtain ⟨f, f1, f2, f3, f4, f5⟩ := b2 p hpN hk
      exact ⟨f, by omega, f2, f3, by rw [faT_ne e]; exact f4, by rw [pgN_ne (by omega) (by omega) (by omega) (by omega) (by omega), rp8_ne (by omega) (by omega)]; exact f5⟩
  · by_cases e : p = N
    · subst e
      rw [upd_s, k4] at hk
      rw [pgN_ne (by omega) (by omega) (by omega) (by omega) (by omega)]
      unfold rp8
      rw [if_neg hk, upd_s]
    · have hpN : p < N := by omega
      rw [upd_n e] at hk
      rw [pgN_ne (by omega) (by omega) (by omega) (by omega) (by omega), rp8_ne (by omega) (by omega)]
      exact b3 p hpN hk
  · by_cases e : p = N
    · subst e
      rw [upd_s, upd_s, upd_s, upd_s]
      exact ⟨⟨v0, h0, rfl⟩, ⟨v1, h1.1, h1.2, rfl⟩, ⟨v2, h2, rfl⟩, v3, h3, rfl⟩
    · rw [upd_n e, upd_n e, upd_n e, upd_n e]
      exact b4 p (by omega)
  · rw [pgN_ne (by omega) (by omega) (by omega) (by omega) (by omega), rp8_ne (by omega) (by omega)]
    exact c1 k hk
  · obtain ⟨d, g1, g2, g3⟩ := c3 a b ha hb
    exact ⟨d, g1, g2, fun hd => by have := g3 hd; omega⟩
  · by_cases e : kd = 4
    · have := (hfa e).1
      rw [if_pos e]; omega
    · rw [if_neg e]; exact d1
  · unfold hiT
    by_cases e : kd = 4
    · rw [if_pos e, if_pos e, d2, mx_dn fa (hfa e).1 H (by omega)]
    · rw [if_neg e, if_neg e]; exact d2
  · have old : H ≠ 0 → (if kd = 4 then max H (fa + 1) else H) = H → (∃ p, p < N + 1 ∧ upd kind N (nI kd) p = 4 ∧ faT kd fa N father p = nI ((if kd = 4 then max H (fa + 1) else H) - 1)) ∨ ∃ a b, a < 7 ∧ b < 7 ∧ ¬ debts (7 * a + b) = 0 ∧ (a = (if kd = 4 then max H (fa + 1) else H) - 1 ∨ b = (if kd = 4 then max H (fa + 1) else H) - 1) := fun h0 he => by
      rw [he]
      rcases d3 h0 with ⟨p, g1, g2, g3⟩ | g
      · exact Or.inl ⟨p, by omega, by rw [upd_n (by omega)]; exact g2, by rw [faT_ne (by omega)]; exact g3⟩
      · exact Or.inr g
    by_cases e : kd = 4
    · by_cases e2 : max H (fa + 1) = H
      · exact old (by omega) (by rw [if_pos e]; exact e2)
      · rw [if_pos e]
        refine Or.inl ⟨N, by omega, by rw [upd_s]; exact k4.mpr e, ?_⟩
        unfold faT
        rw [if_pos e, upd_s]
        congr 1
        omega
    · rw [if_neg e] at hH
      exact old hH (by rw [if_neg e])
end DRAFT
