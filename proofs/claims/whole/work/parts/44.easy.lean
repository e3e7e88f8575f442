/-! the short ones: rule, one, owes, must, law, counters, comes, debt, pay, lend, sell -/
def TOK (N B : Nat) (coins debts : Nat → Int32) : Prop := (∀ p, p < N → ∃ c, c ≤ B ∧ coins p = nI c) ∧ (∀ k, k < 49 → ∃ d, d ≤ 999 ∧ debts k = nI d)
theorem TOK.mono {N B B' : Nat} {coins debts : Nat → Int32} (h : TOK N B coins debts) (hB : B ≤ B') : TOK N B' coins debts := ⟨fun p hp => by obtain ⟨c, h1, h2⟩ := h.1 p hp; exact ⟨c, by omega, h2⟩, h.2⟩
abbrev frI (st st' : Nat → Int32) : Prop := ∀ k, 94 ≤ k → st' k = st k
theorem E_in32c (v : Int32) {lo hi : Int64} {a b : Int32} (ha : lo = a.toInt64) (hb : hi = b.toInt64) : Mod_in v.toInt64 lo hi = some (if a ≤ v ∧ v ≤ b then 1 else 0) := by rw [ha, hb, E_in32]
section EASY
variable {N B q : Nat} {people law counters : Int32} {kind father comes wants cost coins debts st : Nat → Int32}
theorem P_rule (hR : RT N people law counters kind father comes wants cost coins debts st 0) (w : Int32) : ∃ o, Let_rule w people law counters = some o ∧ Mod_rule w st = some o := by
  have hm : st 93 = nI N := hR.many
  have hl : st 91 = law := hR.lw
  obtain ⟨c, hc, hc1, hc2⟩ := hR.ctr
  have hc2 : st 92 = nI c := hc2
  unfold Let_rule Mod_rule
  rw [E_manyM hm, nL91, nL92, rdA_nI (by omega) (by omega), rdA_nI (by omega) (by omega), hl, hc2, hR.ppl, hc1]
  simp only [bindS]
  by_cases h0 : w = 0
  · simp only [h0, if_true]; exact ⟨_, rfl, rfl⟩
  · by_cases h1 : w = 1
    · rw [if_neg h0, if_neg h0, if_pos h1, if_pos h1]; exact ⟨_, rfl, rfl⟩
    · by_cases h2 : w = 2
      · rw [if_neg h0, if_neg h0, if_neg h1, if_neg h1, if_pos h2, if_pos h2]
        exact ⟨_, rfl, by rw [nL1, nI_add]⟩
      · rw [if_neg h0, if_neg h0, if_neg h1, if_neg h1, if_neg h2, if_neg h2]
        exact ⟨_, rfl, rfl⟩
theorem P_one (hR : RT N people law counters kind father comes wants cost coins debts st 0) (p w : Int32) : ∃ o, Let_one p w people kind father comes wants cost coins = some o ∧ Mod_one p w st = some o := by
  have hN := hR.N7
  unfold Let_one Mod_one
  rw [hR.ppl, E_isOneT, E_isOneM hN hR.many, E_in32c w (lo := 0) (hi := 5) (a := 0) (b := 5) rfl rfl]
  simp only [bindS]
  rcases oneB_cases hN p with ⟨g1, j, hj, rfl⟩ | g1
  · simp only [g1, i10, if_false]
    obtain ⟨e0, e1, e2, e3, e4⟩ := hR.cel j hj
    rw [Nat.zero_add] at e0 e1 e2 e3 e4
    rcases rng_cases (t := w) (hi := 5) (n := 5) rfl (by omega) with ⟨f1, f2, k, hk, rfl⟩ | f
    · simp only [eq_true (show 0 ≤ nI k ∧ nI k ≤ 5 from ⟨f1, f2⟩), if_true, i10, if_false]
      rw [nL6, pk_mul, nI_add, rdA_nI (f := st) (n := 470) (j := 6 * j + k) (by omega) (by omega)]
      simp only [rdA_nI (show j < 7 by omega) (show 7 < 2 ^ 31 by omega)]
      rcases (show k = 0 ∨ k = 1 ∨ k = 2 ∨ k = 3 ∨ k = 4 ∨ k = 5 by omega) with rfl | rfl | rfl | rfl | rfl | rfl
      · exact ⟨_, rfl, by rw [Nat.add_zero, e0]⟩
      · exact ⟨_, rfl, by rw [e1]⟩
      · exact ⟨_, rfl, by rw [e2]⟩
      · exact ⟨_, rfl, by rw [e3]⟩
      · exact ⟨_, rfl, by rw [e4]⟩
      · rw [if_neg (by decide), if_neg (by decide), if_neg (by decide), if_neg (by decide), if_neg (by decide), if_pos (by decide)]
        by_cases hk4 : kind j = 4
        · obtain ⟨f, -, -, h3, h4⟩ := hR.fat j hj hk4
          rw [Nat.zero_add] at h4
          rw [if_pos hk4, h3, h4]
          exact ⟨_, rfl, rfl⟩
        · have h4 := hR.nfa j hj hk4
          rw [Nat.zero_add] at h4
          rw [if_neg hk4, h4]
          exact ⟨_, rfl, rfl⟩
    · have ne : ∀ k, k ≤ 5 → ¬ w = nI k := fun k hk hh => f (by
        rw [hh]
        exact ⟨(nI_0le (by omega)).mpr trivial, nI_le (b := 5) hk (by omega)⟩)
      simp only [eq_false f, if_false, i00, if_true]
      rw [if_neg (show ¬ w = 0 from ne 0 (by omega)), if_neg (show ¬ w = 1 from ne 1 (by omega)), if_neg (show ¬ w = 2 from ne 2 (by omega)), if_neg (show ¬ w = 3 from ne 3 (by omega)), if_neg (show ¬ w = 4 from ne 4 (by omega)), if_neg (show ¬ w = 5 from ne 5 (by omega))]
      exact ⟨_, rfl, rfl⟩
  · simp only [g1, i00, if_true]
    exact ⟨_, rfl, rfl⟩
theorem rd_debt (hR : RT N people law counters kind father comes wants cost coins debts st 0) {a b : Nat} (ha : a < 7) (hb : b < 7) : st (42 + 7 * a + b) = debts (7 * a + b) := by
  have := hR.deb (7 * a + b) (by omega)
  rw [Nat.zero_add] at this
  rw [← this]
  congr 1
  omega
theorem P_owes (hR : RT N people law counters kind father comes wants cost coins debts st 0) (a b : Int32) : ∃ o, Let_owes a b people debts = some o ∧ Mod_owes a b st = some o := by
  have hN := hR.N7
  unfold Let_owes Mod_owes Mod_debtAt
  rw [hR.ppl, E_areTwoT, E_areTwoM hN hR.many]
  simp only [bindS]
  rcases twoB_cases hN a b with ⟨g1, i, j, hi, hj, hij, rfl, rfl⟩ | g1
  · simp only [g1, i10, if_false]
    rw [E_owed (by omega) (by omega), ix_debt, rdA_nI (by omega) (by omega), rd_debt hR (by omega) (by omega)]
    exact ⟨_, rfl, rfl⟩
  · simp only [g1, i00, if_true]
    exact ⟨_, rfl, rfl⟩
theorem P_must (hR : RT N people law counters kind father comes wants cost coins debts st 0) (a b : Int32) : ∃ o, Let_must a b people law kind father debts = some o ∧ Mod_must a b st = some o := by
  have hN := hR.N7
  unfold Let_must Mod_must
  rw [hR.ppl, E_areTwoT, E_areTwoM hN hR.many]
  simp only [bindS]
  rcases twoB_cases hN a b with ⟨g1, i, j, hi, hj, hij, rfl, rfl⟩ | g1
  · simp only [g1, i10, if_false]
    rw [E_mustT hN hR.fok hi hj, nL0, E_mustM hR (by omega) hi hj]
    simp only [bindS]
    by_cases h : mustV law kind father debts i j = nI 0
    · rw [if_pos h]; exact ⟨_, rfl, rfl⟩
    · rw [if_neg h]; exact ⟨_, rfl, rfl⟩
  · simp only [g1, i00, if_true]
    exact ⟨_, rfl, rfl⟩
theorem P_law (hR : RT N people law counters kind father comes wants cost coins debts st 0) (v : Int32) : ∃ o1 o2, Let_law v law = some o1 ∧ Mod_law v st = some o2 ∧ o1.1 = o2.1 ∧ RT N people o1.2 counters kind father comes wants cost coins debts o2.2 0 ∧ frI st o2.2 := by
  have hl : st 91 = law := hR.lw
  unfold Let_law Mod_law
  rw [E_isLaw, E_in32c v (lo := 0) (hi := 1) (a := 0) (b := 1) rfl rfl, nL91, rdA_nI (by omega) (by omega), wrA_nI (by omega) (by omega), hl]
  simp only [bindS]
  rcases rng_cases (t := v) (hi := 1) (n := 1) rfl (by omega) with ⟨f1, f2, k, hk, rfl⟩ | f
  · simp only [eq_true (show 0 ≤ nI k ∧ nI k ≤ 1 from ⟨f1, f2⟩), if_true, i10, if_false]
    have h01 : nI k = 0 ∨ nI k = 1 := by
      rcases (show k = 0 ∨ k = 1 by omega) with rfl | rfl
      · exact Or.inl rfl
      · exact Or.inr rfl
    exact ⟨_, _, rfl, rfl, rfl, hR.setLaw h01, fun k hk => upd_n (by omega)⟩
  · simp only [eq_false f, if_false, i00, if_true]
    exact ⟨_, _, rfl, rfl, rfl, hR, fun _ _ => rfl⟩
theorem RT.setCtr (h : RT N people law counters kind father comes wants cost coins debts st q) {c : Nat} (hc : c < 2) : RT N people law (nI (1 + c)) kind father comes wants cost coins debts (upd st (q + 92) (nI c)) q := by
  have hN := h.N7
  refine ⟨hN, h.ppl, by rw [upd_n (by omega)]; exact h.many, by rw [upd_n (by omega)]; exact h.lw, h.lw01, ⟨c, hc, rfl, upd_s⟩, fun p hp => ?_, fun p hp hk => ?_, fun p hp hk => ?_, h.rng, fun k hk => ?_, h.dia⟩
  · rw [upd_n (by omega), upd_n (by omega), upd_n (by omega), upd_n (by omega), upd_n (by omega)]
    exact h.cel p hp
  · rw [upd_n (by omega)]; exact h.fat p hp hk
  · rw [upd_n (by omega)]; exact h.nfa p hp hk
  · rw [upd_n (by omega)]; exact h.deb k hk
theorem P_counters (hR : RT N people law counters kind father comes wants cost coins debts st 0) (v : Int32) : ∃ o1 o2, Let_counters v counters = some o1 ∧ Mod_counters v st = some o2 ∧ o1.1 = o2.1 ∧ RT N people law o1.2 kind father comes wants cost coins debts o2.2 0 ∧ frI st o2.2 := by
  obtain ⟨c, hc, hc1, hc2⟩ := hR.ctr
  have hc2 : st 92 = nI c := hc2
  unfold Let_counters Mod_counters
  rw [E_in32c v (lo := 1) (hi := 2) (a := 1) (b := 2) rfl rfl, nL92, rdA_nI (by omega) (by omega), hc2]
  simp only [bindS, nmI]
  rw [wrA_nI (by omega) (by omega)]
  by_cases h1 : v < 1
  · simp only [eq_false (show ¬ (1 ≤ v ∧ v ≤ 2) from fun h => i32_nle.mpr h1 h.1), if_false, i00, if_true]
    simp only [eq_true h1, if_true]
    exact ⟨_, _, rfl, rfl, rfl, hR, fun _ _ => rfl⟩
  · by_cases h2 : v ≤ 2
    · simp only [eq_true (show 1 ≤ v ∧ v ≤ 2 from ⟨i32_nlt.mp h1, h2⟩), i10, if_true, if_false]
      simp only [eq_false h1, if_false, eq_true h2, if_true]
      obtain ⟨k, hk⟩ : ∃ k, k < 2 ∧ v = nI (1 + k) := by
        have g : (0 : Int32) ≤ v := by
          have := i32_nlt.mp h1
          rw [t32_le] at this ⊢
          have e1 : (1 : Int32).toInt = 1 := rfl
          have e0 : (0 : Int32).toInt = 0 := rfl
          omega
        rcases rng_cases (t := v) (hi := 2) (n := 2) rfl (by omega) with ⟨-, -, k, hk, rfl⟩ | f
        · rcases (show k = 0 ∨ k = 1 ∨ k = 2 by omega) with rfl | rfl | rfl
          · exact absurd (by decide) h1
          · exact ⟨0, by omega, rfl⟩
          · exact ⟨1, by omega, rfl⟩
        · exact absurd ⟨g, h2⟩ f
      obtain ⟨hk1, rfl⟩ := hk
      have e : nI (1 + k) - 1 = nI k := by rw [Nat.add_comm]; exact nI_pred k
      refine ⟨(counters, nI (1 + k)), (1 + nI c, upd st 92 (nI (1 + k) - 1)), rfl, rfl, ?_, ?_, fun k hk => upd_n (by omega)⟩
      · show counters = 1 + nI c
        rw [hc1, nL1, nI_add]
      · show RT N people law (nI (1 + k)) kind father comes wants cost coins debts (upd st 92 (nI (1 + k) - 1)) 0
        rw [e]
        exact hR.setCtr hk1
    · simp only [eq_false (show ¬ (1 ≤ v ∧ v ≤ 2) from fun h => h2 h.2), i00, if_true, if_false]
      simp only [eq_false h1, if_false, eq_false h2]
      exact ⟨_, _, rfl, rfl, rfl, hR, fun _ _ => rfl⟩
theorem P_comes (hR : RT N people law counters kind father comes wants cost coins debts st 0) (p t : Int32) : ∃ o1 o2, Let_comes p t people comes = some o1 ∧ Mod_comes p t st = some o2 ∧ o1.1 = o2.1 ∧ RT N people law counters kind father o1.2 wants cost coins debts o2.2 0 ∧ frI st o2.2 := by
  have hN := hR.N7
  unfold Let_comes Mod_comes
  rw [hR.ppl, E_isOneT, E_isOneM hN hR.many, E_in32c t (lo := 0) (hi := 60) (a := 0) (b := 60) rfl rfl]
  simp only [bindS]
  rcases oneB_cases hN p with ⟨g1, j, hj, rfl⟩ | g1
  · simp only [g1, i10, if_false]
    rcases rng_cases (t := t) (hi := 60) (n := 60) rfl (by omega) with ⟨f1, f2, k, hk, rfl⟩ | f
    · simp only [eq_true (show 0 ≤ nI k ∧ nI k ≤ 60 from ⟨f1, f2⟩), if_true, i10, if_false]
      simp only [eq_false (i32_nlt.mpr f1), eq_true f2, if_true, if_false]
      have e1 := (hR.cel j hj).2.1
      have hr := hR.setComes hj hk
      rw [Nat.zero_add] at e1
      rw [hR.ppl, Nat.zero_add] at hr
      rw [show 6 * nI j + 1 = nI (6 * j + 1) by rw [nL6, nL1, pk_mul, nI_add], rdA_nI (f := comes) (n := 7) (j := j) (by omega) (by omega), rdA_nI (f := st) (n := 470) (j := 6 * j + 1) (by omega) (by omega), wrA_nI (f := comes) (n := 7) (j := j) (by omega) (by omega), wrA_nI (f := st) (n := 470) (j := 6 * j + 1) (by omega) (by omega), e1]
      exact ⟨(comes j, upd comes j (nI k)), (comes j, upd st (6 * j + 1) (nI k)), rfl, rfl, rfl, hr, fun k hk => upd_n (by omega)⟩
    · simp only [eq_false f, if_false, i00, if_true]
      have hR' := hR
      rw [hR.ppl] at hR'
      by_cases h1 : t < 0
      · rw [if_pos h1]; exact ⟨_, _, rfl, rfl, rfl, hR', fun _ _ => rfl⟩
      · rw [if_neg h1, if_neg (fun h => f ⟨i32_nlt.mp h1, h⟩)]; exact ⟨_, _, rfl, rfl, rfl, hR', fun _ _ => rfl⟩
  · simp only [g1, i00, if_true]
    have hR' := hR
    rw [hR.ppl] at hR'
    exact ⟨_, _, rfl, rfl, rfl, hR', fun _ _ => rfl⟩
theorem offd {i j : Nat} (hi : i < 7) (hj : j < 7) (h : i ≠ j) {v : Int32} : (∃ a, 7 * i + j = 7 * a + a) → v = 0 := fun ⟨a, ha⟩ => by omega
theorem E_canT (v a b : Int32) : Twn_canBeDebt a b v (nI N) = some (if twoB N a b = 0 then 0 else if 0 ≤ v ∧ v ≤ 99 then 1 else 0) := by
  unfold Twn_canBeDebt
  rw [E_areTwoT]
  simp only [bindS]
  by_cases h : twoB N a b = 0
  · rw [if_pos h, if_pos h]
  · rw [if_neg h, if_neg h]
    by_cases h1 : v < 0
    · rw [if_pos h1, if_neg (fun h => i32_nle.mpr h1 h.1)]
    · rw [if_neg h1]
      by_cases h2 : 99 < v
      · rw [if_pos h2, if_neg (fun h => i32_nle.mpr h2 h.2)]
      · rw [if_neg h2, if_pos ⟨i32_nlt.mp h1, i32_nlt.mp h2⟩]
theorem E_debtsM (hR : RT N people law counters kind father comes wants cost coins debts st 0) (a b v : Int32) : (¬ (¬ twoB N a b = 0 ∧ 0 ≤ v ∧ v ≤ 99) ∧ Mod_debts a b v st = some (-1, st)) ∨ (∃ i j k, i < N ∧ j < N ∧ i ≠ j ∧ k ≤ 99 ∧ a = nI i ∧ b = nI j ∧ v = nI k ∧ twoB N a b = 1 ∧ Mod_debts a b v st = some (debts (7 * i + j), upd st (42 + (7 * i + j)) v)) := by
  have hN := hR.N7
  unfold Mod_debts Mod_debtAt
  rw [E_areTwoM hN hR.many, E_in32c v (lo := 0) (hi := 99) (a := 0) (b := 99) rfl rfl]
  simp only [bindS]
  rcases twoB_cases hN a b with ⟨g1, i, j, hi, hj, hij, rfl, rfl⟩ | g1
  · simp only [g1, i10, if_false]
    rcases rng_cases (t := v) (hi := 99) (n := 99) rfl (by omega) with ⟨f1, f2, k, hk, rfl⟩ | f
    · right
      refine ⟨i, j, k, hi, hj, hij, hk, rfl, rfl, rfl, trivial, ?_⟩
      simp only [eq_true (show 0 ≤ nI k ∧ nI k ≤ 99 from ⟨f1, f2⟩), if_true, i10, if_false]
      rw [ix_debt, rdA_nI (by omega) (by omega), wrA_nI (by omega) (by omega), rd_debt hR (by omega) (by omega), Nat.add_assoc]
    · left
      refine ⟨fun h => f h.2, ?_⟩
      simp only [eq_false f, if_false, i00, if_true]
  · left
    refine ⟨fun h => h.1 g1, ?_⟩
    simp only [g1, i00, if_true]
theorem RT.setDebt0 (hR : RT N people law counters kind father comes wants cost coins debts st 0) {i j : Nat} (hi : i < 7) (hj : j < 7) (hij : i ≠ j) (v : Int32) : RT N people law counters kind father comes wants cost coins (upd debts (7 * i + j) v) (upd st (42 + (7 * i + j)) v) 0 := by
  have := hR.setD (k := 7 * i + j) (by omega) v (offd hi hj hij)
  rw [Nat.zero_add] at this
  exact this
theorem TOK.setD (h : TOK N B coins debts) {k d : Nat} (hk : k < 49) (hd : d ≤ 999) : TOK N B coins (upd debts k (nI d)) := ⟨h.1, fun m hm => by
  by_cases e : m = k
  · subst e; exact ⟨d, hd, upd_s⟩
  · rw [upd_n e]; exact h.2 m hm⟩
theorem P_debt (hR : RT N people law counters kind father comes wants cost coins debts st 0) (hT : TOK N B coins debts) (a b v : Int32) : ∃ o1 o2, Let_debt a b v people debts = some o1 ∧ Mod_debt a b v st = some o2 ∧ o1.1 = o2.1 ∧ RT N people law counters kind father comes wants cost coins o1.2 o2.2 0 ∧ TOK N B coins o1.2 ∧ frI st o2.2 := by
  have hN := hR.N7
  unfold Let_debt Mod_debt
  rw [hR.ppl, E_canT]
  have hR' := hR
  rw [hR.ppl] at hR'
  rcases E_debtsM hR a b v with ⟨hno, e⟩ | ⟨i, j, k, hi, hj, hij, hk, rfl, rfl, rfl, ht, e⟩
  · rw [e]
    have hz : (if twoB N a b = 0 then (0 : Int32) else if 0 ≤ v ∧ v ≤ 99 then 1 else 0) = 0 := by
      by_cases h : twoB N a b = 0
      · rw [if_pos h]
      · rw [if_neg h, if_neg (fun hh => hno ⟨h, hh⟩)]
    rw [hz]
    simp only [bindS, i00, if_true]
    exact ⟨_, _, rfl, rfl, rfl, hR', hT, fun _ _ => rfl⟩
  · have hz : (if twoB N (nI i) (nI j) = 0 then (0 : Int32) else if 0 ≤ nI k ∧ nI k ≤ 99 then 1 else 0) = 1 := by
      rw [if_neg (by rw [ht]; decide), if_pos ⟨(nI_0le (by omega)).mpr trivial, nI_le (b := 99) hk (by omega)⟩]
    rw [hz, e]
    simp only [bindS, i10, if_false]
    rw [E_owed (by omega) (by omega)]
    simp only [bindS]
    rw [E_setDebt (by omega) (by omega)]
    simp only [bindS]
    exact ⟨_, _, rfl, rfl, rfl, hR'.setDebt0 (by omega) (by omega) hij _, hT.setD (by omega) (by omega), fun k hk => upd_n (by omega)⟩
end EASY
