/-! pay, lend, sell -/
section COINS
variable {N B q : Nat} {people law counters : Int32} {kind father comes wants cost coins debts st : Nat → Int32}
theorem TOK.give (h : TOK N B coins debts) {i j c d : Nat} (hij : i ≠ j) (hj : j < N) (hc : coins i = nI c) (hcB : c ≤ B) (hd : d ≤ c) (hd9 : d ≤ 999) : TOK N (B + 1000) (giveC coins i j (nI d)) debts := by
  refine ⟨fun p hp => ?_, h.2⟩
  unfold giveC
  by_cases e : p = j
  · subst e
    rw [upd_s, upd_n (fun hh => hij hh.symm)]
    obtain ⟨cj, g1, g2⟩ := h.1 p hp
    exact ⟨cj + d, by omega, by rw [g2, nI_add]⟩
  · rw [upd_n e]
    by_cases e2 : p = i
    · subst e2
      rw [upd_s, hc, pk_sub hd]
      exact ⟨c - d, by omega, rfl⟩
    · rw [upd_n e2]
      obtain ⟨cp, g1, g2⟩ := h.1 p hp
      exact ⟨cp, by omega, g2⟩
theorem P_pay (hR : RT N people law counters kind father comes wants cost coins debts st 0) (hT : TOK N B coins debts) (hB : B < 2 ^ 30) (a b : Int32) : ∃ o1 o2, Let_pay a b people coins debts = some o1 ∧ Mod_pay a b st = some o2 ∧ o1.1 = o2.1 ∧ RT N people law counters kind father comes wants cost o1.2.1 o1.2.2 o2.2 0 ∧ TOK N (B + 1000) o1.2.1 o1.2.2 ∧ frI st o2.2 := by
  have hN := hR.N7
  have hp := hR.ppl
  subst hp
  unfold Let_pay Mod_pay Mod_debtAt
  rw [E_areTwoT, E_areTwoM hN hR.many]
  simp only [bindS]
  rcases twoB_cases hN a b with ⟨g1, i, j, hi, hj, hij, rfl, rfl⟩ | g1
  · simp only [g1, i10, if_false]
    obtain ⟨c, hcB, hc⟩ := hT.1 i hi
    obtain ⟨d, hd9, hd⟩ := hT.2 (7 * i + j) (by omega)
    have e4 := (hR.cel i hi).2.2.2.2
    rw [Nat.zero_add] at e4
    have sm : ∀ z, z < 470 → rdA st 470 (nI z) = fun k => (k (st z) : Option (Int32 × (Nat → Int32))) := fun z hz => by funext k; exact rdA_nI hz (by omega)
    rw [E_owed (by omega) (by omega), ix_debt, rdA_nI (by omega) (by omega), rd_debt hR (by omega) (by omega), hd]
    simp only [bindS]
    rw [rdA_nI (by omega) (by omega), hc]
    by_cases h0 : d = 0
    · subst h0
      rw [if_pos (nI_le (by omega) (by omega)), if_pos (show nI 0 = (0 : Int32) from rfl), if_pos (show nI 0 = (0 : Int32) from rfl)]
      exact ⟨_, _, rfl, rfl, rfl, hR, hT.mono (by omega), fun _ _ => rfl⟩
    · have hn0 : ¬ nI d = 0 := nI_ne0 (by omega) (by omega)
      rw [if_neg hn0, if_neg hn0, show 6 * nI i + 4 = nI (6 * i + 4) by rw [nL6, nL4, pk_mul, nI_add], rdA_nI (by omega) (by omega), e4, hc]
      by_cases hdc : d ≤ c
      · rw [if_pos (nI_le hdc (by omega)), if_pos (nI_le hdc (by omega)), E_payOff (by omega) (by omega)]
        have eP := E_paysAll (q := 0) (st := st) (a := i) (b := j) (by omega) (by omega) (by omega)
        rw [show nI 0 = (0 : Int32) from rfl] at eP
        rw [eP]
        simp only [bindS]
        have hr := hR.pay hi hj
        refine ⟨_, _, rfl, rfl, ?_, hr, ?_, fun k hk => payM_out (by omega) (by omega) (by omega)⟩
        · show debts (7 * i + j) = st (0 + (42 + 7 * i + j))
          rw [Nat.zero_add, rd_debt hR (by omega) (by omega)]
        · show TOK N (B + 1000) (payC coins debts i j) (upd debts (7 * i + j) 0)
          rw [payC_give, hd]
          exact (hT.give hij hj hc hcB hdc hd9).setD (d := 0) (by omega) (by omega)
      · rw [if_neg (nI_ge (by omega) (by omega)), if_neg (nI_ge (by omega) (by omega))]
        exact ⟨_, _, rfl, rfl, rfl, hR, hT.mono (by omega), fun _ _ => rfl⟩
  · simp only [g1, i00, if_true]
    exact ⟨_, _, rfl, rfl, rfl, hR, hT.mono (by omega), fun _ _ => rfl⟩
theorem E_lendC {i j : Nat} (hi : i < 7) (hj : j < 7) (v : Int32) : Twn_lendCoins (nI i) (nI j) v coins debts = some (giveC coins i j v, upd debts (7 * j + i) (debts (7 * j + i) + v)) := by
  unfold Twn_lendCoins giveC
  rw [rdA_nI (by omega) (by omega), wrA_nI (by omega) (by omega), rdA_nI (by omega) (by omega), wrA_nI (by omega) (by omega), E_owed (by omega) (by omega)]
  simp only [bindS]
  rw [E_setDebt (by omega) (by omega)]
  simp only [bindS]
theorem P_lend (hR : RT N people law counters kind father comes wants cost coins debts st 0) (hT : TOK N B coins debts) (hB : B < 2 ^ 30) (a b v : Int32) : ∃ o1 o2, Let_lend a b v people coins debts = some o1 ∧ Mod_lend a b v st = some o2 ∧ o1.1 = o2.1 ∧ RT N people law counters kind father comes wants cost o1.2.1 o1.2.2 o2.2 0 ∧ TOK N (B + 1000) o1.2.1 o1.2.2 ∧ frI st o2.2 := by
  have hN := hR.N7
  have hp := hR.ppl
  subst hp
  unfold Let_lend Mod_lend Mod_debtAt
  rw [E_areTwoT, E_areTwoM hN hR.many, E_in32c v (lo := 1) (hi := 50) (a := 1) (b := 50) rfl rfl]
  simp only [bindS]
  rcases twoB_cases hN a b with ⟨g1, i, j, hi, hj, hij, rfl, rfl⟩ | g1
  · simp only [g1, i10, if_false]
    by_cases h1 : v < 1
    · simp only [eq_false (show ¬ (1 ≤ v ∧ v ≤ 50) from fun h => i32_nle.mpr h1 h.1), if_false, i00, if_true]
      simp only [eq_true h1, if_true]
      exact ⟨_, _, rfl, rfl, rfl, hR, hT.mono (by omega), fun _ _ => rfl⟩
    · by_cases h2 : v ≤ 50
      · simp only [eq_true (show 1 ≤ v ∧ v ≤ 50 from ⟨i32_nlt.mp h1, h2⟩), i10, if_true, if_false]
        simp only [eq_false h1, if_false, eq_true h2, if_true]
        obtain ⟨w, hw, rfl⟩ : ∃ w, w ≤ 50 ∧ v = nI w := by
          have g : (0 : Int32) ≤ v := by
            have := i32_nlt.mp h1
            rw [t32_le] at this ⊢
            have e1 : (1 : Int32).toInt = 1 := rfl
            have e0 : (0 : Int32).toInt = 0 := rfl
            omega
          rcases rng_cases (t := v) (hi := 50) (n := 50) rfl (by omega) with ⟨-, -, k, hk, rfl⟩ | f
          · exact ⟨k, hk, rfl⟩
          · exact absurd ⟨g, h2⟩ f
        obtain ⟨c, hcB, hc⟩ := hT.1 i hi
        obtain ⟨d, hd9, hd⟩ := hT.2 (7 * j + i) (by omega)
        have e4 := (hR.cel i hi).2.2.2.2
        rw [Nat.zero_add] at e4
        rw [rdA_nI (by omega) (by omega), show 6 * nI i + 4 = nI (6 * i + 4) by rw [nL6, nL4, pk_mul, nI_add], rdA_nI (by omega) (by omega), e4, hc, E_owed (by omega) (by omega), ix_debt, rdA_nI (by omega) (by omega), rd_debt hR (by omega) (by omega)]
        simp only [bindS]
        by_cases hwc : w ≤ c
        · rw [if_pos (nI_le hwc (by omega)), if_pos (nI_le hwc (by omega)), hd, nI_add]
          by_cases h9 : d + w ≤ 999
          · rw [if_pos (show nI (d + w) ≤ 999 from nI_le (b := 999) h9 (by omega)), if_pos (show nI (d + w) ≤ 999 from nI_le (b := 999) h9 (by omega)), E_lendC (by omega) (by omega)]
            have eG := E_gives (q := 0) (st := st) (a := i) (b := j) (by omega) (by omega) (by omega) (nI w)
            rw [show nI 0 = (0 : Int32) from rfl] at eG
            rw [eG]
            simp only [bindS]
            rw [E_owed (by omega) (by omega)]
            simp only [bindS]
            have eo : giveM st 0 i j (nI w) (42 + 7 * j + i) = nI d := by rw [giveM_out (by omega) (by omega), rd_debt hR (by omega) (by omega), hd]
            rw [rdA_nI (by omega) (by omega), wrA_nI (by omega) (by omega), rdA_nI (by omega) (by omega), upd_s, eo, nI_add]
            have hr := (hR.give hi hj (nI w)).setD (k := 7 * j + i) (by omega) (nI (d + w)) (offd (by omega) (by omega) (fun h => hij h.symm))
            rw [show 0 + 42 + (7 * j + i) = 42 + 7 * j + i by omega] at hr
            refine ⟨_, _, rfl, rfl, ?_, ?_, ?_, fun k hk => ?_⟩
            · show debts (7 * j + i) + nI w = upd (giveM st 0 i j (nI w)) (42 + 7 * j + i) (nI (d + w)) (42 + 7 * j + i)
              rw [upd_s, hd, nI_add]
            · show RT N (nI N) law counters kind father comes wants cost (giveC coins i j (nI w)) (upd debts (7 * j + i) (debts (7 * j + i) + nI w)) (upd (giveM st 0 i j (nI w)) (42 + 7 * j + i) (nI (d + w))) 0
              rw [hd, nI_add]
              exact hr
            · show TOK N (B + 1000) (giveC coins i j (nI w)) (upd debts (7 * j + i) (debts (7 * j + i) + nI w))
              rw [hd, nI_add]
              exact (hT.give hij hj hc hcB hwc (by omega)).setD (by omega) h9
            · show upd (giveM st 0 i j (nI w)) (42 + 7 * j + i) (nI (d + w)) k = st k
              rw [upd_n (by omega), giveM_out (by omega) (by omega)]
          · have hn : ¬ nI (d + w) ≤ 999 := nI_ge (b := d + w) (a := 999) (by omega) (by omega)
            rw [if_neg hn, if_neg hn]
            exact ⟨_, _, rfl, rfl, rfl, hR, hT.mono (by omega), fun _ _ => rfl⟩
        · rw [if_neg (nI_ge (by omega) (by omega)), if_neg (nI_ge (by omega) (by omega))]
          exact ⟨_, _, rfl, rfl, rfl, hR, hT.mono (by omega), fun _ _ => rfl⟩
      · simp only [eq_false (show ¬ (1 ≤ v ∧ v ≤ 50) from fun h => h2 h.2), i00, if_true, if_false]
        simp only [eq_false h1, if_false, eq_false h2]
        exact ⟨_, _, rfl, rfl, rfl, hR, hT.mono (by omega), fun _ _ => rfl⟩
  · simp only [g1, i00, if_true]
    exact ⟨_, _, rfl, rfl, rfl, hR, hT.mono (by omega), fun _ _ => rfl⟩
theorem P_sell (hR : RT N people law counters kind father comes wants cost coins debts st 0) (hT : TOK N B coins debts) (a b c : Int32) : ∃ o1 o2, Let_sell a b c people debts = some o1 ∧ Mod_sell a b c st = some o2 ∧ o1.1 = o2.1 ∧ RT N people law counters kind father comes wants cost coins o1.2 o2.2 0 ∧ TOK N B coins o1.2 ∧ frI st o2.2 := by
  have hN := hR.N7
  have hp := hR.ppl
  subst hp
  unfold Let_sell Mod_sell Mod_debtAt
  rw [E_areTwoT, E_areTwoM hN hR.many, E_isOneT, E_isOneM hN hR.many]
  simp only [bindS, jn]
  rcases twoB_cases hN a b with ⟨g1, i, j, hi, hj, hij, rfl, rfl⟩ | g1
  · simp only [g1, i10, if_false]
    rcases oneB_cases hN c with ⟨g2, k, hk, rfl⟩ | g2
    · simp only [g2, i10, if_false]
      by_cases hjk : j = k
      · subst hjk
        simp only [if_true]
        exact ⟨_, _, rfl, rfl, rfl, hR, hT, fun _ _ => rfl⟩
      · have n1 : ¬ nI j = nI k := fun hh => hjk ((nI_eq (by omega) (by omega)).mp hh)
        have n2 : ¬ nI k = nI j := fun hh => n1 hh.symm
        obtain ⟨d, hd9, hd⟩ := hT.2 (7 * i + j) (by omega)
        obtain ⟨e, he9, he⟩ := hT.2 (7 * i + k) (by omega)
        rw [if_neg n1, if_neg n2, E_owed (by omega) (by omega), ix_debt, rdA_nI (by omega) (by omega), rd_debt hR (by omega) (by omega), hd]
        simp only [bindS]
        by_cases h0 : nI d = 0
        · rw [if_pos h0, if_pos h0]
          exact ⟨_, _, rfl, rfl, rfl, hR, hT, fun _ _ => rfl⟩
        · rw [if_neg h0, if_neg h0]
          have fr : ∀ x y : Int32, frI st (upd (upd st (42 + 7 * i + j) x) (42 + 7 * i + k) y) := fun x y m hm => by rw [upd_n (by omega), upd_n (by omega)]
          have hr1 := hR.setDebt0 (i := i) (j := j) (by omega) (by omega) hij 0
          rw [show 42 + (7 * i + j) = 42 + 7 * i + j by omega] at hr1
          by_cases hki : k = i
          · subst hki
            have hz : debts (7 * k + k) = 0 := hR.dia k (by omega)
            rw [if_pos rfl, if_pos rfl, if_pos (by decide), E_setDebt (by omega) (by omega)]
            simp only [bindS]
            rw [E_setDebt (by omega) (by omega), wrA_nI (by omega) (by omega)]
            simp only [bindS]
            rw [ix_debt, rdA_nI (by omega) (by omega), upd_n (by omega), rd_debt hR (by omega) (by omega), hz]
            simp only [if_true]
            rw [wrA_nI (by omega) (by omega), i32_add0]
            have hr2 := hr1.setD (k := 7 * k + k) (by omega) 0 (fun _ => rfl)
            rw [show 0 + 42 + (7 * k + k) = 42 + 7 * k + k by omega] at hr2
            exact ⟨_, _, rfl, rfl, rfl, hr2, (hT.setD (k := 7 * k + j) (d := 0) (by omega) (by omega)).setD (k := 7 * k + k) (d := 0) (by omega) (by omega), fr _ _⟩
          · have n3 : ¬ nI k = nI i := fun hh => hki ((nI_eq (by omega) (by omega)).mp hh)
            rw [if_neg n3, if_neg n3, E_owed (by omega) (by omega), ix_debt, rdA_nI (by omega) (by omega), rd_debt hR (by omega) (by omega), he]
            simp only [bindS, nI_add]
            by_cases h9 : e + d ≤ 999
            · rw [if_pos (show nI (e + d) ≤ 999 from nI_le (b := 999) h9 (by omega)), if_pos (show nI (e + d) ≤ 999 from nI_le (b := 999) h9 (by omega)), E_setDebt (by omega) (by omega), wrA_nI (by omega) (by omega)]
              simp only [bindS]
              rw [E_setDebt (by omega) (by omega), rdA_nI (by omega) (by omega), upd_n (by omega), rd_debt hR (by omega) (by omega), he]
              simp only [bindS, eq_false n3, if_false, nI_add]
              rw [wrA_nI (by omega) (by omega), rdA_nI (by omega) (by omega), upd_s]
              have hr2 := hr1.setD (k := 7 * i + k) (by omega) (nI (e + d)) (offd (by omega) (by omega) (fun h => hki h.symm))
              rw [show 0 + 42 + (7 * i + k) = 42 + 7 * i + k by omega] at hr2
              exact ⟨_, _, rfl, rfl, rfl, hr2, (hT.setD (k := 7 * i + j) (d := 0) (by omega) (by omega)).setD (k := 7 * i + k) (d := e + d) (by omega) h9, fr _ _⟩
            · have hn : ¬ nI (e + d) ≤ 999 := nI_ge (b := e + d) (a := 999) (by omega) (by omega)
              rw [if_neg hn, if_neg hn]
              exact ⟨_, _, rfl, rfl, rfl, hR, hT, fun _ _ => rfl⟩
    · simp only [g2, i00, if_true]
      exact ⟨_, _, rfl, rfl, rfl, hR, hT, fun _ _ => rfl⟩
  · simp only [g1, i00, if_true]
    exact ⟨_, _, rfl, rfl, rfl, hR, hT, fun _ _ => rfl⟩
end COINS
