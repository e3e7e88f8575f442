/-! the run: those minutes alone in which something happens, beside every minute -/
def RI (N : Nat) (law counters : Int32) (kind father comes wants cost : Nat → Int32) (cm : Nat → Nat) (st0 : Nat → Int32) (t p K : Nat) (coins debts : Nat → Int32) (L : Nat) (ones served free st queue busy servedIn : Nat → Int32) : Prop :=
  RT N (nI N) law counters kind father comes wants cost coins debts st 282 ∧
  K + L = arrv cm t p N ∧
  (∀ i, i < L → queue i = ones i) ∧ (∀ i, i < L → ∃ j, j < N ∧ arrd cm t p j ∧ ones i = nI j) ∧
  (∀ c, c < 2 → busy c = free c ∧ ∃ b, b ≤ 200 ∧ free c = nI b) ∧
  (∃ b, free 0 = nI b ∧ b ≤ 60 + 9 * K) ∧
  (∀ j, j < N → arrd cm t p j → (∃ i, i < L ∧ ones i = nI j) ∨ (∃ v, v ≤ 130 ∧ cm j ≤ v ∧ served j = nI v ∧ servedIn j = nI v)) ∧
  (∀ k, (k < 282 ∨ 376 ≤ k) → st k = st0 k)
/-- counter c is free only behind t -/
def aft (free : Nat → Int32) (c t : Nat) : Prop := ∃ b, b ≤ 200 ∧ free c = nI b ∧ t < b
theorem aft.upd {free : Nat → Int32} {c t k : Nat} {x : Int32} (h : aft free c t) (hk : c ≠ k) : aft (upd free k x) c t := by
  obtain ⟨b, g1, g2, g3⟩ := h
  exact ⟨b, g1, by rw [upd_n hk]; exact g2, g3⟩
section RUN
variable {N : Nat} {law counters : Int32} {kind father comes wants cost : Nat → Int32} {cm : Nat → Nat} {st0 : Nat → Int32}
theorem letIn_1 (hcm : ∀ j, j < N → comes j = nI (cm j) ∧ cm j ≤ 60) {t p K L : Nat} {coins debts ones served free st queue busy servedIn : Nat → Int32} (paid : Int32) (hp : p < N) (hc : cm p = t) (h : RI N law counters kind father comes wants cost cm st0 t p K coins debts L ones served free st queue busy servedIn) :
    ∃ (dp : Int32) (coins' debts' ones' st' queue' : Nat → Int32), Row_letIn (nI p) 1 (nI L) ones law kind father coins debts = some (dp, nI (L + 1), ones', coins', debts') ∧ Mod_comesTo 282 (nI p) 1 (nI L) paid st queue = some (nI (L + 1), paid + dp, st', queue') ∧ RI N law counters kind father comes wants cost cm st0 t (p + 1) K coins' debts' (L + 1) ones' served free st' queue' busy servedIn := by
  obtain ⟨hR, hK, hqo, hon, hbu, hf0, hcov, hfr⟩ := h
  have hN := hR.N7
  have ha1 : arrv cm t (p + 1) N = arrv cm t p N + 1 := by rw [arrv_s, if_pos ⟨hp, hc⟩]
  have ha2 := arrv_le cm t (p + 1) N
  have hL : L < 7 := by omega
  have H := letIn_sim (q := 282) (by omega) hp 1 paid L hL (fun x4 x5 ones coins debts => wrA ones 7 x5 (nI p) (fun g => some (x4, nI (L + 1), g, coins, debts))) (fun payed st queue => some (nI (L + 1), payed, st, queue)) L FU FU 0 ones coins debts st (upd queue L (nI p)) (Nat.le_refl L) (by unfold FU; omega) (by unfold FU; omega) hR (fun k hk => by
      obtain ⟨j, h1, -, h2⟩ := hon k hk
      exact ⟨j, h1, h2⟩) (fun k hk hkL => by rw [upd_n hkL]; exact hqo k (by omega)) upd_s
  obtain ⟨i', x4', ones', coins', debts', st', queue', r1, r2, r3, r4, r5, r6, u1, u2, u3, r8, -⟩ := H
  rw [i32_add0] at r2
  refine ⟨x4', coins', debts', upd ones' i' (nI p), st', queue', ?_, ?_, r4, by omega, ?_, ?_, hbu, hf0, ?_, fun k hk => by rw [r8 k (by omega)]; exact hfr k hk⟩
  · unfold Row_letIn
    rw [if_pos (show nI L < 7 from nI_lt (b := 7) (by omega) (by omega))]
    simp only [nmI, nI_a1]
    rw [r1, wrA_nI (by omega) (by omega)]
  · unfold Mod_comesTo
    rw [wrA_nI (by omega) (by omega), nL282]
    simp only [nmI, nI_a1]
    rw [r2]
  · intro i hi
    by_cases h1 : i = i'
    · subst h1; rw [upd_s, r6]
    · rw [upd_n h1]; exact r5 i (by omega) h1
  · intro i hi
    by_cases h1 : i = i'
    · subst h1; exact ⟨p, hp, Or.inr ⟨hc, by omega⟩, upd_s⟩
    · rw [upd_n h1]
      by_cases h2 : i < i'
      · rw [u1 i h2]
        obtain ⟨j, g1, g2, g3⟩ := hon i (by omega)
        exact ⟨j, g1, by unfold arrd at g2 ⊢; omega, g3⟩
      · rw [u2 i (by omega) (by omega)]
        obtain ⟨j, g1, g2, g3⟩ := hon (i - 1) (by omega)
        exact ⟨j, g1, by unfold arrd at g2 ⊢; omega, g3⟩
  · intro j hj hja
    by_cases hjp : j = p
    · subst hjp
      exact Or.inl ⟨i', by omega, upd_s⟩
    · rcases hcov j hj (by unfold arrd at hja ⊢; omega) with ⟨i, hi, he⟩ | hv
      · left
        by_cases h2 : i < i'
        · exact ⟨i, by omega, by rw [upd_n (by omega), u1 i h2]; exact he⟩
        · exact ⟨i + 1, by omega, by rw [upd_n (by omega), u2 (i + 1) (by omega) (by omega), Nat.add_sub_cancel]; exact he⟩
      · exact Or.inr hv
theorem arrive_sim (hcm : ∀ j, j < N → comes j = nI (cm j) ∧ cm j ≤ 60) {t K : Nat} {served free busy servedIn : Nat → Int32} (ht : t ≤ 130)
    (K1 : Int32 → (Nat → Int32) → (Nat → Int32) → Int32 → (Nat → Int32) → Option (Int32 × (Nat → Int32) × (Nat → Int32) × Int32 × (Nat → Int32) × (Nat → Int32) × (Nat → Int32)))
    (K2 : Int32 → Int32 → (Nat → Int32) → (Nat → Int32) → Option (Int32 × Int32 × (Nat → Int32) × (Nat → Int32) × (Nat → Int32) × (Nat → Int32))) :
    ∀ (d p n1 n2 L : Nat) (paid : Int32) (coins debts ones st queue : Nat → Int32), p + d = N → d < n1 → d < n2 → RI N law counters kind father comes wants cost cm st0 t p K coins debts L ones served free st queue busy servedIn →
    ∃ (L' : Nat) (paid' : Int32) (coins' debts' ones' st' queue' : Nat → Int32), Run_go_L18 (nI N) law kind father comes (nI t) K1 n1 (nI p) paid coins debts (nI L) ones = K1 paid' coins' debts' (nI L') ones' ∧ Mod_runsTo_L55 (nI t) K2 n2 (nI p) (nI L) paid st queue = K2 (nI L') paid' st' queue' ∧ RI N law counters kind father comes wants cost cm st0 t N K coins' debts' L' ones' served free st' queue' busy servedIn := by
  intro d
  induction d with
  | zero =>
    intro p n1 n2 L paid coins debts ones st queue hp h1 h2 h
    obtain ⟨n1, rfl⟩ : ∃ k, n1 = k + 1 := ⟨n1 - 1, by omega⟩
    obtain ⟨n2, rfl⟩ : ∃ k, n2 = k + 1 := ⟨n2 - 1, by omega⟩
    obtain rfl : p = N := by omega
    have hN := h.1.N7
    refine ⟨L, paid, coins, debts, ones, st, queue, ?_, ?_, h⟩
    · rw [Run_go_L18, if_pos (nI_le (Nat.le_refl _) (by omega))]
    · rw [Mod_runsTo_L55, nL375, rdA_nI (by omega) (by omega), show st 375 = nI p from h.1.many, if_pos (nI_le (Nat.le_refl _) (by omega))]
  | succ d ih =>
    intro p n1 n2 L paid coins debts ones st queue hp h1 h2 h
    obtain ⟨n1, rfl⟩ : ∃ k, n1 = k + 1 := ⟨n1 - 1, by omega⟩
    obtain ⟨n2, rfl⟩ : ∃ k, n2 = k + 1 := ⟨n2 - 1, by omega⟩
    have hN := h.1.N7
    have hpN : p < N := by omega
    obtain ⟨hc1, hc2⟩ := hcm p hpN
    have hst : st (282 + 6 * p + 1) = nI (cm p) := by rw [(h.1.cel p hpN).2.1, hc1]
    rw [Run_go_L18, if_neg (nI_ge hpN (by omega)), rdA_nI (by omega) (by omega), hc1]
    rw [Mod_runsTo_L55, nL375, rdA_nI (by omega) (by omega), show st 375 = nI N from h.1.many, if_neg (nI_ge hpN (by omega))]
    rw [show (282 + 6 * nI p) + 1 = nI (282 + 6 * p + 1) by rw [nL282, nL6, nL1, pk_mul, nI_add, nI_add], rdA_nI (by omega) (by omega), hst]
    by_cases hct : cm p = t
    · rw [if_pos (by rw [hct]), if_pos (by rw [hct])]
      obtain ⟨dp, coins', debts', ones', st', queue', e1, e2, hI⟩ := letIn_1 hcm paid hpN hct h
      rw [e1, e2]
      simp only [Option.bind_some, nmI, nI_a1]
      exact ih (p + 1) n1 n2 (L + 1) (paid + dp) coins' debts' ones' st' queue' (by omega) (by omega) (by omega) hI
    · have hne : ¬ nI (cm p) = nI t := fun hh => hct ((nI_eq (by omega) (by omega)).mp hh)
      rw [if_neg hne, if_neg hne]
      simp only [nmI, nI_a1]
      refine ih (p + 1) n1 n2 L paid coins debts ones st queue (by omega) (by omega) (by omega) ?_
      obtain ⟨hR, hK, hqo, hon, hbu, hf0, hcov, hfr⟩ := h
      have e : ∀ j, arrd cm t (p + 1) j ↔ arrd cm t p j := fun j => by
        unfold arrd
        constructor
        · rintro (h | ⟨h, h'⟩)
          · exact Or.inl h
          · exact Or.inr ⟨h, by
              rcases Nat.lt_or_ge j p with q | q
              · exact q
              · exact absurd (show j = p by omega) (fun e => hct (by rw [← e]; exact h))⟩
        · omega
      refine ⟨hR, by rw [arrv_s, if_neg (fun hh => hct hh.2)]; exact hK, hqo, fun i hi => ?_, hbu, hf0, fun j hj ha => hcov j hj ((e j).mp ha), hfr⟩
      obtain ⟨j, g1, g2, g3⟩ := hon i hi
      exact ⟨j, g1, (e j).mpr g2, g3⟩
theorem take_sim (hcm : ∀ j, j < N → comes j = nI (cm j) ∧ cm j ≤ 60) {t c0 : Nat} {coins debts st : Nat → Int32} (ht : t ≤ 130) (hc0 : c0 < 2) (hctr : counters = nI (1 + c0)) (hst : st 374 = nI c0)
    (K1 : Int32 → (Nat → Int32) → (Nat → Int32) → (Nat → Int32) → Option (Int32 × (Nat → Int32) × (Nat → Int32) × (Nat → Int32)))
    (K2 : Int32 → (Nat → Int32) → (Nat → Int32) → (Nat → Int32) → Option (Int32 × Int32 × (Nat → Int32) × (Nat → Int32) × (Nat → Int32) × (Nat → Int32))) :
    ∀ (d c n1 n2 L K : Nat) (ones served free queue busy servedIn : Nat → Int32), c + d = 1 + c0 → d < n1 → d < n2 → RI N law counters kind father comes wants cost cm st0 t N K coins debts L ones served free st queue busy servedIn → (L = 0 ∨ ∀ c', c' < c → aft free c' t) → (c = 0 → L = 0 ∨ t ≤ 60 + 9 * K) →
    ∃ (L' K' : Nat) (ones' served' free' queue' busy' servedIn' : Nat → Int32), Run_takeAt_L2 counters wants (nI t) K1 n1 (nI c) (nI L) ones served free = K1 (nI L') ones' served' free' ∧ Mod_runsTo_L103 (nI t) st K2 n2 (nI c) (nI L) queue busy servedIn = K2 (nI L') queue' busy' servedIn' ∧ RI N law counters kind father comes wants cost cm st0 t N K' coins debts L' ones' served' free' st queue' busy' servedIn' ∧ (L' = 0 ∨ ∀ c', c' < 1 + c0 → aft free' c' t) ∧ (K < K' ∨ (K' = K ∧ L' = L ∧ free' = free)) := by
  intro d
  induction d with
  | zero =>
    intro c n1 n2 L K ones served free queue busy servedIn hc h1 h2 h hz _
    obtain ⟨n1, rfl⟩ : ∃ k, n1 = k + 1 := ⟨n1 - 1, by omega⟩
    obtain ⟨n2, rfl⟩ : ∃ k, n2 = k + 1 := ⟨n2 - 1, by omega⟩
    obtain rfl : c = 1 + c0 := by omega
    refine ⟨L, K, ones, served, free, queue, busy, servedIn, ?_, ?_, h, hz, Or.inr ⟨rfl, rfl, rfl⟩⟩
    · rw [Run_takeAt_L2, hctr, if_pos (nI_le (Nat.le_refl _) (by omega))]
    · rw [Mod_runsTo_L103, nL374, rdA_nI (by omega) (by omega), hst, if_pos (nI_lt (by omega) (by omega))]
  | succ d ih =>
    intro c n1 n2 L K ones served free queue busy servedIn hc h1 h2 h hz hz2
    obtain ⟨n1, rfl⟩ : ∃ k, n1 = k + 1 := ⟨n1 - 1, by omega⟩
    obtain ⟨n2, rfl⟩ : ∃ k, n2 = k + 1 := ⟨n2 - 1, by omega⟩
    obtain ⟨hR, hK, hqo, hon, hbu, hf0, hcov, hfr⟩ := id h
    have hN := hR.N7
    have hLN := arrv_le cm t N N
    obtain ⟨hbc, b, hb, hfc⟩ := hbu c (by omega)
    rw [Run_takeAt_L2, hctr, if_neg (nI_ge (by omega) (by omega)), rdA_nI (by omega) (by omega), hfc]
    rw [Mod_runsTo_L103, nL374, rdA_nI (by omega) (by omega), hst, if_neg (show ¬ nI c0 < nI c from nI_nlt (by omega) (by omega)), rdA_nI (by omega) (by omega), hbc, hfc]
    rw [← hctr]
    by_cases hbt : t < b
    · rw [if_pos (nI_lt hbt (by omega)), if_pos (nI_lt hbt (by omega))]
      simp only [nmI, nI_a1]
      refine ih (c + 1) n1 n2 L K ones served free queue busy servedIn (by omega) (by omega) (by omega) h ?_ (fun hh => by omega)
      rcases hz with hz | hz
      · exact Or.inl hz
      · exact Or.inr (fun c' hc' => by
          by_cases e : c' = c
          · subst e; exact ⟨b, hb, hfc, hbt⟩
          · exact hz c' (by omega))
    · rw [if_neg (nI_nlt (by omega) (by omega)), if_neg (nI_nlt (by omega) (by omega))]
      rcases Nat.eq_zero_or_pos L with hL0 | hL0
      · subst hL0
        rw [if_pos (by decide), if_pos (by decide)]
        simp only [nmI, nI_a1]
        exact ih (c + 1) n1 n2 0 K ones served free queue busy servedIn (by omega) (by omega) (by omega) h (Or.inl rfl) (fun hh => by omega)
      · obtain ⟨L, rfl⟩ : ∃ k, L = k + 1 := ⟨L - 1, by omega⟩
        have hn0 : ¬ nI (L + 1) ≤ 0 := by rw [nI_le0 (by omega)]; omega
        rw [if_neg hn0, if_neg hn0, E_takeR (by omega), E_takeM (by omega)]
        obtain ⟨j, hj, hja, hje⟩ := hon 0 (by omega)
        obtain ⟨-, ⟨w, hw1, hw2, hwe⟩, -⟩ := hR.rng j hj
        have hq0 : queue 0 = nI j := by rw [hqo 0 (by omega), hje]
        have hwm : st (282 + 6 * j + 2) = nI w := by rw [(hR.cel j hj).2.2.1, hwe]
        simp only [Option.bind_some, nmI, nI_a1, hje, hq0]
        rw [wrA_nI (by omega) (by omega), rdA_nI (by omega) (by omega), hwe, nI_add, wrA_nI (by omega) (by omega)]
        rw [wrA_nI (by omega) (by omega), show (282 + 6 * nI j) + 2 = nI (282 + 6 * j + 2) by rw [nL282, nL6, nL2, pk_mul, nI_add, nI_add], rdA_nI (by omega) (by omega), hwm, nI_add, wrA_nI (by omega) (by omega)]
        have hcj := hcm j hj
        obtain ⟨L', K', ones', served', free', queue', busy', servedIn', e1, e2, e3, e4, e5⟩ := ih (c + 1) n1 n2 L (K + 1) (shf ones L) (upd served j (nI t)) (upd free c (nI (t + w))) (shf queue L) (upd busy c (nI (t + w))) (upd servedIn j (nI t)) (by omega) (by omega) (by omega) (by
          refine ⟨hR, by omega, fun i hi => ?_, fun i hi => ?_, fun c' hc' => ?_, ?_, fun j' hj' ha' => ?_, hfr⟩
          · simp only [shf, hi, if_true]
            exact hqo (i + 1) (by omega)
          · simp only [shf, hi, if_true]
            exact hon (i + 1) (by omega)
          · by_cases e : c' = c
            · subst e; exact ⟨by rw [upd_s, upd_s], t + w, by omega, upd_s⟩
            · rw [upd_n e, upd_n e]; exact hbu c' hc'
          · by_cases e : c = 0
            · subst e
              refine ⟨t + w, upd_s, ?_⟩
              rcases hz2 rfl with hh | hh
              · omega
              · omega
            · obtain ⟨b0, g1, g2⟩ := hf0
              exact ⟨b0, by rw [upd_n (by omega)]; exact g1, by omega⟩
          · by_cases e : j' = j
            · subst e
              exact Or.inr ⟨t, ht, by unfold arrd at ha'; omega, upd_s, upd_s⟩
            · rcases hcov j' hj' ha' with ⟨i, hi, he⟩ | ⟨v, g1, g2, g3, g4⟩
              · left
                have hi0 : i ≠ 0 := fun hh => by
                  subst hh
                  rw [hje] at he
                  exact e ((nI_eq (by omega) (by omega)).mp he).symm
                refine ⟨i - 1, by omega, ?_⟩
                simp only [shf, show i - 1 < L by omega, if_true, show i - 1 + 1 = i by omega]
                exact he
              · exact Or.inr ⟨v, g1, g2, by rw [upd_n e]; exact g3, by rw [upd_n e]; exact g4⟩) (by
          rcases Nat.eq_zero_or_pos L with hh | hh
          · exact Or.inl hh
          · rcases hz with hz | hz
            · omega
            · exact Or.inr (fun c' hc' => by
                by_cases e : c' = c
                · subst e; exact ⟨t + w, by omega, upd_s, by omega⟩
                · exact (hz c' (by omega)).upd e)) (fun hh => by omega)
        exact ⟨L', K', ones', served', free', queue', busy', servedIn', e1, e2, e3, e4, Or.inl (by omega)⟩
end RUN
