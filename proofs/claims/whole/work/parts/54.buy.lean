theorem dv7 : ∀ k, k < 49 → nI k / 7 = nI (k / 7) ∧ nI k - nI k / 7 * 7 = nI (k % 7) := by decide +kernel
theorem ix_coin (p : Nat) : 6 * nI p + 4 = nI (6 * p + 4) := by rw [nL6, nL4, pk_mul, nI_add]
theorem upd_if' {f : Nat → Int32} {k j : Nat} {x : Int32} (h : j ≠ k) : upd f k x j = f j := upd_n h
abbrev R19 := Int32 × Int32 × Int32 × Int32 × Int32 × Int32 × Int32 × Int32 × (Nat → Int32) × (Nat → Int32) × (Nat → Int32) × (Nat → Int32) × (Nat → Int32) × (Nat → Int32) × (Nat → Int32) × Int32 × (Nat → Int32) × (Nat → Int32) × (Nat → Int32)
abbrev K19 := Int32 → Int32 → Int32 → Int32 → Int32 → Int32 → Int32 → Int32 → (Nat → Int32) → (Nat → Int32) → (Nat → Int32) → (Nat → Int32) → (Nat → Int32) → (Nat → Int32) → (Nat → Int32) → Int32 → (Nat → Int32) → (Nat → Int32) → (Nat → Int32) → Option R19
abbrev K10 := Int32 → Int32 → Int32 → Int32 → Int32 → (Nat → Int32) → (Nat → Int32) → (Nat → Int32) → (Nat → Int32) → Option (Int32 × Int32 × Int32 × Int32 × Int32 × Int32 × (Nat → Int32) × (Nat → Int32) × (Nat → Int32) × (Nat → Int32))
section BUY
variable {N : Nat} {law counters : Int32} {kind father comes wants cost coins debts : Nat → Int32}
theorem buy_G {p a b : Nat} (hp : p < N) (ha : a < N) (hb : b < N) (hap : a ≠ p) (d e : Int32) (k1 k2 k3 k4 k5 k6 k7 st : Nat → Int32) (hR : RT N (nI N) law counters kind father comes wants cost coins debts st 0) :
    RT N (nI N) law counters (va_cpy kind k1 0 0 7) (va_cpy father k2 0 0 7) (va_cpy comes k3 0 0 7) (va_cpy wants k4 0 0 7) (va_cpy cost k5 0 0 7) (giveC (va_cpy coins k6 0 0 7) p b d) (upd (upd (va_cpy debts k7 0 0 49) (7 * a + b) 0) (7 * a + p) e) (upd (upd (giveM (cpp st 0 282 94) 282 p b d) (282 + (42 + 7 * a + b)) 0) (282 + (42 + 7 * a + p)) e) 282 ∧ (∀ k, k < 282 → upd (upd (giveM (cpp st 0 282 94) 282 p b d) (282 + (42 + 7 * a + b)) 0) (282 + (42 + 7 * a + p)) e k = st k) := by
  have hN := hR.N7
  constructor
  · have h1 := ((((hR.copied 282).load k1 k2 k3 k4 k5 k6 k7).give hp hb d).setD (k := 7 * a + b) (by omega) 0 (fun _ => rfl)).setD (k := 7 * a + p) (by omega) e (offd (by omega) (by omega) hap)
    rw [show 282 + (42 + 7 * a + b) = 282 + 42 + (7 * a + b) by omega, show 282 + (42 + 7 * a + p) = 282 + 42 + (7 * a + p) by omega]
    exact h1
  · intro k hk
    rw [upd_n (by omega), upd_n (by omega), giveM_out (by omega) (by omega), cpp_out (by omega)]
theorem buy_1 {st : Nat → Int32} (hR : RT N (nI N) law counters kind father comes wants cost coins debts st 0) {p a b n m : Nat} (hp : p < N) (ha : a < N) (hb : b < N) {f wt c wh bw bq bc : Int32} (hB : RBy (10 * a + b) f wt c wh bw bq bc) (r0 r1 r2 r3 r4 b0 b1 : Int32) (k1 k2 k3 k4 k5 k6 k7 ones served fr queue busy servedIn : Nat → Int32) (KL : K19) (KM : K10) :
    ∃ (f' wt' c' wh' bw' bq' bc' s0 s1 s2 s3 s4 d0 d1 : Int32) (j1 j2 j3 j4 j5 j6 j7 ones' served' fr' st' queue' busy' servedIn' : Nat → Int32),
      Adv_seekDebt_L22 (nI N) law counters kind father comes wants cost coins debts (nI p) (nI a) KL (n + 1) (nI b) f wt c wh r0 r1 r2 r3 k1 k2 k3 k4 k5 k6 k7 r4 ones served fr = Adv_seekDebt_L22 (nI N) law counters kind father comes wants cost coins debts (nI p) (nI a) KL n (nI (b + 1)) f' wt' c' wh' s0 s1 s2 s3 j1 j2 j3 j4 j5 j6 j7 s4 ones' served' fr' ∧
      Mod_buy_L43 (nI p) KM (m + 1) (nI (7 * a + b)) b0 b1 bw bq bc st queue busy servedIn = Mod_buy_L43 (nI p) KM m (nI (7 * a + b + 1)) d0 d1 bw' bq' bc' st' queue' busy' servedIn' ∧ RBy (10 * a + b + 1) f' wt' c' wh' bw' bq' bc' ∧ frm st st' := by
  have hN := hR.N7
  have hm : st 93 = nI N := hR.many
  obtain ⟨q1, q2⟩ := dv7 (7 * a + b) (by omega)
  rw [show (7 * a + b) / 7 = a by omega] at q1
  rw [show (7 * a + b) % 7 = b by omega, q1] at q2
  rw [Adv_seekDebt_L22, if_neg (nI_ge (by omega) (by omega)), E_owed (by omega) (by omega)]
  rw [Mod_buy_L43, E_manyM hm]
  simp only [bindS]
  rw [show 7 * nI N = nI (7 * N) by rw [nL7, pk_mul], if_neg (nI_ge (by omega) (by omega))]
  simp only [bindS, nmI, jn, q1, q2]
  rw [if_neg (nI_ge (by omega) (by omega))]
  have same : ∀ (x : Option R19) (y : Option (Int32 × Int32 × Int32 × Int32 × Int32 × Int32 × (Nat → Int32) × (Nat → Int32) × (Nat → Int32) × (Nat → Int32))),
      x = Adv_seekDebt_L22 (nI N) law counters kind father comes wants cost coins debts (nI p) (nI a) KL n (nI (b + 1)) f wt c wh r0 r1 r2 r3 k1 k2 k3 k4 k5 k6 k7 r4 ones served fr →
      y = Mod_buy_L43 (nI p) KM m (nI (7 * a + b + 1)) b0 b1 bw bq bc st queue busy servedIn →
      ∃ (f' wt' c' wh' bw' bq' bc' s0 s1 s2 s3 s4 d0 d1 : Int32) (j1 j2 j3 j4 j5 j6 j7 ones' served' fr' st' queue' busy' servedIn' : Nat → Int32),
      x = Adv_seekDebt_L22 (nI N) law counters kind father comes wants cost coins debts (nI p) (nI a) KL n (nI (b + 1)) f' wt' c' wh' s0 s1 s2 s3 j1 j2 j3 j4 j5 j6 j7 s4 ones' served' fr' ∧
      y = Mod_buy_L43 (nI p) KM m (nI (7 * a + b + 1)) d0 d1 bw' bq' bc' st' queue' busy' servedIn' ∧ RBy (10 * a + b + 1) f' wt' c' wh' bw' bq' bc' ∧ frm st st' := fun x y hx hy =>
    ⟨f, wt, c, wh, bw, bq, bc, r0, r1, r2, r3, r4, b0, b1, k1, k2, k3, k4, k5, k6, k7, ones, served, fr, st, queue, busy, servedIn, hx, hy, hB.mono (by omega), fun _ _ => rfl⟩
  by_cases hap : a = p
  · have e1 : nI a = nI p := by rw [hap]
    rw [if_pos e1]
    refine same _ _ (by simp only [i00, if_true, nI_a1]) ?_
    by_cases hab : nI a = nI b
    · rw [if_pos hab, nI_a1]
    · rw [if_neg hab, if_pos e1, nI_a1]
  · have e1 : ¬ nI a = nI p := fun hh => hap ((nI_eq (by omega) (by omega)).mp hh)
    rw [if_neg e1]
    by_cases hbp : b = p
    · have e2 : nI b = nI p := by rw [hbp]
      rw [if_pos e2]
      refine same _ _ (by simp only [i00, if_true, nI_a1]) ?_
      by_cases hab : nI a = nI b
      · rw [if_pos hab, nI_a1]
      · rw [if_neg hab, if_neg e1, if_pos e2, nI_a1]
    · have e2 : ¬ nI b = nI p := fun hh => hbp ((nI_eq (by omega) (by omega)).mp hh)
      rw [if_neg e2]
      by_cases hz : debts (7 * a + b) ≤ 0
      · rw [if_pos hz]
        refine same _ _ (by simp only [i00, if_true, nI_a1]) ?_
        by_cases hab : nI a = nI b
        · rw [if_pos hab, nI_a1]
        · rw [if_neg hab, if_neg e1, if_neg e2]
          unfold Mod_debtAt
          simp only [bindS, ix_debt]
          rw [rdA_nI (f := st) (by omega) (by omega), rd_debt hR (by omega) (by omega), if_pos hz, nI_a1]
      · have hab : ¬ a = b := fun h => hz (by rw [← h, hR.dia a (by omega)]; decide)
        have e3 : ¬ nI a = nI b := fun hh => hab ((nI_eq (by omega) (by omega)).mp hh)
        rw [if_neg hz, if_neg e3, if_neg e1, if_neg e2]
        simp only [i10, if_false]
        have e4 := (hR.cel p hp).2.2.2.2
        rw [Nat.zero_add] at e4
        unfold Mod_debtAt
        simp only [bindS, ix_debt, ix_coin]
        rw [rdA_nI (f := st) (j := 42 + 7 * a + b) (by omega) (by omega), rd_debt hR (by omega) (by omega), if_neg hz, rdA_nI (f := st) (j := 6 * p + 4) (by omega) (by omega), e4, rdA_nI (f := coins) (by omega) (by omega)]
        by_cases hc : coins p < debts (7 * a + b)
        · rw [if_pos hc, if_pos hc]
          exact same _ _ (by rw [nI_a1]) (by rw [nI_a1])
        · rw [if_neg hc, if_neg hc, E_owed (by omega) (by omega), rdA_nI (f := st) (j := 42 + 7 * a + p) (by omega) (by omega), rd_debt hR (by omega) (by omega)]
          simp only [bindS]
          by_cases h9 : 999 < debts (7 * a + p) + debts (7 * a + b)
          · rw [if_pos h9, if_pos h9]
            exact same _ _ (by rw [nI_a1]) (by rw [nI_a1])
          · rw [if_neg h9, if_neg h9, E_load, E_copies0]
            simp only [bindS]
            rw [E_buyDebt (by omega) (by omega) (by omega) hbp, nL282, E_gives (by omega) (by omega) (by omega)]
            simp only [bindS, nI_add]
            rw [wrA_nI (by omega) (by omega), rdA_nI (f := upd (giveM (cpp st 0 282 94) 282 p b (debts (7 * a + b))) (282 + (42 + 7 * a + b)) 0) (by omega) (by omega), wrA_nI (by omega) (by omega), cpy_in (show 7 * a + b < 49 by omega), cpy_in (show 7 * a + p < 49 by omega), upd_n (show 282 + (42 + 7 * a + p) ≠ 282 + (42 + 7 * a + b) by omega), giveM_out (by omega) (by omega), cpp_in (show 42 + 7 * a + p < 94 by omega), Nat.zero_add, rd_debt hR (by omega) (by omega)]
            obtain ⟨w, hw, hA, hM⟩ := trialG (fun k6 => giveC (va_cpy coins k6 0 0 7) p b (debts (7 * a + b))) (fun k7 => upd (upd (va_cpy debts k7 0 0 49) (7 * a + b) 0) (7 * a + p) (debts (7 * a + p) + debts (7 * a + b))) (fun st => upd (upd (giveM (cpp st 0 282 94) 282 p b (debts (7 * a + b))) (282 + (42 + 7 * a + b)) 0) (282 + (42 + 7 * a + p)) (debts (7 * a + p) + debts (7 * a + b))) hp (buy_G hp ha hb hap _ _) hR
            obtain ⟨pd, L, cs', ds', ones', served', fr', g1, g2⟩ := hA k1 k2 k3 k4 k5 k6 k7 ones served (upd (upd fr 0 0) 1 0) (by rw [upd_n (by omega), upd_s]) upd_s
            obtain ⟨L2, pd2, st', queue', busy', servedIn', g3, g4, g5⟩ := hM st queue busy servedIn hR
            rw [E_weigh (by omega) g1 g2, E_tries (by omega) g3 g4]
            simp only [bindS]
            have ew : 10 * nI a + nI b = nI (10 * a + b) := by rw [show (10 : Int32) = nI 10 from rfl, pk_mul, nI_add]
            rw [ew, nI_a1, nI_a1]
            exact ⟨_, _, _, _, _, _, _, _, _, _, _, _, _, _, _, _, _, _, _, _, _, _, _, _, _, _, _, _, rfl, rfl, hB.step (by omega) (nI w) _, g5⟩
end BUY
