/-! sums over the run: all, poor, day -/
theorem bindS {α β : Type} (x : α) (f : α → Option β) : (some x).bind f = f x := by simp
section SUMM
variable {N : Nat} {people law counters : Int32} {kind father comes wants cost coins debts st : Nat → Int32} {q : Nat}
theorem sum_sim (hN : N ≤ 7) (hm : st 93 = nI N) {cs wn co sv si : Nat → Int32} (h1 : ∀ p, p < N → st (282 + 6 * p + 1) = cs p) (h2 : ∀ p, p < N → st (282 + 6 * p + 2) = wn p) (h3 : ∀ p, p < N → st (282 + 6 * p + 3) = co p) (h4 : ∀ p, p < N → si p = sv p) (what : Int32)
    (K1 : Int32 → Int32 → Int32 → Option Int32) (K2 : Int32 → Int32 → Option Int32) :
    ∀ (d p n1 n2 : Nat) (w c e : Int32), p + d = N → d < n1 → d < n2 → ∃ w' c' e', Run_sum_L10 (nI N) cs wn co sv K1 n1 w c e (nI p) = K1 w' c' e' ∧ Mod_allOf_L7 st si what K2 n2 (if what = 0 then w else c) e (nI p) = K2 (if what = 0 then w' else c') e' := by
  intro d
  induction d with
  | zero =>
    intro p n1 n2 w c e hp g1 g2
    obtain ⟨n1, rfl⟩ : ∃ k, n1 = k + 1 := ⟨n1 - 1, by omega⟩
    obtain ⟨n2, rfl⟩ : ∃ k, n2 = k + 1 := ⟨n2 - 1, by omega⟩
    refine ⟨w, c, e, ?_, ?_⟩
    · rw [Run_sum_L10, if_pos (nI_le (by omega) (by omega))]
    · rw [Mod_allOf_L7, E_manyM hm]
      simp only [Option.bind_some]
      rw [if_pos (nI_le (by omega) (by omega))]
  | succ d ih =>
    intro p n1 n2 w c e hp g1 g2
    obtain ⟨n1, rfl⟩ : ∃ k, n1 = k + 1 := ⟨n1 - 1, by omega⟩
    obtain ⟨n2, rfl⟩ : ∃ k, n2 = k + 1 := ⟨n2 - 1, by omega⟩
    have hpN : p < N := by omega
    rw [Run_sum_L10, if_neg (nI_ge hpN (by omega)), E_waitT (by omega)]
    rw [Mod_allOf_L7, E_manyM hm, E_waitM (by omega)]
    simp only [Option.bind_some, nmI, jn]
    rw [if_neg (nI_ge hpN (by omega)), rdA_nI (by omega) (by omega), rdA_nI (by omega) (by omega), rdA_nI (by omega) (by omega)]
    have i1 : (282 + 6 * nI p) + 1 = nI (282 + 6 * p + 1) := by rw [nL282, nL6, nL1, pk_mul, nI_add, nI_add]
    have i2 : (282 + 6 * nI p) + 2 = nI (282 + 6 * p + 2) := by rw [nL282, nL6, nL2, pk_mul, nI_add, nI_add]
    have i3 : (282 + 6 * nI p) + 3 = nI (282 + 6 * p + 3) := by rw [nL282, nL6, nL3, pk_mul, nI_add, nI_add]
    rw [i2, i3]
    simp only [rdA_nI (show 282 + 6 * p + 2 < 470 by omega) (show 470 < 2 ^ 31 by omega), rdA_nI (show 282 + 6 * p + 3 < 470 by omega) (show 470 < 2 ^ 31 by omega), rdA_nI (show p < 7 by omega) (show 7 < 2 ^ 31 by omega), nI_a1]
    rw [h1 p hpN, h2 p hpN, h3 p hpN, h4 p hpN]
    obtain ⟨w', c', e', r1, r2⟩ := ih (p + 1) n1 n2 (w + (sv p - cs p)) (c + (sv p - cs p) * co p) (if e < sv p + wn p then sv p + wn p else e) (by omega) (by omega) (by omega)
    refine ⟨w', c', e', r1, ?_⟩
    rw [← r2]
    by_cases hw : what = 0
    · rw [if_pos hw, if_pos hw, if_pos hw]
      by_cases hd : sv p + wn p ≤ e
      · rw [if_pos hd, if_neg (i32_nlt.mpr hd)]
      · rw [if_neg hd, if_pos (i32_nle.mp hd)]
    · rw [if_neg hw, if_neg hw, if_neg hw, Int32.mul_comm (co p)]
      by_cases hd : sv p + wn p ≤ e
      · rw [if_pos hd, if_neg (i32_nlt.mpr hd)]
      · rw [if_neg hd, if_pos (i32_nle.mp hd)]
theorem E_sum (hN : N ≤ 7) (hm : st 93 = nI N) {cs wn co sv si : Nat → Int32} (h1 : ∀ p, p < N → st (282 + 6 * p + 1) = cs p) (h2 : ∀ p, p < N → st (282 + 6 * p + 2) = wn p) (h3 : ∀ p, p < N → st (282 + 6 * p + 3) = co p) (h4 : ∀ p, p < N → si p = sv p) (k : Nat) (hk : k ≤ 3) (paid : Int32) : ∃ r, Run_sum (nI k) paid (nI N) cs wn co sv = some r ∧ Mod_allOf (nI k) paid st si = some r := by
  unfold Run_sum Mod_allOf
  obtain ⟨w', c', e', r1, r2⟩ := sum_sim hN hm h1 h2 h3 h4 (nI k) (fun (x2_14 : Int32) (x3_15 : Int32) (x4_16 : Int32) => if nI k = 0 then (some x2_14) else (if nI k = 1 then (some x3_15) else (if nI k = 2 then (some x4_16) else (some paid)))) (fun (x2_17 : Int32) (x3_18 : Int32) => if nI k = 3 then (some paid) else (if nI k = 2 then (some x3_18) else (some x2_17))) N 0 FU FU 0 0 0 (by omega) (by unfold FU; omega) (by unfold FU; omega)
  rw [show (if nI k = 0 then (0 : Int32) else 0) = 0 by split <;> rfl, show nI 0 = 0 from rfl] at r2
  rw [show nI 0 = 0 from rfl] at r1
  rw [r1, r2]
  rcases (show k = 0 ∨ k = 1 ∨ k = 2 ∨ k = 3 by omega) with rfl | rfl | rfl | rfl
  · exact ⟨w', rfl, rfl⟩
  · exact ⟨c', rfl, rfl⟩
  · exact ⟨e', rfl, rfl⟩
  · exact ⟨paid, rfl, rfl⟩
theorem E_isSum (t : Int32) : Let_isSum t = some (if 0 ≤ t ∧ t ≤ 3 then 1 else 0) := by
  unfold Let_isSum
  by_cases h1 : t < 0
  · rw [if_pos h1, if_neg (fun h => i32_nle.mpr h1 h.1)]
  · rw [if_neg h1]
    by_cases h2 : 3 < t
    · rw [if_pos h2, if_neg (fun h => i32_nle.mpr h2 h.2)]
    · rw [if_neg h2, if_pos ⟨i32_nlt.mp h1, i32_nlt.mp h2⟩]
theorem P_all (hR : RT N people law counters kind father comes wants cost coins debts st 0) (t a0 a1 a2 a3 a4 : Int32) (k1 k2 k3 k4 k5 k6 k7 ones served fr queue busy servedIn : Nat → Int32) (b0 b1 : Int32) :
    ∃ o1 o2, Let_all t people law counters kind father comes wants cost coins debts a0 a1 a2 a3 k1 k2 k3 k4 k5 k6 k7 a4 ones served fr = some o1 ∧ Mod_all t b0 b1 st queue busy servedIn = some o2 ∧ o1.1 = o2.1 ∧ frm st o2.2.2.2.1 := by
  have hN := hR.N7
  unfold Let_all Mod_all
  rw [E_isSum, show (0 : Int64) = (0 : Int32).toInt64 from rfl, show (3 : Int64) = (3 : Int32).toInt64 from rfl, E_in32]
  simp only [Option.bind_some]
  rcases rng_cases (t := t) (hi := 3) (n := 3) rfl (by omega) with ⟨g1, g2, k, hk, rfl⟩ | g
  · have hg := eq_true (show 0 ≤ nI k ∧ nI k ≤ 3 from ⟨g1, g2⟩)
    simp only [hg, if_true, i10, if_false]
    obtain ⟨L, paid, coins', debts', ones', served', free', st', queue', busy', servedIn', r1, r2, r3, r4, r5, r6, r7, r8, r9⟩ := runUntil_sim (last := 130) (Nat.le_refl _) hR k1 k2 k3 k4 k5 k6 k7 fr ones served queue busy servedIn
    unfold Mod_runsAll
    rw [show (130 : Int32) = nI 130 from rfl, r1, r2]
    simp only [Option.bind_some]
    rw [r3]
    simp only [Option.bind_some]
    obtain ⟨r, e1, e2⟩ := E_sum (st := st') (sv := served') (si := servedIn') hN (by rw [r8 93 (by omega)]; exact hR.many) (fun p hp => (r5.cel p hp).2.1) (fun p hp => (r5.cel p hp).2.2.1) (fun p hp => (r5.cel p hp).2.2.2.1) (fun p hp => by obtain ⟨v, -, -, v3, v4⟩ := r9 rfl p hp; rw [v3, v4]) k hk paid
    rw [hR.ppl, e1, e2]
    exact ⟨_, _, rfl, rfl, rfl, fun k hk => r8 k (Or.inl hk)⟩
  · simp only [eq_false g, if_false, i00, if_true]
    exact ⟨_, _, rfl, rfl, rfl, fun _ _ => rfl⟩
theorem RT.setLaw (h : RT N people law counters kind father comes wants cost coins debts st q) {v : Int32} (hv : v = 0 ∨ v = 1) : RT N people v counters kind father comes wants cost coins debts (upd st (q + 91) v) q := by
  have hN := h.N7
  obtain ⟨c, hc, hc1, hc2⟩ := h.ctr
  refine ⟨hN, h.ppl, by rw [upd_n (by omega)]; exact h.many, upd_s, hv, ⟨c, hc, hc1, by rw [upd_n (by omega)]; exact hc2⟩, fun p hp => ?_, fun p hp hk => ?_, fun p hp hk => ?_, h.rng, fun k hk => ?_, h.dia⟩
  · rw [upd_n (by omega), upd_n (by omega), upd_n (by omega), upd_n (by omega), upd_n (by omega)]
    exact h.cel p hp
  · rw [upd_n (by omega)]; exact h.fat p hp hk
  · rw [upd_n (by omega)]; exact h.nfa p hp hk
  · rw [upd_n (by omega)]; exact h.deb k hk
theorem RT.setComes (h : RT N people law counters kind father comes wants cost coins debts st q) {j c : Nat} (hj : j < N) (hc : c ≤ 60) : RT N people law counters kind father (upd comes j (nI c)) wants cost coins debts (upd st (q + 6 * j + 1) (nI c)) q := by
  have hN := h.N7
  obtain ⟨c', hc', hc1, hc2⟩ := h.ctr
  refine ⟨hN, h.ppl, by rw [upd_n (by omega)]; exact h.many, by rw [upd_n (by omega)]; exact h.lw, h.lw01, ⟨c', hc', hc1, by rw [upd_n (by omega)]; exact hc2⟩, fun p hp => ?_, fun p hp hk => ?_, fun p hp hk => ?_, fun p hp => ?_, fun k hk => ?_, h.dia⟩
  · obtain ⟨e0, e1, e2, e3, e4⟩ := h.cel p hp
    refine ⟨by rw [upd_n (by omega)]; exact e0, ?_, by rw [upd_n (by omega)]; exact e2, by rw [upd_n (by omega)]; exact e3, by rw [upd_n (by omega)]; exact e4⟩
    by_cases e : p = j
    · subst e; rw [upd_s, upd_s]
    · rw [upd_n (by omega), upd_n e]; exact e1
  · rw [upd_n (by omega)]; exact h.fat p hp hk
  · rw [upd_n (by omega)]; exact h.nfa p hp hk
  · obtain ⟨h1, h2, h3⟩ := h.rng p hp
    refine ⟨?_, h2, h3⟩
    by_cases e : p = j
    · subst e; exact ⟨c, hc, upd_s⟩
    · rw [upd_n e]; exact h1
  · rw [upd_n (by omega)]; exact h.deb k hk
theorem poor_sim (hN : N ≤ 7) {o2 : Int32 × Int32 × Int32 × Int32 × (Nat → Int32) × (Nat → Int32) × (Nat → Int32) × (Nat → Int32) × (Nat → Int32) × (Nat → Int32) × (Nat → Int32) × Int32 × (Nat → Int32)} {o3 : Int32 × (Nat → Int32) × (Nat → Int32) × Int32 × (Nat → Int32) × (Nat → Int32) × (Nat → Int32)} {o5 : Int32 × Int32 × (Nat → Int32) × (Nat → Int32) × (Nat → Int32) × (Nat → Int32)} {coins : Nat → Int32} (hm : o5.2.2.1 93 = nI N) (h0 : ∀ p, p < N → o5.2.2.1 (6 * p + 4) = coins p) (h1 : ∀ p, p < N → o5.2.2.1 (282 + 6 * p + 1) = o2.2.2.2.2.2.2.1 p) (h4 : ∀ p, p < N → o5.2.2.2.2.2 p = o3.2.2.2.2.2.1 p) (v : Int32)
    (K1 : Int32 → Option (Int32 × Int32 × Int32 × Int32 × Int32 × (Nat → Int32) × (Nat → Int32) × (Nat → Int32) × (Nat → Int32) × (Nat → Int32) × (Nat → Int32) × (Nat → Int32) × Int32 × (Nat → Int32) × (Nat → Int32) × (Nat → Int32))) (K2 : Int32 → Option (Int32 × Int32 × Int32 × (Nat → Int32) × (Nat → Int32) × (Nat → Int32) × (Nat → Int32))) :
    ∀ (d p n1 n2 : Nat) (x : Int32), p + d = N → d < n1 → d < n2 → ∃ x', Let_poor_L56 (nI N) coins v o2 o3 K1 n1 x (nI p) = K1 x' ∧ Mod_poor_L53 v o5 K2 n2 x (nI p) = K2 x' := by
  intro d
  induction d with
  | zero =>
    intro p n1 n2 x hp g1 g2
    obtain ⟨n1, rfl⟩ : ∃ k, n1 = k + 1 := ⟨n1 - 1, by omega⟩
    obtain ⟨n2, rfl⟩ : ∃ k, n2 = k + 1 := ⟨n2 - 1, by omega⟩
    refine ⟨x, ?_, ?_⟩
    · rw [Let_poor_L56, if_pos (nI_le (by omega) (by omega))]
    · rw [Mod_poor_L53, E_manyM hm]
      simp only [Option.bind_some]
      rw [if_pos (nI_le (by omega) (by omega))]
  | succ d ih =>
    intro p n1 n2 x hp g1 g2
    obtain ⟨n1, rfl⟩ : ∃ k, n1 = k + 1 := ⟨n1 - 1, by omega⟩
    obtain ⟨n2, rfl⟩ : ∃ k, n2 = k + 1 := ⟨n2 - 1, by omega⟩
    have hpN : p < N := by omega
    rw [Let_poor_L56, if_neg (nI_ge hpN (by omega)), E_waitT (by omega), rdA_nI (by omega) (by omega)]
    rw [Mod_poor_L53, E_manyM hm, E_waitM (by omega)]
    simp only [Option.bind_some, nmI, jn]
    rw [if_neg (nI_ge hpN (by omega)), show 6 * nI p + 4 = nI (6 * p + 4) by rw [nL6, nL4, pk_mul, nI_add], rdA_nI (by omega) (by omega), h0 p hpN, h1 p hpN, h4 p hpN]
    simp only [nI_a1]
    by_cases hv : v < coins p
    · rw [if_pos hv, if_pos hv, i32_add0]
      exact ih (p + 1) n1 n2 x (by omega) (by omega) (by omega)
    · rw [if_neg hv, if_neg hv]
      exact ih (p + 1) n1 n2 _ (by omega) (by omega) (by omega)
theorem E_isLaw (v : Int32) : Let_isLaw v = some (if 0 ≤ v ∧ v ≤ 1 then 1 else 0) := by
  unfold Let_isLaw
  rcases rng_cases (t := v) (hi := 1) (n := 1) rfl (by omega) with ⟨g1, g2, k, hk, rfl⟩ | g
  · rcases (show k = 0 ∨ k = 1 by omega) with rfl | rfl
    · decide
    · decide
  · rw [if_neg g, if_neg (fun h => g (by subst h; decide)), if_neg (fun h => g (by subst h; decide))]
theorem E_copies0 (st : Nat → Int32) : Mod_copies 0 282 st = some (cpp st 0 282 94) := E_copies (a := 0) (b := 282) (by omega) (by omega) (by omega) st
theorem wrA_373 {α : Type} {f : Nat → Int32} {x : Int32} {k : (Nat → Int32) → Option α} : wrA f 470 373 x k = k (upd f 373 x) := wrA_nI (j := 373) (by omega) (by omega)
theorem P_poor (hR : RT N people law counters kind father comes wants cost coins debts st 0) (v w a0 a1 a2 a3 a4 : Int32) (k1 k2 k3 k4 k5 k6 k7 ones served fr queue busy servedIn : Nat → Int32) (b0 b1 : Int32) :
    ∃ o1 o2, Let_poor v w people law counters kind father comes wants cost coins debts a0 a1 a2 a3 k1 k2 k3 k4 k5 k6 k7 a4 ones served fr = some o1 ∧ Mod_poor v w b0 b1 st queue busy servedIn = some o2 ∧ o1.1 = o2.1 ∧ frm st o2.2.2.2.1 := by
  have hN := hR.N7
  unfold Let_poor Mod_poor
  rw [E_isLaw, show (0 : Int64) = (0 : Int32).toInt64 from rfl, show (99 : Int64) = (99 : Int32).toInt64 from rfl, show (1 : Int64) = (1 : Int32).toInt64 from rfl, E_in32, E_in32]
  simp only [bindS]
  rcases rng_cases (t := v) (hi := 99) (n := 99) rfl (by omega) with ⟨f1, f2, -⟩ | f
  · simp only [eq_true (show 0 ≤ v ∧ v ≤ 99 from ⟨f1, f2⟩), eq_false (i32_nlt.mpr f1), eq_false (i32_nlt.mpr f2), if_true, i10, if_false]
    rcases rng_cases (t := w) (hi := 1) (n := 1) rfl (by omega) with ⟨g1, g2, k, hk, rfl⟩ | g
    · have hg := eq_true (show 0 ≤ nI k ∧ nI k ≤ 1 from ⟨g1, g2⟩)
      simp only [hg, if_true, i10, if_false]
      have hk01 : nI k = 0 ∨ nI k = 1 := by
        rcases (show k = 0 ∨ k = 1 by omega) with rfl | rfl
        · exact Or.inl rfl
        · exact Or.inr rfl
      rw [E_load, E_copies0]
      simp only [bindS]
      rw [wrA_373]
      obtain ⟨L, paid, coins', debts', ones', served', free', st', queue', busy', servedIn', r1, r2, r3, r4, r5, r6, r7, r8⟩ := run_sim (N := N) (last := 130) (ones := ones) (served := served) (queue := queue) (busy := busy) (servedIn := servedIn) (free := upd (upd fr 0 0) 1 0) (Nat.le_refl _) (by
        have h1 := ((hR.copied 282).load k1 k2 k3 k4 k5 k6 k7).setLaw hk01
        rw [hR.ppl] at h1
        exact h1) (by rw [upd_n (by omega), upd_s]) upd_s
      rw [show (282 : Nat) + 91 = 373 from rfl] at r2
      rw [show (130 : Int32) = nI 130 from rfl, hR.ppl, r1, r2]
      simp only [bindS]
      obtain ⟨x', s1, s2⟩ := poor_sim (N := N) hN (o2 := (0, nI N, law, counters, va_cpy kind k1 0 0 7, va_cpy father k2 0 0 7, va_cpy comes k3 0 0 7, va_cpy wants k4 0 0 7, va_cpy cost k5 0 0 7, va_cpy coins k6 0 0 7, va_cpy debts k7 0 0 49, 0, upd (upd fr 0 0) 1 0)) (o3 := (paid, coins', debts', nI L, ones', served', free')) (o5 := (nI L, paid, st', queue', busy', servedIn')) (coins := coins) (by
          show st' 93 = nI N
          rw [r7 93 (by omega), upd_n (by omega), cpp_out (by omega)]; exact hR.many) (fun p hp => by
          show st' (6 * p + 4) = coins p
          rw [r7 _ (by omega), upd_n (by omega), cpp_out (by omega)]
          have := (hR.cel p hp).2.2.2.2
          rw [Nat.zero_add] at this
          exact this) (fun p hp => (r4.cel p hp).2.1) (fun p hp => by
          obtain ⟨u, -, -, u3, u4⟩ := r8 rfl p hp
          show servedIn' p = served' p
          rw [u3, u4]) v (fun x3_11 => some (x3_11, paid, nI N, nI k, counters, va_cpy kind k1 0 0 7, va_cpy father k2 0 0 7, va_cpy comes k3 0 0 7, va_cpy wants k4 0 0 7, va_cpy cost k5 0 0 7, coins', debts', nI L, ones', served', free')) (fun x3_16 => some (x3_16, nI L, paid, st', queue', busy', servedIn')) N 0 FU FU 0 (by omega) (by unfold FU; omega) (by unfold FU; omega)
      rw [show nI 0 = (0 : Int32) from rfl] at s1 s2
      rw [s1, s2]
      exact ⟨_, _, rfl, rfl, rfl, fun k hk => by
        show st' k = st k
        rw [r7 k (Or.inl hk), upd_n (by omega), cpp_out (by omega)]⟩
    · simp only [eq_false g, if_false, i00, if_true]
      exact ⟨_, _, rfl, rfl, rfl, fun _ _ => rfl⟩
  · simp only [eq_false f, if_false, i00, if_true]
    by_cases h1 : v < 0
    · rw [if_pos h1]
      exact ⟨_, _, rfl, rfl, rfl, fun _ _ => rfl⟩
    · rw [if_neg h1, if_pos (i32_nle.mp (fun h => f ⟨i32_nlt.mp h1, h⟩))]
      exact ⟨_, _, rfl, rfl, rfl, fun _ _ => rfl⟩
end SUMM
