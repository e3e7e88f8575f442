/-! days by a seed -/
section DAY
variable {N : Nat} {people law counters : Int32} {kind father comes wants cost coins debts st : Nat → Int32}
def drw (x : Int32) : Int32 := ((x >>> ((16 : Int32) &&& 31)) &&& 32767) - ((x >>> ((16 : Int32) &&& 31)) &&& 32767) / 61 * 61
theorem drw_u (x : Int32) : ((x.toUInt32 >>> ((16 : Int32).toUInt32 &&& Int32.toUInt32 31)).toInt32) &&& 32767 = (x >>> ((16 : Int32) &&& 31)) &&& 32767 := by
  apply b_ext
  intro i hi
  rw [b_and, b_and, b_32767 i hi]
  by_cases h : i < 15
  · have e1 := b_ushr 16 (by omega) x i
    have e2 := b_sshr 16 (by omega) x hi
    rw [if_pos (by omega)] at e2
    rw [show ((16 : Int32)) = nI 16 from rfl, e1, e2]
  · simp [h]
theorem drw_r (x : Int32) : ∃ c, c ≤ 60 ∧ drw x = nI c := by
  unfold drw
  obtain ⟨j, hj, he⟩ := pk_andE (x >>> ((16 : Int32) &&& 31)) (m := 32767) 15 (by decide)
  rw [he, show (61 : Int32) = nI 61 from rfl, pk_rem (by omega) (by omega) (by omega)]
  exact ⟨j % 61, by omega, rfl⟩
theorem day_sim (hN : N ≤ 7) (K1 : (Nat → Int32) → Option (Int32 × Int32 × Int32 × Int32 × Int32 × (Nat → Int32) × (Nat → Int32) × (Nat → Int32) × (Nat → Int32) × (Nat → Int32) × (Nat → Int32) × (Nat → Int32) × Int32 × (Nat → Int32) × (Nat → Int32) × (Nat → Int32))) (K2 : (Nat → Int32) → Option (Int32 × Int32 × Int32 × (Nat → Int32) × (Nat → Int32) × (Nat → Int32) × (Nat → Int32))) :
    ∀ (d p n1 n2 : Nat) (x : Int32) (cs st : Nat → Int32), p + d = N → d < n1 → d < n2 → RT N (nI N) law counters kind father cs wants cost coins debts st 282 → st 93 = nI N →
    ∃ cs' st', Let_day_L25 (nI N) K1 n1 x (nI p) cs = K1 cs' ∧ Mod_day_L27 K2 n2 x (nI p) st = K2 st' ∧ RT N (nI N) law counters kind father cs' wants cost coins debts st' 282 ∧ (∀ k, (k < 282 ∨ 376 ≤ k) → st' k = st k) := by
  intro d
  induction d with
  | zero =>
    intro p n1 n2 x cs st hp g1 g2 hR hm
    obtain ⟨n1, rfl⟩ : ∃ k, n1 = k + 1 := ⟨n1 - 1, by omega⟩
    obtain ⟨n2, rfl⟩ : ∃ k, n2 = k + 1 := ⟨n2 - 1, by omega⟩
    refine ⟨cs, st, ?_, ?_, hR, fun _ _ => rfl⟩
    · rw [Let_day_L25, if_pos (nI_le (by omega) (by omega))]
    · rw [Mod_day_L27, E_manyM hm]
      simp only [bindS]
      rw [if_pos (nI_le (by omega) (by omega))]
  | succ d ih =>
    intro p n1 n2 x cs st hp g1 g2 hR hm
    obtain ⟨n1, rfl⟩ : ∃ k, n1 = k + 1 := ⟨n1 - 1, by omega⟩
    obtain ⟨n2, rfl⟩ : ∃ k, n2 = k + 1 := ⟨n2 - 1, by omega⟩
    have hpN : p < N := by omega
    obtain ⟨c, hc, he⟩ := drw_r (x * 1103515245 + 12345)
    have e1 : Let_day_L25 (nI N) K1 (n1 + 1) x (nI p) cs = Let_day_L25 (nI N) K1 n1 (x * 1103515245 + 12345) (nI (p + 1)) (upd cs p (nI c)) := by
      rw [Let_day_L25, if_neg (nI_ge hpN (by omega))]
      simp only [nmI, nI_a1]
      rw [drw_u]
      rw [show ((((x * 1103515245 + 12345) >>> ((16 : Int32) &&& 31)) &&& 32767) - (((x * 1103515245 + 12345) >>> ((16 : Int32) &&& 31)) &&& 32767) / 61 * 61) = nI c from he]
      rw [wrA_nI (by omega) (by omega)]
    have e2 : Mod_day_L27 K2 (n2 + 1) x (nI p) st = Mod_day_L27 K2 n2 (x * 1103515245 + 12345) (nI (p + 1)) (upd st (282 + 6 * p + 1) (nI c)) := by
      rw [Mod_day_L27, E_manyM hm]
      simp only [bindS]
      rw [if_neg (nI_ge hpN (by omega))]
      simp only [nmI, nI_a1]
      rw [show ((((x * 1103515245 + 12345) >>> ((16 : Int32) &&& 31)) &&& 32767) - (((x * 1103515245 + 12345) >>> ((16 : Int32) &&& 31)) &&& 32767) / 61 * 61) = nI c from he]
      rw [show (282 + 6 * nI p) + 1 = nI (282 + 6 * p + 1) by rw [nL282, nL6, nL1, pk_mul, nI_add, nI_add], wrA_nI (by omega) (by omega)]
    rw [e1, e2]
    obtain ⟨cs', st', r1, r2, r3, r4⟩ := ih (p + 1) n1 n2 (x * 1103515245 + 12345) (upd cs p (nI c)) (upd st (282 + 6 * p + 1) (nI c)) (by omega) (by omega) (by omega) (hR.setComes hpN hc) (by rw [upd_n (by omega)]; exact hm)
    exact ⟨cs', st', r1, r2, r3, fun k hk => by rw [r4 k hk, upd_n (by omega)]⟩
theorem P_day (hR : RT N people law counters kind father comes wants cost coins debts st 0) (sd w a0 a1 a2 a3 a4 : Int32) (k1 k2 k3 k4 k5 k6 k7 ones served fr queue busy servedIn : Nat → Int32) (b0 b1 : Int32) :
    ∃ o1 o2, Let_day sd w people law counters kind father comes wants cost coins debts a0 a1 a2 a3 k1 k2 k3 k4 k5 k6 k7 a4 ones served fr = some o1 ∧ Mod_day sd w b0 b1 st queue busy servedIn = some o2 ∧ o1.1 = o2.1 ∧ frm st o2.2.2.2.1 := by
  have hN := hR.N7
  unfold Let_day Mod_day
  rw [E_isSum, show (0 : Int64) = (0 : Int32).toInt64 from rfl, show (3 : Int64) = (3 : Int32).toInt64 from rfl, E_in32]
  simp only [bindS]
  rcases rng_cases (t := w) (hi := 3) (n := 3) rfl (by omega) with ⟨g1, g2, k, hk, rfl⟩ | g
  · have hg := eq_true (show 0 ≤ nI k ∧ nI k ≤ 3 from ⟨g1, g2⟩)
    simp only [hg, if_true, i10, if_false]
    rw [E_load, E_copies0]
    simp only [bindS]
    rw [hR.ppl]
    have h1 := (hR.copied 282).load k1 k2 k3 k4 k5 k6 k7
    rw [hR.ppl] at h1
    obtain ⟨cs', st1, r1, r2, r3, r4⟩ := day_sim hN (fun (t_run_town_comes_9 : Nat → Int32) => (Run_go 130 0 (nI N) law counters (va_cpy kind k1 0 0 7) (va_cpy father k2 0 0 7) t_run_town_comes_9 (va_cpy wants k4 0 0 7) (va_cpy coins k6 0 0 7) (va_cpy debts k7 0 0 49) 0 ones served (upd (upd fr 0 0) 1 0)).bind (fun o_10 => (Run_sum (nI k) o_10.1 (nI N) t_run_town_comes_9 (va_cpy wants k4 0 0 7) (va_cpy cost k5 0 0 7) o_10.2.2.2.2.2.1).bind (fun o_11 => some (o_11, o_10.1, nI N, law, counters, va_cpy kind k1 0 0 7, va_cpy father k2 0 0 7, t_run_town_comes_9, va_cpy wants k4 0 0 7, va_cpy cost k5 0 0 7, o_10.2.1, o_10.2.2.1, o_10.2.2.2.1, o_10.2.2.2.2.1, o_10.2.2.2.2.2.1, o_10.2.2.2.2.2.2)))) (fun (t_state_10 : Nat → Int32) => (Mod_runsTo 130 t_state_10 queue busy servedIn).bind (fun o_11 => (Mod_allOf (nI k) o_11.2.1 o_11.2.2.1 o_11.2.2.2.2.2).bind (fun o_12 => some (o_12, o_11.1, o_11.2.1, o_11.2.2.1, o_11.2.2.2.1, o_11.2.2.2.2.1, o_11.2.2.2.2.2)))) N 0 FU FU sd (va_cpy comes k3 0 0 7) (cpp st 0 282 94) (by omega) (by unfold FU; omega) (by unfold FU; omega) h1 (by rw [cpp_out (by omega)]; exact hR.many)
    rw [show nI 0 = (0 : Int32) from rfl] at r1 r2
    rw [r1, r2]
    obtain ⟨L, paid, coins', debts', ones', served', free', st', queue', busy', servedIn', s1, s2, s3, s4, s5, s6, s7, s8⟩ := run_sim (N := N) (last := 130) (ones := ones) (served := served) (queue := queue) (busy := busy) (servedIn := servedIn) (free := upd (upd fr 0 0) 1 0) (Nat.le_refl _) r3 (by rw [upd_n (by omega), upd_s]) upd_s
    rw [show (130 : Int32) = nI 130 from rfl, s1, s2]
    simp only [bindS]
    obtain ⟨r, e1, e2⟩ := E_sum (st := st') (sv := served') (si := servedIn') hN (by rw [s7 93 (by omega), r4 93 (by omega), cpp_out (by omega)]; exact hR.many) (fun p hp => (s4.cel p hp).2.1) (fun p hp => (s4.cel p hp).2.2.1) (fun p hp => (s4.cel p hp).2.2.2.1) (fun p hp => by obtain ⟨v, -, -, v3, v4⟩ := s8 rfl p hp; rw [v3, v4]) k hk paid
    rw [e1, e2]
    exact ⟨_, _, rfl, rfl, rfl, fun k hk => by
      show st' k = st k
      rw [s7 k (Or.inl hk), r4 k (Or.inl hk), cpp_out (by omega)]⟩
  · simp only [eq_false g, if_false, i00, if_true]
    exact ⟨_, _, rfl, rfl, rfl, fun _ _ => rfl⟩
end DAY
