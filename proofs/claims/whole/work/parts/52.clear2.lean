section CLR2
variable {N : Nat} {law counters : Int32} {kind father comes wants cost coins debts : Nat → Int32}
theorem clear_A {p t X : Nat} (hp : p < N) (hX : X < 2 ^ N)
    (KL : Int32 → Int32 → Int32 → Int32 → Int32 → Int32 → Int32 → (Nat → Int32) → (Nat → Int32) → (Nat → Int32) → (Nat → Int32) → (Nat → Int32) → (Nat → Int32) → (Nat → Int32) → Int32 → (Nat → Int32) → (Nat → Int32) → (Nat → Int32) → Option (Int32 × Int32 × Int32 × Int32 × Int32 × Int32 × Int32 × (Nat → Int32) × (Nat → Int32) × (Nat → Int32) × (Nat → Int32) × (Nat → Int32) × (Nat → Int32) × (Nat → Int32) × Int32 × (Nat → Int32) × (Nat → Int32) × (Nat → Int32)))
    (K2 : Int32 → Int32 → Int32 → Int32 → (Nat → Int32) → (Nat → Int32) → (Nat → Int32) → (Nat → Int32) → Option (Int32 × Int32 × Int32 × (Nat → Int32) × (Nat → Int32) × (Nat → Int32) × (Nat → Int32))) :
    ∀ (d s n1 m : Nat) (found co whom which least r0 r1 r2 r3 r4 b0 b1 : Int32) (k1 k2 k3 k4 k5 k6 k7 ones served fr st queue busy servedIn : Nat → Int32), s + d = X + 1 → d < n1 → RT N (nI N) law counters kind father comes wants cost coins debts st 0 → RCl s found co whom which least →
    ∃ (found' co' whom' which' least' q0 q1 q2 q3 q4 c0 c1 : Int32) (j1 j2 j3 j4 j5 j6 j7 ones' served' fr' st' queue' busy' servedIn' : Nat → Int32),
      Adv_seekPayOff_L52 (nI N) law counters kind father comes wants cost coins debts (nI p) (nI t) (nI X) KL n1 (nI s) found co whom r0 r1 r2 r3 k1 k2 k3 k4 k5 k6 k7 r4 ones served fr = KL found' co' whom' q0 q1 q2 q3 j1 j2 j3 j4 j5 j6 j7 q4 ones' served' fr' ∧
      Mod_clear_L96 (nI p) (nI t) (nI X) K2 (m + d) which least (nI s) b0 b1 st queue busy servedIn = Mod_clear_L96 (nI p) (nI t) (nI X) K2 m which' least' (nI (X + 1)) c0 c1 st' queue' busy' servedIn' ∧ RCl (X + 1) found' co' whom' which' least' ∧ frm st st' := by
  intro d
  induction d with
  | zero =>
    intro s n1 m found co whom which least r0 r1 r2 r3 r4 b0 b1 k1 k2 k3 k4 k5 k6 k7 ones served fr st queue busy servedIn hs h1 hR hC
    obtain ⟨n1, rfl⟩ : ∃ k, n1 = k + 1 := ⟨n1 - 1, by omega⟩
    obtain rfl : s = X + 1 := by omega
    have hN := hR.N7
    have hp128 : 2 ^ N ≤ 128 := by
      have := Nat.pow_le_pow_right (show 0 < 2 by omega) hN
      omega
    refine ⟨found, co, whom, which, least, r0, r1, r2, r3, r4, b0, b1, k1, k2, k3, k4, k5, k6, k7, ones, served, fr, st, queue, busy, servedIn, ?_, rfl, hC, fun _ _ => rfl⟩
    rw [Adv_seekPayOff_L52, if_pos (nI_lt (by omega) (by omega))]
  | succ d ih =>
    intro s n1 m found co whom which least r0 r1 r2 r3 r4 b0 b1 k1 k2 k3 k4 k5 k6 k7 ones served fr st queue busy servedIn hs h1 hR hC
    obtain ⟨n1, rfl⟩ : ∃ k, n1 = k + 1 := ⟨n1 - 1, by omega⟩
    have hN := hR.N7
    have hm : st 93 = nI N := hR.many
    have hp128 : 2 ^ N ≤ 128 := by
      have := Nat.pow_le_pow_right (show 0 < 2 by omega) hN
      omega
    rw [Adv_seekPayOff_L52, if_neg (nI_nlt (by omega) (by omega)), show m + (d + 1) = m + d + 1 by omega]
    by_cases hsub : nI s &&& (nI X ^^^ (-1)) = 0
    · rw [if_pos hsub]
      obtain ⟨o, which', least', b0', b1', st', queue', busy', servedIn', e1, e2, e3, e4⟩ := clear_1 (X := X) (n := m + d) hR hp (by omega) hC k1 k2 k3 k4 k5 k6 k7 ones served fr queue busy servedIn b0 b1 K2 (t := t) (by omega) hsub
      rw [e1, e2]
      simp only [bindS, nmI, nI_a1]
      obtain ⟨f1, f2, f3, f4, f5, f6, f7, f8, f9, f10, f11, f12, g1, g2, g3, g4, g5, g6, g7, g8, g9, g10, st2, g12, g13, g14, q1, q2, q3, q4⟩ := ih (s + 1) n1 m o.1 o.2.1 o.2.2.1 which' least' o.2.2.2.1 o.2.2.2.2.1 o.2.2.2.2.2.1 o.2.2.2.2.2.2.1 o.2.2.2.2.2.2.2.2.2.2.2.2.2.2.1 b0' b1' o.2.2.2.2.2.2.2.1 o.2.2.2.2.2.2.2.2.1 o.2.2.2.2.2.2.2.2.2.1 o.2.2.2.2.2.2.2.2.2.2.1 o.2.2.2.2.2.2.2.2.2.2.2.1 o.2.2.2.2.2.2.2.2.2.2.2.2.1 o.2.2.2.2.2.2.2.2.2.2.2.2.2.1 o.2.2.2.2.2.2.2.2.2.2.2.2.2.2.2.1 o.2.2.2.2.2.2.2.2.2.2.2.2.2.2.2.2.1 o.2.2.2.2.2.2.2.2.2.2.2.2.2.2.2.2.2 st' queue' busy' servedIn' (by omega) (by omega) (hR.pages (fun k hk => e4 _ (by omega))) e3
      exact ⟨f1, f2, f3, f4, f5, f6, f7, f8, f9, f10, f11, f12, g1, g2, g3, g4, g5, g6, g7, g8, g9, g10, st2, g12, g13, g14, q1, q2, q3, fun k hk => by rw [q4 k hk, e4 k hk]⟩
    · rw [if_neg hsub, Mod_clear_L96, E_manyM hm]
      simp only [bindS, nmI, nI_a1]
      rw [one_sh N (by omega), if_neg (nI_ge (by omega) (by omega)), if_neg hsub]
      refine ih (s + 1) n1 m found co whom which least r0 r1 r2 r3 r4 b0 b1 k1 k2 k3 k4 k5 k6 k7 ones served fr st queue busy servedIn (by omega) (by omega) hR ?_
      rcases hC with h | ⟨h1, h2, h3, s', h4, h5⟩
      · exact Or.inl h
      · exact Or.inr ⟨h1, h2, h3, s', by omega, h5⟩
theorem clear_B {p t : Int32} {X : Nat} (hN : N ≤ 7) (hX : X < 2 ^ N) {st : Nat → Int32} (hm : st 93 = nI N) (which least b0 b1 : Int32) (queue busy servedIn : Nat → Int32)
    (K2 : Int32 → Int32 → Int32 → Int32 → (Nat → Int32) → (Nat → Int32) → (Nat → Int32) → (Nat → Int32) → Option (Int32 × Int32 × Int32 × (Nat → Int32) × (Nat → Int32) × (Nat → Int32) × (Nat → Int32))) : ∀ (e s m : Nat), s + e = 2 ^ N → X < s → e < m → Mod_clear_L96 p t (nI X) K2 m which least (nI s) b0 b1 st queue busy servedIn = K2 which least b0 b1 st queue busy servedIn := by
  have hp128 : 2 ^ N ≤ 128 := by
    have := Nat.pow_le_pow_right (show 0 < 2 by omega) hN
    omega
  intro e
  induction e with
  | zero =>
    intro s m hs hXs hm'
    obtain ⟨m, rfl⟩ : ∃ k, m = k + 1 := ⟨m - 1, by omega⟩
    rw [Mod_clear_L96, E_manyM hm]
    simp only [bindS]
    rw [one_sh N (by omega), if_pos (nI_le (by omega) (by omega))]
  | succ e ih =>
    intro s m hs hXs hm'
    obtain ⟨m, rfl⟩ : ∃ k, m = k + 1 := ⟨m - 1, by omega⟩
    rw [Mod_clear_L96, E_manyM hm]
    simp only [bindS, nmI, nI_a1]
    rw [one_sh N (by omega), if_neg (nI_ge (by omega) (by omega)), if_neg (fun hh => by have := sub_le s (by omega) X (by omega) hh; omega)]
    exact ih (s + 1) m (by omega) (by omega) (by omega)
theorem P_clear {people : Int32} {st : Nat → Int32} (hR : RT N people law counters kind father comes wants cost coins debts st 0) (p t w r0 r1 r2 r3 r4 f0 f1 f2 b0 b1 : Int32) (k1 k2 k3 k4 k5 k6 k7 ones served fr queue busy servedIn : Nat → Int32) :
    ∃ o1 o2, Let_clear p t w people law counters kind father comes wants cost coins debts r0 r1 r2 r3 k1 k2 k3 k4 k5 k6 k7 r4 ones served fr f0 f1 f2 = some o1 ∧ Mod_clear p t w b0 b1 st queue busy servedIn = some o2 ∧ o1.1 = o2.1 ∧ frm st o2.2.2.2.1 := by
  have hN := hR.N7
  have hpp := hR.ppl
  subst hpp
  unfold Let_clear Mod_clear
  rw [E_isOneT, E_isOneM hN hR.many, E_isMinute, E_in32c t (lo := 0) (hi := 130) (a := 0) (b := 130) rfl rfl, E_in32c w (lo := 0) (hi := 1) (a := 0) (b := 1) rfl rfl]
  simp only [bindS]
  rcases oneB_cases hN p with ⟨h1, j, hj, rfl⟩ | h1
  · simp only [h1, i10, if_false]
    rcases rng_cases (t := t) (hi := 130) (n := 130) rfl (by omega) with ⟨g1, g2, k, hk, rfl⟩ | g
    · simp only [eq_true (show 0 ≤ nI k ∧ nI k ≤ 130 from ⟨g1, g2⟩), if_true, i10, if_false]
      rcases rng_cases (t := w) (hi := 1) (n := 1) rfl (by omega) with ⟨e1, e2, v, hv, rfl⟩ | e
      · simp only [eq_true (show 0 ≤ nI v ∧ nI v ≤ 1 from ⟨e1, e2⟩), if_true, i10, if_false]
        rw [if_neg (i32_nlt.mpr e1), if_pos e2]
        unfold Adv_seekPayOff
        obtain ⟨X, hX, s1, s2⟩ := owed_sim (people := nI N) hR hj (fun (x5_9 : Int32) => Adv_seekPayOff_L52 (nI N) law counters kind father comes wants cost coins debts (nI j) (nI k) x5_9 (fun a1 a2 a3 a4 a5 a6 a7 a8 a9 a10 a11 a12 a13 a14 a15 a16 a17 a18 => some (a1, a2, a3, a4, a5, a6, a7, a8, a9, a10, a11, a12, a13, a14, a15, a16, a17, a18)) FU 0 0 f1 f2 r0 (r1) r2 r3 k1 k2 k3 k4 k5 k6 k7 r4 ones served fr) (fun (x4_16 : Int32) => Mod_clear_L96 (nI j) (nI k) x4_16 (fun (x5_52 : Int32) (x6_53 : Int32) (t_queued_54 : Int32) (t_payed_55 : Int32) (t_state_56 : Nat → Int32) (t_queue_57 : Nat → Int32) (t_busyTo_58 : Nat → Int32) (t_servedIn_59 : Nat → Int32) => if x5_52 = (-4) then (some (x5_52, t_queued_54, t_payed_55, t_state_56, t_queue_57, t_busyTo_58, t_servedIn_59)) else (if nI v = 1 then (some (x5_52, t_queued_54, t_payed_55, t_state_56, t_queue_57, t_busyTo_58, t_servedIn_59)) else (some (x6_53, t_queued_54, t_payed_55, t_state_56, t_queue_57, t_busyTo_58, t_servedIn_59)))) FU (-4) 0 0 b0 b1 st queue busy servedIn) N 0 FU FU 0 (by omega) (by unfold FU; omega) (by unfold FU; omega) (by omega)
        rw [show nI 0 = (0 : Int32) from rfl] at s1 s2
        rw [s1, s2]
        have hp128 : 2 ^ N ≤ 128 := by
          have := Nat.pow_le_pow_right (show 0 < 2 by omega) hN
          omega
        obtain ⟨found', co', whom', which', least', q0, q1, q2, q3, q4, c0, c1, j1, j2, j3, j4, j5, j6, j7, ones', served', fr', st', queue', busy', servedIn', u1, u2, u3, u4⟩ := clear_A (t := k) hj hX (fun a1 a2 a3 a4 a5 a6 a7 a8 a9 a10 a11 a12 a13 a14 a15 a16 a17 a18 => some (a1, a2, a3, a4, a5, a6, a7, a8, a9, a10, a11, a12, a13, a14, a15, a16, a17, a18)) (fun (x5_52 : Int32) (x6_53 : Int32) (t_queued_54 : Int32) (t_payed_55 : Int32) (t_state_56 : Nat → Int32) (t_queue_57 : Nat → Int32) (t_busyTo_58 : Nat → Int32) (t_servedIn_59 : Nat → Int32) => if x5_52 = (-4) then (some (x5_52, t_queued_54, t_payed_55, t_state_56, t_queue_57, t_busyTo_58, t_servedIn_59)) else (if nI v = 1 then (some (x5_52, t_queued_54, t_payed_55, t_state_56, t_queue_57, t_busyTo_58, t_servedIn_59)) else (some (x6_53, t_queued_54, t_payed_55, t_state_56, t_queue_57, t_busyTo_58, t_servedIn_59)))) (X + 1) 0 FU (FU - (X + 1)) 0 f1 f2 (-4) 0 r0 r1 r2 r3 r4 b0 b1 k1 k2 k3 k4 k5 k6 k7 ones served fr st queue busy servedIn (by omega) (by unfold FU; omega) hR (Or.inl ⟨rfl, rfl⟩)
        rw [show FU - (X + 1) + (X + 1) = FU by unfold FU; omega, show nI 0 = (0 : Int32) from rfl] at u2
        rw [show nI 0 = (0 : Int32) from rfl] at u1
        rw [u1, u2, clear_B (X := X) hN hX (by rw [u4 93 (by omega)]; exact hR.many) which' least' c0 c1 queue' busy' servedIn' _ (2 ^ N - (X + 1)) (X + 1) (FU - (X + 1)) (by omega) (by omega) (by unfold FU; omega)]
        simp only [bindS]
        rcases u3 with ⟨rfl, rfl⟩ | ⟨rfl, rfl, rfl, s', hs', rfl⟩
        · rw [if_pos rfl, if_pos rfl]
          exact ⟨_, _, rfl, rfl, rfl, u4⟩
        · rw [if_neg (show ¬ (1 : Int32) = 0 by decide), if_neg (show ¬ nI s' = -4 from fun hh => nI_pos (n := s') (by omega) (by rw [hh]; decide))]
          rcases (show v = 0 ∨ v = 1 by omega) with rfl | rfl
          · rw [if_pos (show nI 0 = (0 : Int32) from rfl), if_neg (show ¬ nI 0 = (1 : Int32) by decide)]
            exact ⟨_, _, rfl, rfl, rfl, u4⟩
          · rw [if_neg (show ¬ nI 1 = (0 : Int32) by decide), if_pos (show nI 1 = (1 : Int32) from rfl)]
            exact ⟨_, _, rfl, rfl, rfl, u4⟩
      · simp only [eq_false e, if_false, i00, if_true]
        by_cases q : w < 0
        · rw [if_pos q]
          exact ⟨_, _, rfl, rfl, rfl, fun _ _ => rfl⟩
        · rw [if_neg q, if_neg (fun hh => e ⟨i32_nlt.mp q, hh⟩)]
          exact ⟨_, _, rfl, rfl, rfl, fun _ _ => rfl⟩
    · simp only [eq_false g, if_false, i00, if_true]
      exact ⟨_, _, rfl, rfl, rfl, fun _ _ => rfl⟩
  · simp only [h1, i00, if_true]
    exact ⟨_, _, rfl, rfl, rfl, fun _ _ => rfl⟩
end CLR2
