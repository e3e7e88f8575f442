section BUY2
variable {N : Nat} {law counters : Int32} {kind father comes wants cost coins debts : Nat → Int32}
theorem buy_in {p a : Nat} (hp : p < N) (ha : a < N) (KL : K19) (KM : K10) : ∀ (d b n m : Nat) (f wt c wh r0 r1 r2 r3 r4 b0 b1 bw bq bc : Int32) (k1 k2 k3 k4 k5 k6 k7 ones served fr st queue busy servedIn : Nat → Int32), b + d = N → d < n → RT N (nI N) law counters kind father comes wants cost coins debts st 0 → RBy (10 * a + b) f wt c wh bw bq bc →
    ∃ (f' wt' c' wh' r0' r1' r2' r3' r4' b0' b1' bw' bq' bc' : Int32) (k1' k2' k3' k4' k5' k6' k7' ones' served' fr' st' queue' busy' servedIn' : Nat → Int32),
      Adv_seekDebt_L22 (nI N) law counters kind father comes wants cost coins debts (nI p) (nI a) KL n (nI b) f wt c wh r0 r1 r2 r3 k1 k2 k3 k4 k5 k6 k7 r4 ones served fr = KL f' wt' c' wh' r0' r1' r2' r3' k1' k2' k3' k4' k5' k6' k7' r4' ones' served' fr' ∧ Mod_buy_L43 (nI p) KM (m + d) (nI (7 * a + b)) b0 b1 bw bq bc st queue busy servedIn = Mod_buy_L43 (nI p) KM m (nI (7 * a + N)) b0' b1' bw' bq' bc' st' queue' busy' servedIn' ∧ RBy (10 * a + N) f' wt' c' wh' bw' bq' bc' ∧ frm st st' := by
  intro d
  induction d with
  | zero =>
    intro b n m f wt c wh r0 r1 r2 r3 r4 b0 b1 bw bq bc k1 k2 k3 k4 k5 k6 k7 ones served fr st queue busy servedIn hb hn hR hB
    obtain ⟨n, rfl⟩ : ∃ k, n = k + 1 := ⟨n - 1, by omega⟩
    obtain rfl : b = N := by omega
    have hN := hR.N7
    refine ⟨f, wt, c, wh, r0, r1, r2, r3, r4, b0, b1, bw, bq, bc, k1, k2, k3, k4, k5, k6, k7, ones, served, fr, st, queue, busy, servedIn, ?_, rfl, hB, fun _ _ => rfl⟩
    rw [Adv_seekDebt_L22, if_pos (nI_le (by omega) (by omega))]
  | succ d ih =>
    intro b n m f wt c wh r0 r1 r2 r3 r4 b0 b1 bw bq bc k1 k2 k3 k4 k5 k6 k7 ones served fr st queue busy servedIn hb hn hR hB
    obtain ⟨n, rfl⟩ : ∃ k, n = k + 1 := ⟨n - 1, by omega⟩
    obtain ⟨f1, wt1, c1, wh1, bw1, bq1, bc1, s0, s1, s2, s3, s4, d0, d1, j1, j2, j3, j4, j5, j6, j7, ones1, served1, fr1, st1, queue1, busy1, servedIn1, e1, e2, e3, e4⟩ := buy_1 (n := n) (m := m + d) hR hp ha (show b < N by omega) hB r0 r1 r2 r3 r4 b0 b1 k1 k2 k3 k4 k5 k6 k7 ones served fr queue busy servedIn KL KM
    obtain ⟨f2, wt2, c2, wh2, r02, r12, r22, r32, r42, b02, b12, bw2, bq2, bc2, k12, k22, k32, k42, k52, k62, k72, ones2, served2, fr2, st2, queue2, busy2, servedIn2, g1, g2, g3, g4⟩ := ih (b + 1) n m f1 wt1 c1 wh1 s0 s1 s2 s3 s4 d0 d1 bw1 bq1 bc1 j1 j2 j3 j4 j5 j6 j7 ones1 served1 fr1 st1 queue1 busy1 servedIn1 (by omega) (by omega) (hR.pages (fun k hk => e4 _ (by omega))) e3
    refine ⟨f2, wt2, c2, wh2, r02, r12, r22, r32, r42, b02, b12, bw2, bq2, bc2, k12, k22, k32, k42, k52, k62, k72, ones2, served2, fr2, st2, queue2, busy2, servedIn2, e1.trans g1, ?_, g3, fun k hk => by rw [g4 k hk, e4 k hk]⟩
    rw [show m + (d + 1) = m + d + 1 by omega, e2]
    exact g2
theorem buy_sk {p a : Nat} (hp : p < N) (ha : a < N) (hN : N ≤ 7) (KM : K10) (b0 b1 bw bq bc : Int32) (st queue busy servedIn : Nat → Int32) (hm : st 93 = nI N) : ∀ (e b m : Nat), b + e = 7 → N ≤ b → Mod_buy_L43 (nI p) KM (m + e) (nI (7 * a + b)) b0 b1 bw bq bc st queue busy servedIn = Mod_buy_L43 (nI p) KM m (nI (7 * a + 7)) b0 b1 bw bq bc st queue busy servedIn := by
  intro e
  induction e with
  | zero =>
    intro b m hb hNb
    obtain rfl : b = 7 := by omega
    rfl
  | succ e ih =>
    intro b m hb hNb
    obtain ⟨q1, q2⟩ := dv7 (7 * a + b) (by omega)
    rw [show (7 * a + b) / 7 = a by omega] at q1
    rw [show (7 * a + b) % 7 = b by omega, q1] at q2
    rw [show m + (e + 1) = m + e + 1 by omega, Mod_buy_L43, E_manyM hm]
    simp only [bindS]
    rw [show 7 * nI N = nI (7 * N) by rw [nL7, pk_mul], if_neg (nI_ge (by omega) (by omega))]
    simp only [bindS, nmI, q1, q2]
    rw [if_pos (nI_le (by omega) (by omega)), nI_a1]
    exact ih (b + 1) m (by omega) (by omega)
theorem buy_out {p : Nat} (hp : p < N) (KL : K19) (KM : K10) : ∀ (d a n m : Nat) (f wt c wh r0 r1 r2 r3 r4 b0 b1 bw bq bc : Int32) (k1 k2 k3 k4 k5 k6 k7 ones served fr st queue busy servedIn : Nat → Int32), a + d = N → d < n → RT N (nI N) law counters kind father comes wants cost coins debts st 0 → RBy (10 * a) f wt c wh bw bq bc →
    ∃ (f' wt' c' wh' r0' r1' r2' r3' r4' b0' b1' bw' bq' bc' : Int32) (k1' k2' k3' k4' k5' k6' k7' ones' served' fr' st' queue' busy' servedIn' : Nat → Int32),
      Adv_seekDebt_L10 (nI N) law counters kind father comes wants cost coins debts (nI p) KL n (nI a) f wt c wh r0 r1 r2 r3 k1 k2 k3 k4 k5 k6 k7 r4 ones served fr = KL f' wt' c' wh' r0' r1' r2' r3' k1' k2' k3' k4' k5' k6' k7' r4' ones' served' fr' ∧ Mod_buy_L43 (nI p) KM (m + 7 * d + 1) (nI (7 * a)) b0 b1 bw bq bc st queue busy servedIn = KM b0' b1' bw' bq' bc' st' queue' busy' servedIn' ∧ RBy (10 * N) f' wt' c' wh' bw' bq' bc' ∧ frm st st' := by
  intro d
  induction d with
  | zero =>
    intro a n m f wt c wh r0 r1 r2 r3 r4 b0 b1 bw bq bc k1 k2 k3 k4 k5 k6 k7 ones served fr st queue busy servedIn hb hn hR hB
    obtain ⟨n, rfl⟩ : ∃ k, n = k + 1 := ⟨n - 1, by omega⟩
    obtain rfl : a = N := by omega
    have hN := hR.N7
    have hm : st 93 = nI a := hR.many
    refine ⟨f, wt, c, wh, r0, r1, r2, r3, r4, b0, b1, bw, bq, bc, k1, k2, k3, k4, k5, k6, k7, ones, served, fr, st, queue, busy, servedIn, ?_, ?_, hB, fun _ _ => rfl⟩
    · rw [Adv_seekDebt_L10, if_pos (nI_le (by omega) (by omega))]
    · rw [Mod_buy_L43, E_manyM hm]
      simp only [bindS]
      rw [show 7 * nI a = nI (7 * a) by rw [nL7, pk_mul], if_pos (nI_le (by omega) (by omega))]
  | succ d ih =>
    intro a n m f wt c wh r0 r1 r2 r3 r4 b0 b1 bw bq bc k1 k2 k3 k4 k5 k6 k7 ones served fr st queue busy servedIn hb hn hR hB
    obtain ⟨n, rfl⟩ : ∃ k, n = k + 1 := ⟨n - 1, by omega⟩
    have hN := hR.N7
    rw [Adv_seekDebt_L10, if_neg (nI_ge (by omega) (by omega))]
    obtain ⟨f1, wt1, c1, wh1, r01, r11, r21, r31, r41, b01, b11, bw1, bq1, bc1, k11, k21, k31, k41, k51, k61, k71, ones1, served1, fr1, st1, queue1, busy1, servedIn1, e1, e2, e3, e4⟩ := buy_in hp (show a < N by omega) (fun f wt c wh r0 r1 r2 r3 k1 k2 k3 k4 k5 k6 k7 r4 ones served fr => nmI (nI a + 1) (fun x4 => Adv_seekDebt_L10 (nI N) law counters kind father comes wants cost coins debts (nI p) KL n x4 f wt c wh r0 r1 r2 r3 k1 k2 k3 k4 k5 k6 k7 r4 ones served fr)) KM N 0 FU (m + 7 * d + 1 + (7 - N)) f wt c wh r0 r1 r2 r3 r4 b0 b1 bw bq bc k1 k2 k3 k4 k5 k6 k7 ones served fr st queue busy servedIn (by omega) (by unfold FU; omega) hR hB
    obtain ⟨f2, wt2, c2, wh2, r02, r12, r22, r32, r42, b02, b12, bw2, bq2, bc2, k12, k22, k32, k42, k52, k62, k72, ones2, served2, fr2, st2, queue2, busy2, servedIn2, g1, g2, g3, g4⟩ := ih (a + 1) n m f1 wt1 c1 wh1 r01 r11 r21 r31 r41 b01 b11 bw1 bq1 bc1 k11 k21 k31 k41 k51 k61 k71 ones1 served1 fr1 st1 queue1 busy1 servedIn1 (by omega) (by omega) (hR.pages (fun k hk => e4 _ (by omega))) (e3.mono (by omega))
    refine ⟨f2, wt2, c2, wh2, r02, r12, r22, r32, r42, b02, b12, bw2, bq2, bc2, k12, k22, k32, k42, k52, k62, k72, ones2, served2, fr2, st2, queue2, busy2, servedIn2, ?_, ?_, g3, fun k hk => by rw [g4 k hk, e4 k hk]⟩
    · refine Eq.trans e1 ?_
      simp only [nmI, nI_a1]
      exact g1
    · rw [show m + 7 * (d + 1) + 1 = m + 7 * d + 1 + (7 - N) + N by omega]
      refine Eq.trans e2 ?_
      rw [buy_sk hp (show a < N by omega) hN KM b01 b11 bw1 bq1 bc1 st1 queue1 busy1 servedIn1 (by rw [e4 93 (by omega)]; exact hR.many) (7 - N) N (m + 7 * d + 1) (by omega) (by omega)]
      exact g2
theorem start_sim {st : Nat → Int32} (hR : RT N (nI N) law counters kind father comes wants cost coins debts st 0) {p : Nat} (hp : p < N) (k1 k2 k3 k4 k5 k6 k7 ones served fr queue busy servedIn : Nat → Int32) :
    ∃ (w : Nat) (pd L : Int32) (cs' ds' ones' served' fr' st' queue' busy' servedIn' : Nat → Int32), w ≤ 130 ∧ Adv_startFromNow (nI p) k1 k2 k3 k4 k5 k6 k7 ones served fr (nI N) law counters kind father comes wants cost coins debts = some (0, nI w, pd, nI N, law, counters, va_cpy kind k1 0 0 7, va_cpy father k2 0 0 7, va_cpy comes k3 0 0 7, va_cpy wants k4 0 0 7, va_cpy cost k5 0 0 7, cs', ds', L, ones', served', fr') ∧
      Mod_runsAll st queue busy servedIn = some (L, pd, st', queue', busy', servedIn') ∧ Mod_waitOf (nI p) st' servedIn' = some (nI w) ∧ frm st st' := by
  have hN := hR.N7
  obtain ⟨L, paid, coins', debts', ones', served', free', st', queue', busy', servedIn', s1, s2, s3, s4, s5, s6, s7, s8⟩ := run_sim (N := N) (last := 130) (ones := ones) (served := served) (queue := queue) (busy := busy) (servedIn := servedIn) (free := upd (upd fr 0 0) 1 0) (Nat.le_refl _) ((hR.copied 282).load k1 k2 k3 k4 k5 k6 k7) (by rw [upd_n (by omega), upd_s]) upd_s
  obtain ⟨v, v1, v2, v3, v4⟩ := s8 rfl p hp
  obtain ⟨⟨c, hc, he⟩, -⟩ := s4.rng p hp
  rw [he, nI_clamp (by omega)] at v2
  refine ⟨v - c, paid, nI L, coins', debts', ones', served', free', st', queue', busy', servedIn', by omega, ?_, ?_, ?_, fun k hk => by rw [s7 k (Or.inl hk), cpp_out (by omega)]⟩
  · unfold Adv_startFromNow
    rw [E_load]
    simp only [bindS]
    rw [show (130 : Int32) = nI 130 from rfl, s1]
    simp only [bindS]
    rw [E_waitT (by omega), v3, he, pk_sub v2]
    simp only [bindS]
  · unfold Mod_runsAll
    rw [E_copies0]
    simp only [bindS]
    rw [show (130 : Int32) = nI 130 from rfl, s2]
    simp only [bindS]
  · rw [E_waitM (by omega), v4, (s4.cel p hp).2.1, he, pk_sub v2]
/-- the answer, of what is found -/
theorem ans_sim {s v : Nat} (hs : s ≤ 1000) (hv : v ≤ 2) {f wt c wh bw bq bc : Int32} (h : RBy s f wt c wh bw bq bc) : ∃ x, Adv_answer (nI v) f wt c wh = some x ∧ Mod_best (nI v) bw bq bc = some x := by
  unfold Adv_answer Mod_best
  rcases h with ⟨rfl, rfl, rfl⟩ | ⟨rfl, rfl, rfl, rfl, s', h5, rfl⟩
  · exact ⟨-4, by rw [if_pos rfl], by rw [if_pos rfl]⟩
  · have hne : ¬ nI s' = -4 := fun hh => nI_pos (n := s') (by omega) (by rw [hh]; decide)
    rw [if_neg (show ¬ (1 : Int32) = 0 by decide), if_neg hne]
    rcases (show v = 0 ∨ v = 1 ∨ v = 2 by omega) with rfl | rfl | rfl
    · exact ⟨_, if_pos rfl, if_pos rfl⟩
    · exact ⟨nI s', by rw [if_neg (by decide), if_pos (by decide)], by rw [if_neg (by decide), if_pos (by decide)]⟩
    · exact ⟨_, by rw [if_neg (by decide), if_neg (by decide)], by rw [if_neg (by decide), if_neg (by decide)]⟩
theorem P_buy {people : Int32} {st : Nat → Int32} (hR : RT N people law counters kind father comes wants cost coins debts st 0) (p w r0 r1 r2 r3 r4 f0 f1 f2 f3 b0 b1 b2 b3 b4 : Int32) (k1 k2 k3 k4 k5 k6 k7 ones served fr queue busy servedIn : Nat → Int32) :
    ∃ o1 o2, Let_buy p w people law counters kind father comes wants cost coins debts r0 r1 r2 r3 k1 k2 k3 k4 k5 k6 k7 r4 ones served fr f0 f1 f2 f3 = some o1 ∧ Mod_buy p w b0 b1 b2 b3 b4 st queue busy servedIn = some o2 ∧ o1.1 = o2.1 ∧ frm st o2.2.2.2.2.2.2.1 := by
  have hN := hR.N7
  have hpp := hR.ppl
  subst hpp
  unfold Let_buy Mod_buy
  rw [E_isOneT, E_isOneM hN hR.many, E_in32c w (lo := 0) (hi := 2) (a := 0) (b := 2) rfl rfl]
  simp only [bindS]
  rcases oneB_cases hN p with ⟨h1, j, hj, rfl⟩ | h1
  · simp only [h1, i10, if_false]
    rcases rng_cases (t := w) (hi := 2) (n := 2) rfl (by omega) with ⟨e1, e2, v, hv, rfl⟩ | e
    · simp only [eq_true (show 0 ≤ nI v ∧ nI v ≤ 2 from ⟨e1, e2⟩), if_true, i10, if_false]
      rw [if_neg (i32_nlt.mpr e1), if_pos e2]
      obtain ⟨w0, pd, L, cs0, ds0, ones0, served0, fr0, st0, queue0, busy0, servedIn0, g0, g1, g2, g3, g4⟩ := start_sim hR hj k1 k2 k3 k4 k5 k6 k7 ones served fr queue busy servedIn
      unfold Adv_seekDebt
      rw [g1, g2]
      simp only [bindS]
      rw [g3]
      simp only [bindS]
      obtain ⟨f2, wt2, c2, wh2, r02, r12, r22, r32, r42, b02, b12, bw2, bq2, bc2, k12, k22, k32, k42, k52, k62, k72, ones2, served2, fr2, st2, queue2, busy2, servedIn2, u1, u2, u3, u4⟩ := buy_out hj (fun a1 a2 a3 a4 a5 a6 a7 a8 a9 a10 a11 a12 a13 a14 a15 a16 a17 a18 a19 => some (a1, a2, a3, a4, a5, a6, a7, a8, a9, a10, a11, a12, a13, a14, a15, a16, a17, a18, a19)) (fun a1 a2 a3 a4 a5 a6 a7 a8 a9 => (Mod_best (nI v) a3 a4 a5).bind (fun o => some (o, a1, a2, a3, a4, a5, a6, a7, a8, a9))) N 0 FU (FU - 7 * N - 1) 0 (nI w0) f2 f3 pd (nI N) law counters L L pd (nI w0) (-4) b4 (va_cpy kind k1 0 0 7) (va_cpy father k2 0 0 7) (va_cpy comes k3 0 0 7) (va_cpy wants k4 0 0 7) (va_cpy cost k5 0 0 7) cs0 ds0 ones0 served0 fr0 st0 queue0 busy0 servedIn0 (by omega) (by unfold FU; omega) (hR.pages (fun k hk => g4 _ (by omega))) (Or.inl ⟨rfl, rfl, rfl⟩)
      rw [show FU - 7 * N - 1 + 7 * N + 1 = FU by unfold FU; omega, Nat.mul_zero, show nI 0 = (0 : Int32) from rfl] at u2
      rw [show nI 0 = (0 : Int32) from rfl] at u1
      rw [u1, u2]
      obtain ⟨x, x1, x2⟩ := ans_sim (by omega) hv u3
      rw [x2]
      simp only [bindS]
      rw [x1]
      simp only [bindS]
      exact ⟨_, _, rfl, rfl, rfl, fun k hk => by rw [← g4 k hk]; exact u4 k hk⟩
    · simp only [eq_false e, if_false, i00, if_true]
      by_cases q : w < 0
      · rw [if_pos q]
        exact ⟨_, _, rfl, rfl, rfl, fun _ _ => rfl⟩
      · rw [if_neg q, if_neg (fun hh => e ⟨i32_nlt.mp q, hh⟩)]
        exact ⟨_, _, rfl, rfl, rfl, fun _ _ => rfl⟩
  · simp only [h1, i00, if_true]
    exact ⟨_, _, rfl, rfl, rfl, fun _ _ => rfl⟩
end BUY2
