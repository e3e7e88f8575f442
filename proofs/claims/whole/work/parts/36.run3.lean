section RUN3
variable {N : Nat} {law counters : Int32} {kind father comes wants cost : Nat → Int32} {cm : Nat → Nat} {st0 : Nat → Int32}
theorem skip_many (hcm : ∀ j, j < N → comes j = nI (cm j) ∧ cm j ≤ 60) {last c0 K L : Nat} (hlast : last ≤ 130) (hc0 : c0 < 2) {coins debts ones served free st queue busy servedIn : Nat → Int32} (hst : st 374 = nI c0) (paid : Int32)
    (KM : Int32 → Int32 → (Nat → Int32) → (Nat → Int32) → (Nat → Int32) → (Nat → Int32) → Option (Int32 × Int32 × (Nat → Int32) × (Nat → Int32) × (Nat → Int32) × (Nat → Int32))) :
    ∀ (e t n : Nat), t + e ≤ last + 1 → RI N law counters kind father comes wants cost cm st0 t 0 K coins debts L ones served free st queue busy servedIn → (∀ t', t ≤ t' → t' < t + e → quiet N cm c0 L free t') →
    Mod_runsTo_L48 (nI last) KM (n + e) (nI t) (nI L) paid st queue busy servedIn = Mod_runsTo_L48 (nI last) KM n (nI (t + e)) (nI L) paid st queue busy servedIn ∧ RI N law counters kind father comes wants cost cm st0 (t + e) 0 K coins debts L ones served free st queue busy servedIn := by
  intro e
  induction e with
  | zero => intro t n _ h _; exact ⟨rfl, h⟩
  | succ e ih =>
    intro t n hl h hq
    obtain ⟨q1, q2⟩ := hq t (Nat.le_refl _) (by omega)
    have hN := h.1.N7
    have hLN := arrv_le cm t 0 N
    have hK := h.2.1
    obtain ⟨r1, r2⟩ := ih (t + 1) n (by omega) (h.step0 q1) (fun t' g1 g2 => hq t' (by omega) (by omega))
    rw [show t + (e + 1) = t + 1 + e by omega]
    refine ⟨?_, r2⟩
    rw [show n + (e + 1) = n + e + 1 by omega, Mod_runsTo_L48, if_neg (nI_nlt (by omega) (by omega))]
    rw [show (0 : Int32) = nI 0 from rfl, skip_arr (by omega) hcm h q1 paid _ N 0 FU (by omega) (by unfold FU; omega)]
    rw [skip_take (by omega) hc0 hst (by omega) h.2.2.2.2.1 q2 _ (1 + c0) 0 FU (by omega) (by unfold FU; omega)]
    simp only [nmI, nI_a1]
    exact r1
theorem arrv_full (cm : Nat → Nat) (t p : Nat) : ∀ n, arrv cm t p n = n → ∀ j, j < n → arrd cm t p j := by
  intro n
  induction n with
  | zero => intro _ j hj; omega
  | succ n ih =>
    intro h j hj
    unfold arrv at h
    have h2 := arrv_le cm t p n
    by_cases hc : arrd cm t p n
    · rw [if_pos hc] at h
      by_cases e : j = n
      · subst e; exact hc
      · exact ih (by omega) j (by omega)
    · rw [if_neg hc] at h; omega
theorem main_sim (hcm : ∀ j, j < N → comes j = nI (cm j) ∧ cm j ≤ 60) {last c0 : Nat} (hlast : last ≤ 130) (hc0 : c0 < 2) (hctr : counters = nI (1 + c0))
    (KL : Int32 → (Nat → Int32) → (Nat → Int32) → Int32 → (Nat → Int32) → (Nat → Int32) → (Nat → Int32) → Option (Int32 × (Nat → Int32) × (Nat → Int32) × Int32 × (Nat → Int32) × (Nat → Int32) × (Nat → Int32)))
    (KM : Int32 → Int32 → (Nat → Int32) → (Nat → Int32) → (Nat → Int32) → (Nat → Int32) → Option (Int32 × Int32 × (Nat → Int32) × (Nat → Int32) × (Nat → Int32) × (Nat → Int32))) :
    ∀ (d x t m n1 n2 K L : Nat) (paid : Int32) (coins debts ones served free st queue busy servedIn : Nat → Int32), x + d = 15 → d < n1 → last + 1 - t < n2 → t ≤ m → t ≤ last + 1 → m ≤ 1000 → RI N law counters kind father comes wants cost cm st0 t 0 K coins debts L ones served free st queue busy servedIn → x + 2 * N ≤ 15 + arrv cm t 0 N + K → (∀ t', t ≤ t' → t' < m → quiet N cm c0 L free t') → (x = 0 ∨ m = 1000 ∨ (∃ j, j < N ∧ cm j = m) ∨ (0 < L ∧ ∃ c', c' < 1 + c0 ∧ free c' = nI m)) → (t = 0 ∨ L = 0 ∨ aft free 0 (t - 1)) →
    ∃ (K' L' : Nat) (paid' : Int32) (coins' debts' ones' served' free' st' queue' busy' servedIn' : Nat → Int32),
      Run_go_L4 (nI N) law counters kind father comes wants (nI last) KL n1 (nI m) (nI x) paid coins debts (nI L) ones served free = KL paid' coins' debts' (nI L') ones' served' free' ∧
      Mod_runsTo_L48 (nI last) KM n2 (nI t) (nI L) paid st queue busy servedIn = KM (nI L') paid' st' queue' busy' servedIn' ∧
      RI N law counters kind father comes wants cost cm st0 (last + 1) 0 K' coins' debts' L' ones' served' free' st' queue' busy' servedIn' ∧ (L' = 0 ∨ aft free' 0 last) := by
  have fin : ∀ (x t m n1 n2 K L : Nat) (paid : Int32) (coins debts ones served free st queue busy servedIn : Nat → Int32), last < m → last + 1 - t < n2 → t ≤ last + 1 → RI N law counters kind father comes wants cost cm st0 t 0 K coins debts L ones served free st queue busy servedIn → (∀ t', t ≤ t' → t' < m → quiet N cm c0 L free t') → (t = 0 ∨ L = 0 ∨ aft free 0 (t - 1)) → Mod_runsTo_L48 (nI last) KM n2 (nI t) (nI L) paid st queue busy servedIn = KM (nI L) paid st queue busy servedIn ∧ RI N law counters kind father comes wants cost cm st0 (last + 1) 0 K coins debts L ones served free st queue busy servedIn ∧ (L = 0 ∨ aft free 0 last) := by
    intro x t m n1 n2 K L paid coins debts ones served free st queue busy servedIn hm hn ht h hq hJ
    obtain ⟨c1, g1, g2, g3⟩ := h.1.ctr
    have hc1 : c1 = c0 := by
      rw [hctr] at g2
      have := (nI_eq (by omega) (by omega)).mp g2
      omega
    subst hc1
    obtain ⟨k, hk⟩ : ∃ k, n2 = k + 1 + (last + 1 - t) := ⟨n2 - 1 - (last + 1 - t), by omega⟩
    obtain ⟨r1, r2⟩ := skip_many hcm hlast hc0 g3 paid KM (last + 1 - t) t (k + 1) (by omega) h (fun t' a1 a2 => hq t' a1 (by omega))
    rw [show t + (last + 1 - t) = last + 1 by omega] at r1 r2
    refine ⟨?_, r2, ?_⟩
    · rw [hk, r1, Mod_runsTo_L48, if_pos (nI_lt (by omega) (by omega))]
    · by_cases e : t ≤ last
      · rcases (hq last e hm).2 with z | z
        · exact Or.inl z
        · exact Or.inr (z 0 (by omega))
      · rcases hJ with z | z | z
        · omega
        · exact Or.inl z
        · right
          rw [show t - 1 = last by omega] at z
          exact z
  intro d
  induction d with
  | zero =>
    intro x t m n1 n2 K L paid coins debts ones served free st queue busy servedIn hx h1 h2 htm htl hm h hmu hq hev hJ
    obtain ⟨n1, rfl⟩ : ∃ k, n1 = k + 1 := ⟨n1 - 1, by omega⟩
    have hN := h.1.N7
    have hA := arrv_le cm t 0 N
    have hK := h.2.1
    have hm1 : m = 1000 := by
      rcases hev with e | e | ⟨j, hj, e⟩ | ⟨e, -⟩
      · omega
      · exact e
      · have := arrv_full cm t 0 N (by omega) j hj
        unfold arrd at this
        omega
      · omega
    obtain ⟨r1, r2, r3⟩ := fin x t m (n1 + 1) n2 K L paid coins debts ones served free st queue busy servedIn (by omega) h2 htl h hq hJ
    refine ⟨K, L, paid, coins, debts, ones, served, free, st, queue, busy, servedIn, ?_, r1, r2, r3⟩
    rw [Run_go_L4, if_pos (show (14 : Int32) < nI x from nI_lt (a := 14) (by omega) (by omega))]
  | succ d ih =>
    intro x t m n1 n2 K L paid coins debts ones served free st queue busy servedIn hx h1 h2 htm htl hm h hmu hq hev hJ
    obtain ⟨n1, rfl⟩ : ∃ k, n1 = k + 1 := ⟨n1 - 1, by omega⟩
    have hN := h.1.N7
    rw [Run_go_L4, if_neg (show ¬ (14 : Int32) < nI x from nI_nlt (a := 14) (by omega) (by omega))]
    by_cases hml : last < m
    · obtain ⟨r1, r2, r3⟩ := fin x t m (n1 + 1) n2 K L paid coins debts ones served free st queue busy servedIn hml h2 htl h hq hJ
      refine ⟨K, L, paid, coins, debts, ones, served, free, st, queue, busy, servedIn, ?_, r1, r2, r3⟩
      rw [if_pos (nI_lt hml (by omega))]
    · rw [if_neg (nI_nlt (by omega) (by omega))]
      obtain ⟨c1, g1, g2, g3⟩ := h.1.ctr
      have hc1 : c1 = c0 := by
        rw [hctr] at g2
        have := (nI_eq (by omega) (by omega)).mp g2
        omega
      subst hc1
      -- the quiet minutes ahead of m
      obtain ⟨k, hk⟩ : ∃ k, n2 = k + 1 + (m - t) := ⟨n2 - 1 - (m - t), by omega⟩
      obtain ⟨r1, hm0⟩ := skip_many hcm hlast hc0 g3 paid KM (m - t) t (k + 1) (by omega) h (fun t' a1 a2 => hq t' a1 (by omega))
      rw [show t + (m - t) = m by omega] at r1 hm0
      have hJm : L = 0 ∨ m = 0 ∨ aft free 0 (m - 1) := by
        by_cases e : t = m
        · subst e
          rcases hJ with z | z | z
          · exact Or.inr (Or.inl z)
          · exact Or.inl z
          · exact Or.inr (Or.inr z)
        · rcases (hq (m - 1) (by omega) (by omega)).2 with z | z
          · exact Or.inl z
          · exact Or.inr (Or.inr (z 0 (by omega)))
      rw [hk, r1, Mod_runsTo_L48, if_neg (nI_nlt (by omega) (by omega)), show (0 : Int32) = nI 0 from rfl]
      -- who comes
      obtain ⟨L1, paid1, coins1, debts1, ones1, st1, queue1, a1, a2, a3⟩ := arrive_sim hcm (by omega) (fun paid coins debts L ones => (Run_takeAt (nI m) counters wants L ones served free).bind (fun o_26 => (Run_minuteBehind (nI m) (nI N) counters comes o_26.1 o_26.2.2.2).bind (fun o_27 => nmI (nI x + 1) (fun x3 => Run_go_L4 (nI N) law counters kind father comes wants (nI last) KL n1 o_27 x3 paid coins debts o_26.1 o_26.2.1 o_26.2.2.1 o_26.2.2.2)))) (fun queued payed st queue => Mod_runsTo_L103 (nI m) st (fun queued2 queue busy servedIn => nmI (nI m + 1) (fun x2 => Mod_runsTo_L48 (nI last) KM k x2 queued2 payed st queue busy servedIn)) FU (nI 0) queued queue busy servedIn) N 0 FU FU L paid coins debts ones st queue (by omega) (by unfold FU; omega) (by unfold FU; omega) hm0
      rw [a1, a2]
      obtain ⟨c2, b1, b2, b3⟩ := a3.1.ctr
      have hc2 : c2 = c1 := by
        rw [hctr] at b2
        have := (nI_eq (by omega) (by omega)).mp b2
        omega
      subst hc2
      have hz2 : L1 = 0 ∨ m ≤ 60 + 9 * K := by
        by_cases e : m ≤ 60
        · right; omega
        · have e0 : arrv cm m N N = arrv cm m 0 N := arrv_none cm m N N (fun j hj hh => by have := (hcm j hj).2; omega)
          have e1 := a3.2.1
          have e2 := hm0.2.1
          rcases hJm with z | z | ⟨b, z1, z2, z3⟩
          · left; omega
          · omega
          · right
            obtain ⟨b', y1, y2⟩ := hm0.2.2.2.2.2.1
            rw [z2] at y1
            by_cases hb' : b' < 2 ^ 31
            · have := (nI_eq (by omega) hb').mp y1
              omega
            · have hA := arrv_le cm m 0 N
              omega
      -- who is taken
      obtain ⟨L2, K2, ones2, served2, free2, queue2, busy2, servedIn2, t1, t2, t3, t4, t5⟩ := take_sim hcm (by omega) hc0 hctr b3 (fun a b c d => some (a, b, c, d)) (fun queued2 queue busy servedIn => nmI (nI m + 1) (fun x2 => Mod_runsTo_L48 (nI last) KM k x2 queued2 paid1 st1 queue busy servedIn)) (1 + c2) 0 FU FU L1 K ones1 served free queue1 busy servedIn (by omega) (by unfold FU; omega) (by unfold FU; omega) a3 (Or.inr (fun c' hc' => by omega)) (fun _ => hz2)
      rw [t2]
      unfold Run_takeAt
      rw [show (0 : Int32) = nI 0 from rfl, t1]
      simp only [Option.bind_some]
      have hA2 := arrv_le cm m N N
      have hK2 := t3.2.1
      obtain ⟨m', s1, s2, s3, s4, s5, s6⟩ := E_next (free := free2) (L := L2) hN hcm (by omega) (t := m) (by omega) hc0 (fun c hc => by
        obtain ⟨-, b, q1, q2⟩ := t3.2.2.2.2.1 c (by omega)
        refine ⟨b, q1, q2, fun hz => ?_⟩
        rcases t4 with z | z
        · omega
        · obtain ⟨b', w1, w2, w3⟩ := z c hc
          rw [q2] at w2
          have := (nI_eq (by omega) (by omega)).mp w2
          omega)
      rw [hctr, s1]
      simp only [Option.bind_some, nmI, nI_a1]
      rw [← hctr]
      have hn := t3.next (p := 0)
      refine ih (x + 1) (m + 1) m' n1 k K2 L2 paid1 coins1 debts1 ones2 served2 free2 st1 queue2 busy2 servedIn2 (by clear hev s6; omega) (by clear hev s6; omega) (by clear hev s6; omega) (by clear hev s6; omega) (by clear hev s6; omega) s3 hn ?_ ?_ (Or.inr s6) ?_
      · have e0 : arrv cm (m + 1) 0 N = arrv cm m N N := arrv_n cm m N N (Nat.le_refl _)
        have e3 : arrv cm m 0 N = arrv cm t 0 N := by
          have y1 := hm0.2.1
          have y2 := h.2.1
          omega
        have e4 := arrv_mono cm m N N
        have hKK : K ≤ K2 := by rcases t5 with z | z <;> omega
        rw [e0]
        rcases hev with e | e | ⟨j, hj, e⟩ | ⟨e, c', hc', hf'⟩
        · omega
        · omega
        · have := arrv_ev cm m N j hj e N hj
          omega
        · rcases t5 with z | ⟨z1, z2, z3⟩
          · omega
          · exfalso
            have y1 := hm0.2.1
            have y3 := a3.2.1
            rcases t4 with w | w
            · omega
            · obtain ⟨b, w1, w2, w3⟩ := w c' hc'
              rw [z3, hf'] at w2
              have := (nI_eq (by omega) (by omega)).mp w2
              omega
      · intro t' h3 h4
        refine ⟨fun j hj hh => ?_, ?_⟩
        · have := s4 j hj (by omega)
          omega
        · rcases Nat.eq_zero_or_pos L2 with z | z
          · exact Or.inl z
          · right
            intro c hc
            obtain ⟨-, b, q1, q2⟩ := t3.2.2.2.2.1 c (by omega)
            exact ⟨b, q1, q2, by have := s5 z c hc b q1 q2; omega⟩
      · rcases t4 with z | z
        · exact Or.inr (Or.inl z)
        · exact Or.inr (Or.inr (z 0 (by omega)))
/-- THE RUN: what both say of it, up to a minute -/
theorem run_sim {last : Nat} (hlast : last ≤ 130) {coins debts st queue ones served free busy servedIn : Nat → Int32} (hR : RT N (nI N) law counters kind father comes wants cost coins debts st 282) (hf0 : free 0 = 0) (hf1 : free 1 = 0) :
    ∃ (L : Nat) (paid : Int32) (coins' debts' ones' served' free' st' queue' busy' servedIn' : Nat → Int32),
      Run_go (nI last) 0 (nI N) law counters kind father comes wants coins debts 0 ones served free = some (paid, coins', debts', nI L, ones', served', free') ∧
      Mod_runsTo (nI last) st queue busy servedIn = some (nI L, paid, st', queue', busy', servedIn') ∧
      L ≤ N ∧ RT N (nI N) law counters kind father comes wants cost coins' debts' st' 282 ∧ (∀ i, i < L → queue' i = ones' i) ∧ (∀ i, i < L → ∃ j, j < N ∧ ones' i = nI j) ∧ (∀ k, (k < 282 ∨ 376 ≤ k) → st' k = st k) ∧
      (last = 130 → ∀ j, j < N → ∃ v, v ≤ 130 ∧ (comes j).toNatClampNeg ≤ v ∧ served' j = nI v ∧ servedIn' j = nI v) := by
  have hN := hR.N7
  have hcm : ∀ j, j < N → comes j = nI ((comes j).toNatClampNeg) ∧ (comes j).toNatClampNeg ≤ 60 := fun j hj => by
    obtain ⟨⟨c, hc, he⟩, -⟩ := hR.rng j hj
    rw [he, nI_clamp (by omega)]
    exact ⟨rfl, hc⟩
  obtain ⟨c0, hc0, hctr, hst⟩ := hR.ctr
  have hL26 : ∀ (K : (Nat → Int32) → Option (Int32 × Int32 × (Nat → Int32) × (Nat → Int32) × (Nat → Int32) × (Nat → Int32))) (d i n : Nat) (sv : Nat → Int32), i + d = 7 → d < n → ∃ sv', Mod_runsTo_L26 K n (nI i) sv = K sv' := by
    intro K d
    induction d with
    | zero =>
      intro i n sv h1 h2
      obtain ⟨n, rfl⟩ : ∃ k, n = k + 1 := ⟨n - 1, by omega⟩
      exact ⟨sv, by rw [Mod_runsTo_L26, if_pos (show (7 : Int32) ≤ nI i from nI_le (a := 7) (by omega) (by omega))]⟩
    | succ d ih =>
      intro i n sv h1 h2
      obtain ⟨n, rfl⟩ : ∃ k, n = k + 1 := ⟨n - 1, by omega⟩
      rw [Mod_runsTo_L26, if_neg (show ¬ (7 : Int32) ≤ nI i from nI_ge (b := 7) (by omega) (by omega)), wrA_nI (by omega) (by omega)]
      simp only [nmI, nI_a1]
      exact ih (i + 1) n _ (by omega) (by omega)
  unfold Run_go Mod_runsTo
  rw [show (0 : Int32) = nI 0 from rfl, show (1 : Int32) = nI 1 from rfl, wrA_nI (by omega) (by omega), wrA_nI (by omega) (by omega)]
  obtain ⟨sv', e26⟩ := hL26 (fun t_servedIn_7 => Mod_runsTo_L48 (nI last) (fun a b c d e f => some (a, b, c, d, e, f)) FU (nI 0) (nI 0) (nI 0) st queue (upd (upd busy 0 (nI 0)) 1 (nI 0)) t_servedIn_7) 7 0 FU servedIn (by omega) (by unfold FU; omega)
  rw [e26]
  have ar0 : arrv (fun j => (comes j).toNatClampNeg) 0 0 N = 0 := by
    have : ∀ n, arrv (fun j => (comes j).toNatClampNeg) 0 0 n = 0 := by
      intro n
      induction n with
      | zero => rfl
      | succ n ih => unfold arrv; rw [ih, if_neg (by unfold arrd; omega)]
    exact this N
  obtain ⟨K', L', paid', coins', debts', ones', served', free', st', queue', busy', servedIn', r1, r2, r3, r4⟩ := main_sim (cm := fun j => (comes j).toNatClampNeg) (st0 := st) hcm hlast hc0 hctr (fun a b c d e f g => some (a, b, c, d, e, f, g)) (fun a b c d e f => some (a, b, c, d, e, f)) 15 0 0 0 FU FU 0 0 (nI 0) coins debts ones served free st queue (upd (upd busy 0 (nI 0)) 1 (nI 0)) sv' (by omega) (by unfold FU; omega) (by unfold FU; omega) (Nat.le_refl 0) (by omega) (by omega) (by
    refine ⟨hR, by omega, fun i hi => by omega, fun i hi => by omega, fun c hc => ?_, ⟨0, hf0, by omega⟩, fun j hj ha => ?_, fun _ _ => rfl⟩
    · rcases (show c = 0 ∨ c = 1 by omega) with e | e
      · subst e; exact ⟨by rw [upd_n (by omega), upd_s, hf0]; rfl, 0, by omega, hf0⟩
      · subst e; exact ⟨by rw [upd_s, hf1]; rfl, 0, by omega, hf1⟩
    · unfold arrd at ha; omega) (by omega) (fun t' h1 h2 => by omega) (Or.inl rfl) (Or.inl rfl)
  rw [r1, r2]
  obtain ⟨w1, w2, w3, w4, w5, w6, w7, w8⟩ := r3
  have hA := arrv_le (fun j => (comes j).toNatClampNeg) (last + 1) 0 N
  refine ⟨L', paid', coins', debts', ones', served', free', st', queue', busy', servedIn', rfl, rfl, by omega, w1, w3, fun i hi => ?_, w8, fun hl j hj => ?_⟩
  · obtain ⟨j, g1, -, g3⟩ := w4 i hi
    exact ⟨j, g1, g3⟩
  · have hall : ∀ j, j < N → (comes j).toNatClampNeg < last + 1 := fun j hj => by have := (hcm j hj).2; omega
    have hL0 : L' = 0 := by
      rcases r4 with z | ⟨b, z1, z2, z3⟩
      · exact z
      · obtain ⟨b', y1, y2⟩ := w6
        have hb' : b' < 2 ^ 31 := by omega
        rw [z2] at y1
        have := (nI_eq (by omega) hb').mp y1
        omega
    subst hL0
    rcases w7 j hj (Or.inl (hall j hj)) with ⟨i, hi, -⟩ | hv
    · omega
    · exact hv
end RUN3
