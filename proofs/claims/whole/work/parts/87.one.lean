section ONE
variable {n : Nat} {c : Nat → Nat} {tb tp cuts letters : Nat → Int32}
theorem px1 (k : Nat) : nI k + 1 = nI (k + 1) := nI_a1 k
theorem px2 (k : Nat) : nI k + 2 = nI (k + 2) := by rw [nL2, nI_add]
theorem px3 (k : Nat) : nI k + 3 = nI (k + 3) := by rw [nL3, nI_add]
theorem px4 (k : Nat) : nI k + 4 = nI (k + 4) := by rw [nL4, nI_add]
theorem px5 (k : Nat) : nI k + 5 = nI (k + 5) := by rw [nL5, nI_add]
theorem r93 {α : Type} {f : Nat → Int32} {k : Int32 → Option α} : rdA f 94 93 k = k (f 93) := rdA_nI (j := 93) (by omega) (by omega)
theorem w93 {α : Type} {f : Nat → Int32} {x : Int32} {k : (Nat → Int32) → Option α} : wrA f 94 93 x k = k (upd f 93 x) := wrA_nI (j := 93) (by omega) (by omega)
theorem roT_b {N : Nat} (hN : N < 7) {b : Int32} (hb : BK b) (hi ba sp he tk va : Int32) (rp : Nat → Int32) : roT (nI n) tp (nI (6 * N)) hi b ba sp he tk va rp = some (hi, b, ba, sp, he, tk, va, upd (upd (upd (upd (upd rp (6 * N + 1) (0)) (6 * N + 2) (1)) (6 * N + 3) (0)) (6 * N + 4) (0)) 93 ((upd (upd (upd (upd rp (6 * N + 1) (0)) (6 * N + 2) (1)) (6 * N + 3) (0)) (6 * N + 4) (0)) 93 + 1)) := by
  unfold roT
  rw [number_b hb]
  simp only [bindS]
  rw [px1, wrA_nI (by omega) (by omega)]
  rw [number_b hb]
  simp only [bindS]
  rw [px2, wrA_nI (by omega) (by omega)]
  rw [number_b hb]
  simp only [bindS]
  rw [px3, wrA_nI (by omega) (by omega)]
  rw [number_b hb]
  simp only [bindS]
  rw [px4, wrA_nI (by omega) (by omega)]
  rw [r93, w93]
def pgN (N v0 v1 v2 v3 : Nat) (rp : Nat → Int32) : Nat → Int32 := upd (upd (upd (upd (upd rp (6 * N + 1) (nI v0)) (6 * N + 2) (nI v1)) (6 * N + 3) (nI v2)) (6 * N + 4) (nI v3)) 93 (nI (N + 1))
theorem chain_sim (h : CH n c tb tp) {r0 N : Nat} (hr : r0 ≤ n) (hN : N < 7) :
    (∃ q q1 v v0 v1 v2 v3 : Nat, r0 < q ∧ q ≤ n ∧ v0 ≤ 60 ∧ (1 ≤ v1 ∧ v1 ≤ 9) ∧ v2 ≤ 9 ∧ v3 ≤ 50 ∧ (∀ (f x1 x4 x5 x6 : Int32) (kd fa comes wants cost coins : Nat → Int32), rdT (nI N) comes wants cost coins (nI n) tb (x1, f, nI r0, x4, x5, x6, kd, fa) = some (1, f, nI q, 3, nI q1, nI v, nI (N + 1), kd, fa, upd comes N (nI v0), upd wants N (nI v1), upd cost N (nI v2), upd coins N (nI v3))) ∧ ∀ (ba h t w hi hl hc : Int32) (rp : Nat → Int32) (o : Int32 × Int32 × Int32 × Int32 × Int32 × Int32), rp 93 = nI N → (∀ h t w, Mod_step (nI n) 0 ba (nI q) h t w tp = some o) → ∃ y z, Mod_step (nI n) 0 ba (nI r0) h t w tp = some y ∧ roT (nI n) tp (nI (6 * N)) hi y.1 y.2.1 y.2.2.1 y.2.2.2.1 y.2.2.2.2.1 y.2.2.2.2.2 rp = some z ∧ mlT (nI n) tp hl hc z.1 z.2.1 z.2.2.1 z.2.2.2.1 z.2.2.2.2.1 z.2.2.2.2.2.1 z.2.2.2.2.2.2.1 z.2.2.2.2.2.2.2 = some (hl, hc, hi, o.1, o.2.1, o.2.2.1, o.2.2.2.1, o.2.2.2.2.1, o.2.2.2.2.2, pgN N v0 v1 v2 v3 rp)) ∨
    ∃ k pf : Nat, 1 ≤ k ∧ k ≤ 6 ∧ (∀ (f x1 x4 x5 x6 : Int32) (kd fa comes wants cost coins : Nat → Int32), ∃ o, rdT (nI N) comes wants cost coins (nI n) tb (x1, f, nI r0, x4, x5, x6, kd, fa) = some o ∧ o.1 = 0 ∧ o.2.1 = nI k ∧ o.2.2.2.2.1 = nI pf) ∧ ∀ (ba h t w hi hl hc : Int32) (rp : Nat → Int32), ∃ y z o, Mod_step (nI n) 0 ba (nI r0) h t w tp = some y ∧ roT (nI n) tp (nI (6 * N)) hi y.1 y.2.1 y.2.2.1 y.2.2.2.1 y.2.2.2.2.1 y.2.2.2.2.2 rp = some z ∧ mlT (nI n) tp hl hc z.1 z.2.1 z.2.2.1 z.2.2.2.1 z.2.2.2.2.1 z.2.2.2.2.2.1 z.2.2.2.2.2.2.1 z.2.2.2.2.2.2.2 = some o ∧ o.2.2.2.1 = nI k ∧ o.2.2.2.2.1 = nI pf := by
  have h4 := h.1
  rcases E_num h (lo := 0) (hi := 60) hr (by omega) (by omega) with ⟨r1, v0, g0_1, g0_2, g0_3, g0_4, a0, g0_5, g0_6, g0_7⟩ | ⟨k, pf, g1, g2, g3, ⟨x2, x3, x5, g4⟩, g5⟩
  · rw [show nI 0 = (0 : Int32) from rfl, show nI 60 = (60 : Int32) from rfl] at g0_5 g0_7
    rcases E_num h (lo := 1) (hi := 9) g0_2 (by omega) (by omega) with ⟨r2, v1, g1_1, g1_2, g1_3, g1_4, a1, g1_5, g1_6, g1_7⟩ | ⟨k, pf, g1, g2, g3, ⟨x2, x3, x5, g4⟩, g5⟩
    · rw [show nI 1 = (1 : Int32) from rfl, show nI 9 = (9 : Int32) from rfl] at g1_5 g1_7
      rcases E_num h (lo := 0) (hi := 9) g1_2 (by omega) (by omega) with ⟨r3, v2, g2_1, g2_2, g2_3, g2_4, a2, g2_5, g2_6, g2_7⟩ | ⟨k, pf, g1, g2, g3, ⟨x2, x3, x5, g4⟩, g5⟩
      · rw [show nI 0 = (0 : Int32) from rfl, show nI 9 = (9 : Int32) from rfl] at g2_5 g2_7
        rcases E_num h (lo := 0) (hi := 50) g2_2 (by omega) (by omega) with ⟨r4, v3, g3_1, g3_2, g3_3, g3_4, a3, g3_5, g3_6, g3_7⟩ | ⟨k, pf, g1, g2, g3, ⟨x2, x3, x5, g4⟩, g5⟩
        · rw [show nI 0 = (0 : Int32) from rfl, show nI 50 = (50 : Int32) from rfl] at g3_5 g3_7
          rcases E_stop h g3_2 with ⟨q, q1, v, s1, s2, s3, s4⟩ | ⟨k, pf, s1, s2, s3, ⟨x2, x3, x5, s4⟩, s5⟩
          · refine Or.inl ⟨q, q1, v, v0, v1, v2, v3, by omega, s2, g0_4, ⟨g1_3, g1_4⟩, g2_4, g3_4, fun f x1 x4 x5 x6 kd fa comes wants cost coins => ?_, fun ba hh t w hi hl hc rp o h93 ho => ⟨(0, ba, nI r1, nI a0, 2, nI v0), (hi, 0, ba, nI q, nI q1, 3, nI v, pgN N v0 v1 v2 v3 rp), g0_6 ba hh t w, ?_, mlT_3 _ _ _ _ _ _ _ _ _ (ho _ _ _)⟩⟩
            · unfold rdT
              rw [g0_5]
              simp only [bindS, i10, if_false]
              rw [wrA_nI (by omega) (by omega)]
              rw [g1_5]
              simp only [bindS, i10, if_false]
              rw [wrA_nI (by omega) (by omega)]
              rw [g2_5]
              simp only [bindS, i10, if_false]
              rw [wrA_nI (by omega) (by omega)]
              rw [g3_5]
              simp only [bindS, i10, if_false]
              rw [wrA_nI (by omega) (by omega)]
              simp only [nmI_e, nI_a1]
              rw [s3]
              simp only [bindS, or_true, if_true]
            · unfold roT pgN
              rw [number_g (g0_7 ba) (g1_6 ba _ _ _)]
              simp only [bindS]
              rw [px1, wrA_nI (by omega) (by omega)]
              rw [number_g (g1_7 ba) (g2_6 ba _ _ _)]
              simp only [bindS]
              rw [px2, wrA_nI (by omega) (by omega)]
              rw [number_g (g2_7 ba) (g3_6 ba _ _ _)]
              simp only [bindS]
              rw [px3, wrA_nI (by omega) (by omega)]
              rw [number_g (g3_7 ba) (s4 ba _ _ _)]
              simp only [bindS]
              rw [px4, wrA_nI (by omega) (by omega)]
              rw [r93, w93, upd_n (by omega), upd_n (by omega), upd_n (by omega), upd_n (by omega), h93, nI_a1]
          · refine Or.inr ⟨k, pf, s1, s2, fun f x1 x4 x5' x6 kd fa comes wants cost coins => ⟨(0, nI k, x2, x3, nI pf, x5, nI (N + 1), kd, fa, upd comes N (nI v0), upd wants N (nI v1), upd cost N (nI v2), upd coins N (nI v3)), ?_, rfl, rfl, rfl⟩, fun ba hh t w hi hl hc rp => ?_⟩
            · unfold rdT
              rw [g0_5]
              simp only [bindS, i10, if_false]
              rw [wrA_nI (by omega) (by omega)]
              rw [g1_5]
              simp only [bindS, i10, if_false]
              rw [wrA_nI (by omega) (by omega)]
              rw [g2_5]
              simp only [bindS, i10, if_false]
              rw [wrA_nI (by omega) (by omega)]
              rw [g3_5]
              simp only [bindS, i10, if_false]
              rw [wrA_nI (by omega) (by omega)]
              simp only [nmI_e, nI_a1]
              rw [s4]
              simp only [bindS, true_or, if_true]
            · obtain ⟨b', a', s', h', t', v', e1, e2⟩ := s5 ba (nI a3) 2 (nI v3)
              obtain ⟨o, e3, e4⟩ := e2 hl hc hi (upd (upd (upd (upd (upd rp (6 * N + 1) (nI v0)) (6 * N + 2) (nI v1)) (6 * N + 3) (nI v2)) (6 * N + 4) (nI v3)) 93 ((upd (upd (upd (upd rp (6 * N + 1) (nI v0)) (6 * N + 2) (nI v1)) (6 * N + 3) (nI v2)) (6 * N + 4) (nI v3)) 93 + 1))
              refine ⟨(0, ba, nI r1, nI a0, 2, nI v0), (hi, b', a', s', h', t', v', upd (upd (upd (upd (upd rp (6 * N + 1) (nI v0)) (6 * N + 2) (nI v1)) (6 * N + 3) (nI v2)) (6 * N + 4) (nI v3)) 93 ((upd (upd (upd (upd rp (6 * N + 1) (nI v0)) (6 * N + 2) (nI v1)) (6 * N + 3) (nI v2)) (6 * N + 4) (nI v3)) 93 + 1)), o, g0_6 ba hh t w, ?_, e3, e4⟩
              unfold roT
              rw [number_g (g0_7 ba) (g1_6 ba _ _ _)]
              simp only [bindS]
              rw [px1, wrA_nI (by omega) (by omega)]
              rw [number_g (g1_7 ba) (g2_6 ba _ _ _)]
              simp only [bindS]
              rw [px2, wrA_nI (by omega) (by omega)]
              rw [number_g (g2_7 ba) (g3_6 ba _ _ _)]
              simp only [bindS]
              rw [px3, wrA_nI (by omega) (by omega)]
              rw [number_g (g3_7 ba) e1]
              simp only [bindS]
              rw [px4, wrA_nI (by omega) (by omega)]
              rw [r93, w93]
        · have hb := BK_n g1 g2
          rw [show nI 0 = (0 : Int32) from rfl, show nI 50 = (50 : Int32) from rfl] at g4 g5
          refine Or.inr ⟨k, pf, g1, g2, fun f x1 x4 x5' x6 kd fa comes wants cost coins => ⟨(0, nI k, x2, x3, nI pf, x5, nI N, kd, fa, upd comes N (nI v0), upd wants N (nI v1), upd cost N (nI v2), coins), ?_, rfl, rfl, rfl⟩, fun ba hh t w hi hl hc rp => ?_⟩
          · unfold rdT
            rw [g0_5]
            simp only [bindS, i10, if_false]
            rw [wrA_nI (by omega) (by omega)]
            rw [g1_5]
            simp only [bindS, i10, if_false]
            rw [wrA_nI (by omega) (by omega)]
            rw [g2_5]
            simp only [bindS, i10, if_false]
            rw [wrA_nI (by omega) (by omega)]
            rw [g4]
            simp only [bindS, if_true]
          · obtain ⟨b', a', s', h', t', v', e1, e2⟩ := g5 ba (nI a2) 2 (nI v2)
            refine ⟨(0, ba, nI r1, nI a0, 2, nI v0), (hi, nI k, nI pf, s', h', t', v', upd (upd (upd (upd (upd rp (6 * N + 1) (nI v0)) (6 * N + 2) (nI v1)) (6 * N + 3) (nI v2)) (6 * N + 4) (0)) 93 ((upd (upd (upd (upd rp (6 * N + 1) (nI v0)) (6 * N + 2) (nI v1)) (6 * N + 3) (nI v2)) (6 * N + 4) (0)) 93 + 1)), _, g0_6 ba hh t w, ?_, mlT_b hb _ _ _ _ _ _ _ _ _ _, rfl, rfl⟩
            unfold roT
            rw [number_g (g0_7 ba) (g1_6 ba _ _ _)]
            simp only [bindS]
            rw [px1, wrA_nI (by omega) (by omega)]
            rw [number_g (g1_7 ba) (g2_6 ba _ _ _)]
            simp only [bindS]
            rw [px2, wrA_nI (by omega) (by omega)]
            rw [number_g (g2_7 ba) e1]
            simp only [bindS]
            rw [px3, wrA_nI (by omega) (by omega)]
            rw [number_x hb e2]
            simp only [bindS]
            rw [px4, wrA_nI (by omega) (by omega)]
            rw [r93, w93]
      · have hb := BK_n g1 g2
        rw [show nI 0 = (0 : Int32) from rfl, show nI 9 = (9 : Int32) from rfl] at g4 g5
        refine Or.inr ⟨k, pf, g1, g2, fun f x1 x4 x5' x6 kd fa comes wants cost coins => ⟨(0, nI k, x2, x3, nI pf, x5, nI N, kd, fa, upd comes N (nI v0), upd wants N (nI v1), cost, coins), ?_, rfl, rfl, rfl⟩, fun ba hh t w hi hl hc rp => ?_⟩
        · unfold rdT
          rw [g0_5]
          simp only [bindS, i10, if_false]
          rw [wrA_nI (by omega) (by omega)]
          rw [g1_5]
          simp only [bindS, i10, if_false]
          rw [wrA_nI (by omega) (by omega)]
          rw [g4]
          simp only [bindS, if_true]
        · obtain ⟨b', a', s', h', t', v', e1, e2⟩ := g5 ba (nI a1) 2 (nI v1)
          refine ⟨(0, ba, nI r1, nI a0, 2, nI v0), (hi, nI k, nI pf, s', h', t', v', upd (upd (upd (upd (upd rp (6 * N + 1) (nI v0)) (6 * N + 2) (nI v1)) (6 * N + 3) (0)) (6 * N + 4) (0)) 93 ((upd (upd (upd (upd rp (6 * N + 1) (nI v0)) (6 * N + 2) (nI v1)) (6 * N + 3) (0)) (6 * N + 4) (0)) 93 + 1)), _, g0_6 ba hh t w, ?_, mlT_b hb _ _ _ _ _ _ _ _ _ _, rfl, rfl⟩
          unfold roT
          rw [number_g (g0_7 ba) (g1_6 ba _ _ _)]
          simp only [bindS]
          rw [px1, wrA_nI (by omega) (by omega)]
          rw [number_g (g1_7 ba) e1]
          simp only [bindS]
          rw [px2, wrA_nI (by omega) (by omega)]
          rw [number_x hb e2]
          simp only [bindS]
          rw [px3, wrA_nI (by omega) (by omega)]
          rw [number_b hb]
          simp only [bindS]
          rw [px4, wrA_nI (by omega) (by omega)]
          rw [r93, w93]
    · have hb := BK_n g1 g2
      rw [show nI 1 = (1 : Int32) from rfl, show nI 9 = (9 : Int32) from rfl] at g4 g5
      refine Or.inr ⟨k, pf, g1, g2, fun f x1 x4 x5' x6 kd fa comes wants cost coins => ⟨(0, nI k, x2, x3, nI pf, x5, nI N, kd, fa, upd comes N (nI v0), wants, cost, coins), ?_, rfl, rfl, rfl⟩, fun ba hh t w hi hl hc rp => ?_⟩
      · unfold rdT
        rw [g0_5]
        simp only [bindS, i10, if_false]
        rw [wrA_nI (by omega) (by omega)]
        rw [g4]
        simp only [bindS, if_true]
      · obtain ⟨b', a', s', h', t', v', e1, e2⟩ := g5 ba (nI a0) 2 (nI v0)
        refine ⟨(0, ba, nI r1, nI a0, 2, nI v0), (hi, nI k, nI pf, s', h', t', v', upd (upd (upd (upd (upd rp (6 * N + 1) (nI v0)) (6 * N + 2) (1)) (6 * N + 3) (0)) (6 * N + 4) (0)) 93 ((upd (upd (upd (upd rp (6 * N + 1) (nI v0)) (6 * N + 2) (1)) (6 * N + 3) (0)) (6 * N + 4) (0)) 93 + 1)), _, g0_6 ba hh t w, ?_, mlT_b hb _ _ _ _ _ _ _ _ _ _, rfl, rfl⟩
        unfold roT
        rw [number_g (g0_7 ba) e1]
        simp only [bindS]
        rw [px1, wrA_nI (by omega) (by omega)]
        rw [number_x hb e2]
        simp only [bindS]
        rw [px2, wrA_nI (by omega) (by omega)]
        rw [number_b hb]
        simp only [bindS]
        rw [px3, wrA_nI (by omega) (by omega)]
        rw [number_b hb]
        simp only [bindS]
        rw [px4, wrA_nI (by omega) (by omega)]
        rw [r93, w93]
  · have hb := BK_n g1 g2
    rw [show nI 0 = (0 : Int32) from rfl, show nI 60 = (60 : Int32) from rfl] at g4 g5
    refine Or.inr ⟨k, pf, g1, g2, fun f x1 x4 x5' x6 kd fa comes wants cost coins => ⟨(0, nI k, x2, x3, nI pf, x5, nI N, kd, fa, comes, wants, cost, coins), ?_, rfl, rfl, rfl⟩, fun ba hh t w hi hl hc rp => ?_⟩
    · unfold rdT
      rw [g4]
      simp only [bindS, if_true]
    · obtain ⟨b', a', s', h', t', v', e1, e2⟩ := g5 ba hh t w
      refine ⟨(b', a', s', h', t', v'), (hi, nI k, nI pf, s', h', t', v', upd (upd (upd (upd (upd rp (6 * N + 1) (0)) (6 * N + 2) (1)) (6 * N + 3) (0)) (6 * N + 4) (0)) 93 ((upd (upd (upd (upd rp (6 * N + 1) (0)) (6 * N + 2) (1)) (6 * N + 3) (0)) (6 * N + 4) (0)) 93 + 1)), _, e1, ?_, mlT_b hb _ _ _ _ _ _ _ _ _ _, rfl, rfl⟩
      unfold roT
      rw [number_x hb e2]
      simp only [bindS]
      rw [px1, wrA_nI (by omega) (by omega)]
      rw [number_b hb]
      simp only [bindS]
      rw [px2, wrA_nI (by omega) (by omega)]
      rw [number_b hb]
      simp only [bindS]
      rw [px3, wrA_nI (by omega) (by omega)]
      rw [number_b hb]
      simp only [bindS]
      rw [px4, wrA_nI (by omega) (by omega)]
      rw [r93, w93]
end ONE
