section LINE
variable {n : Nat} {c : Nat → Nat} {tb tp cuts letters : Nat → Int32}
theorem mlT_b {b : Int32} (hb : BK b) (tn hl hc hi ba sp he tk va : Int32) (rp : Nat → Int32) : mlT tn tp hl hc hi b ba sp he tk va rp = some (hl, hc, hi, b, ba, sp, he, tk, va, rp) := by
  unfold mlT
  simp only [jn]
  rw [if_neg hb.2, step_b hb]
  simp only [bindS]
theorem mlT_3 (tn hl hc hi ba sp he va : Int32) (rp : Nat → Int32) {o : Int32 × Int32 × Int32 × Int32 × Int32 × Int32} (ho : Mod_step tn 0 ba sp he 3 va tp = some o) : mlT tn tp hl hc hi 0 ba sp he 3 va rp = some (hl, hc, hi, o.1, o.2.1, o.2.2.1, o.2.2.2.1, o.2.2.2.2.1, o.2.2.2.2.2, rp) := by
  unfold mlT
  simp only [jn, if_true]
  rw [ho]
  simp only [bindS]
theorem BK_2 : BK (2 : Int32) := ⟨by decide, by decide⟩
theorem BK_4 : BK (4 : Int32) := ⟨by decide, by decide⟩
theorem BK_5 : BK (5 : Int32) := ⟨by decide, by decide⟩
theorem mlT_2 {k : Nat} (hk : k < 4) (h3 : k ≠ 3) (tn hl hc hi ba sp he va : Int32) (rp : Nat → Int32) : mlT tn tp hl hc hi 0 ba sp he (nI k) va rp = some (hl, hc, hi, 2, he, sp, he, nI k, va, rp) := by
  unfold mlT
  simp only [jn, if_true]
  rw [if_neg (show ¬ nI k = 3 from fun hh => h3 ((nI_eq (b := 3) (by omega) (by omega)).mp hh)), fails_0]
  simp only [bindS]
  rw [step_b BK_2]
  simp only [bindS]
theorem number_g {tn lo hi ba sp he va : Int32} {o : Int32 × Int32 × Int32 × Int32 × Int32 × Int32} (h1 : Mod_looks lo hi 0 ba he 2 va = some (va, 0, ba)) (h2 : Mod_step tn 0 ba sp he 2 va tp = some o) : Mod_number lo hi tn 0 ba sp he 2 va tp = some (va, o.1, o.2.1, o.2.2.1, o.2.2.2.1, o.2.2.2.2.1, o.2.2.2.2.2) := by
  unfold Mod_number
  rw [h1]
  simp only [bindS]
  rw [h2]
  simp only [bindS]
theorem number_x {tn lo hi b a sp he tk va b' a' : Int32} (hb : BK b') (h1 : Mod_looks lo hi b a he tk va = some (lo, b', a')) : Mod_number lo hi tn b a sp he tk va tp = some (lo, b', a', sp, he, tk, va) := by
  unfold Mod_number
  rw [h1]
  simp only [bindS]
  rw [step_b hb]
  simp only [bindS]
def SGood (n : Nat) (tb tp : Nat → Int32) (p q q1 v : Nat) : Prop := p < q ∧ q ≤ n ∧ (∀ f, Rdr_readStop f (nI p) (nI n) tb = some (1, f, nI q, 3, nI q1, nI v)) ∧ ∀ ba h t w, Mod_step (nI n) 0 ba (nI p) h t w tp = some (0, ba, nI q, nI q1, 3, nI v)
def SBad (n : Nat) (tb tp : Nat → Int32) (p k p1 : Nat) : Prop := 1 ≤ k ∧ k ≤ 6 ∧ p1 ≤ n ∧ (∃ x2 x3 x5, ∀ f, Rdr_readStop f (nI p) (nI n) tb = some (0, nI k, x2, x3, nI p1, x5)) ∧ ∀ ba h t w, ∃ b' a' s' h' t' v', Mod_step (nI n) 0 ba (nI p) h t w tp = some (b', a', s', h', t', v') ∧ ∀ hl hc hi rp, ∃ o, mlT (nI n) tp hl hc hi b' a' s' h' t' v' rp = some o ∧ o.2.2.2.1 = nI k ∧ o.2.2.2.2.1 = nI p1
theorem E_stop (h : CH n c tb tp) {p : Nat} (hp : p ≤ n) : (∃ q q1 v, SGood n tb tp p q q1 v) ∨ ∃ k p1, SBad n tb tp p k p1 := by
  have h4 := h.1
  rcases E_tok h hp with ⟨p1, p2, k, v, t1, t2, t3, t4, t5, t6, t7, t8⟩ | ⟨p1, t1, ⟨x2, x3, x5, t2⟩, y3, y5, y6, t3, t4⟩
  · by_cases hk : k = 3
    · subst hk
      refine Or.inl ⟨p2, p1, v, by have := t6 (by omega); omega, t3, fun f => ?_, t8⟩
      unfold Rdr_readStop
      rw [t7]
      simp only [bindS, i10, if_false]
      rw [if_pos (show srt 3 = 3 from rfl)]
      rfl
    · refine Or.inr ⟨2, p1, by omega, by omega, by omega, ⟨nI p2, srt k, nI v, fun f => ?_⟩, fun ba hh t w => ⟨_, _, _, _, _, _, t8 ba hh t w, fun hl hc hi rp => ⟨_, mlT_2 t4 hk _ _ _ _ _ _ _ _ _, rfl, rfl⟩⟩⟩
      unfold Rdr_readStop Rdr_isFaulty
      rw [t7]
      simp only [bindS, i10, if_false, i00, if_true]
      rw [if_neg (show ¬ srt k = 3 from fun hc => by
        unfold srt at hc
        by_cases k0 : k = 0
        · rw [if_pos k0] at hc; exact absurd hc (by decide)
        · rw [if_neg k0] at hc; exact hk ((nI_eq (b := 3) (by omega) (by omega)).mp hc))]
      rfl
  · refine Or.inr ⟨1, p1, by omega, by omega, t1, ⟨x2, x3, x5, fun f => ?_⟩, fun ba hh t w => ⟨_, _, _, _, _, _, t4 ba hh t w, fun hl hc hi rp => ⟨_, mlT_b (b := 1) ⟨by decide, by decide⟩ _ _ _ _ _ _ _ _ _ _, rfl, rfl⟩⟩⟩
    unfold Rdr_readStop
    rw [t2]
    simp only [bindS, i00, if_true]
    rfl
theorem i02 : ((0 : Int32) = 2) = False := eq_false (by decide)
theorem i03 : ((0 : Int32) = 3) = False := eq_false (by decide)
theorem i12 : ((1 : Int32) = 2) = False := eq_false (by decide)
theorem i13 : ((1 : Int32) = 3) = False := eq_false (by decide)
theorem w91 {α : Type} {f : Nat → Int32} {x : Int32} {k : (Nat → Int32) → Option α} : wrA f 94 91 x k = k (upd f 91 x) := wrA_nI (j := 91) (by omega) (by omega)
theorem w92 {α : Type} {f : Nat → Int32} {x : Int32} {k : (Nat → Int32) → Option α} : wrA f 94 92 x k = k (upd f 92 x) := wrA_nI (j := 92) (by omega) (by omega)
theorem or1 : ((1 : Int32) = 0 ∨ (1 : Int32) = 1) = True := eq_true (Or.inr rfl)
theorem or0 : ((0 : Int32) = 0 ∨ (0 : Int32) = 1) = True := eq_true (Or.inl rfl)
/-- the line 'law' -/
theorem law_sim (h : CH n c tb tp) {p1 p2 : Nat} (hp1 : p1 ≤ n) (hp : p2 ≤ n) {lt : Int32} (hlt : lt = 0 ∨ lt = 1) :
    (lt = 0 ∧ ∃ q q1 v x, p2 < q ∧ q ≤ n ∧ x ≤ 1 ∧ (∀ f s st va law, Rdr_readLaw f (nI p2) s st va lt law (nI n) tb = some (1, f, nI q, 3, nI q1, nI v, 1, nI x)) ∧ ∀ ba hc hi he tk va rp o, (∀ h t w, Mod_step (nI n) 0 ba (nI q) h t w tp = some o) → mlS (mlT (nI n) tp) lt hc hi (nI n) 0 ba (nI p2) he tk va rp tp cuts letters 0 = some (1, hc, hi, o.1, o.2.1, o.2.2.1, o.2.2.2.1, o.2.2.2.2.1, o.2.2.2.2.2, upd rp 91 (nI x))) ∨
    ∃ k pf, 1 ≤ k ∧ k ≤ 6 ∧ pf ≤ n ∧ (∀ f s va law, ∃ o, Rdr_readLaw f (nI p2) s (nI p1) va lt law (nI n) tb = some o ∧ o.1 = 0 ∧ o.2.1 = nI k ∧ o.2.2.2.2.1 = nI pf) ∧ ∀ ba hc hi tk va rp, ∃ o, mlS (mlT (nI n) tp) lt hc hi (nI n) 0 ba (nI p2) (nI p1) tk va rp tp cuts letters 0 = some o ∧ o.2.2.2.1 = nI k ∧ o.2.2.2.2.1 = nI pf := by
  rcases hlt with rfl | rfl
  · rcases E_num h (lo := 0) (hi := 1) hp (by omega) (by omega) with ⟨r, x, g1, g2, g3, g4, a1, g5, g6, g7⟩ | ⟨k, pf, g1, g2, g3, ⟨x2, x3, x5, g4⟩, g5⟩
    · rw [show nI 0 = (0 : Int32) from rfl, show nI 1 = (1 : Int32) from rfl] at g5 g7
      rcases E_stop h g2 with ⟨q, q1, v, s1, s2, s3, s4⟩ | ⟨k, pf, s1, s2, s3, ⟨x2, x3, x5, s4⟩, s5⟩
      · refine Or.inl ⟨rfl, q, q1, v, x, by omega, s2, g4, fun f s st va law => ?_, fun ba hc hi he tk va rp o ho => ?_⟩
        · unfold Rdr_readLaw
          rw [if_pos rfl, g5]
          simp only [bindS, i10, if_false]
          rw [s3]
          simp only [bindS, or_true, if_true]
        · unfold mlS
          simp only [i02, i03, if_false, if_true, jn]
          rw [g6]
          simp only [bindS]
          rw [number_g (g7 ba) (s4 ba _ _ _)]
          simp only [bindS, w91]
          rw [mlT_3 _ _ _ _ _ _ _ _ _ (ho _ _ _)]
      · refine Or.inr ⟨k, pf, s1, s2, s3, fun f s va law => ⟨(0, nI k, x2, x3, nI pf, x5, 1, nI x), ?_, ?_⟩, fun ba hc hi tk va rp => ?_⟩
        · unfold Rdr_readLaw
          rw [if_pos rfl, g5]
          simp only [bindS, i10, if_false]
          rw [s4]
          simp only [bindS, true_or, if_true]
        · exact ⟨rfl, rfl, rfl⟩
        · obtain ⟨b', a', s', h', t', v', e1, e2⟩ := s5 ba (nI a1) 2 (nI x)
          obtain ⟨o, e3, e4⟩ := e2 1 hc hi (upd rp 91 (nI x))
          refine ⟨o, ?_, e4⟩
          unfold mlS
          simp only [i02, i03, if_false, if_true, jn]
          rw [g6]
          simp only [bindS]
          rw [number_g (g7 ba) e1]
          simp only [bindS, w91]
          exact e3
    · have hb := BK_n g1 g2
      rw [show nI 0 = (0 : Int32) from rfl, show nI 1 = (1 : Int32) from rfl] at g4 g5
      refine Or.inr ⟨k, pf, g1, g2, g3, fun f s va law => ⟨(0, nI k, x2, x3, nI pf, x5, 1, law), ?_, ?_⟩, fun ba hc hi tk va rp => ?_⟩
      · unfold Rdr_readLaw
        rw [if_pos rfl, g4]
        simp only [bindS, if_true]
      · exact ⟨rfl, rfl, rfl⟩
      · obtain ⟨b', a', s', h', t', v', e1, e2⟩ := g5 ba (nI p1) tk va
        refine ⟨(1, hc, hi, nI k, nI pf, s', h', t', v', upd rp 91 0), ?_, ?_⟩
        · unfold mlS
          simp only [i02, i03, if_false, if_true, jn]
          rw [e1]
          simp only [bindS]
          rw [number_x hb e2]
          simp only [bindS, w91]
          rw [mlT_b hb]
        · exact ⟨rfl, rfl⟩
  · refine Or.inr ⟨4, p1, by omega, by omega, hp1, fun f s va law => ⟨(0, 4, nI p2, s, nI p1, va, 1, law), ?_, ?_⟩, fun ba hc hi tk va rp => ⟨(1, hc, hi, 4, nI p1, nI p2, nI p1, tk, va, upd rp 91 0), ?_, ?_⟩⟩
    · unfold Rdr_readLaw Rdr_isFaulty
      rw [if_neg (by decide)]
      simp only [bindS, true_or, if_true]
    · exact ⟨rfl, rfl, rfl⟩
    · unfold mlS
      simp only [i02, i03, i10, if_false, if_true, jn]
      rw [fails_0]
      simp only [bindS]
      rw [step_b BK_4]
      simp only [bindS]
      rw [number_b BK_4]
      simp only [bindS, w91]
      rw [mlT_b BK_4]
    · exact ⟨rfl, rfl⟩
theorem nI_a1s {x : Nat} (h : 1 ≤ x) : nI x - 1 = nI (x - 1) := nI_m1 h
/-- the line 'counters' -/
theorem cnt_sim (h : CH n c tb tp) {p1 p2 : Nat} (hp1 : p1 ≤ n) (hp : p2 ≤ n) {lt : Int32} (hlt : lt = 0 ∨ lt = 1) :
    (lt = 0 ∧ ∃ q q1 v x, p2 < q ∧ q ≤ n ∧ x < 2 ∧ (∀ f s st va law, Rdr_readCounters f (nI p2) s st va lt law (nI n) tb = some (1, f, nI q, 3, nI q1, nI v, 1, nI (1 + x))) ∧ ∀ ba hl hi he tk va rp o, (∀ h t w, Mod_step (nI n) 0 ba (nI q) h t w tp = some o) → mlS (mlT (nI n) tp) hl lt hi (nI n) 0 ba (nI p2) he tk va rp tp cuts letters 1 = some (hl, 1, hi, o.1, o.2.1, o.2.2.1, o.2.2.2.1, o.2.2.2.2.1, o.2.2.2.2.2, upd rp 92 (nI x))) ∨
    ∃ k pf, 1 ≤ k ∧ k ≤ 6 ∧ pf ≤ n ∧ (∀ f s va law, ∃ o, Rdr_readCounters f (nI p2) s (nI p1) va lt law (nI n) tb = some o ∧ o.1 = 0 ∧ o.2.1 = nI k ∧ o.2.2.2.2.1 = nI pf) ∧ ∀ ba hl hi tk va rp, ∃ o, mlS (mlT (nI n) tp) hl lt hi (nI n) 0 ba (nI p2) (nI p1) tk va rp tp cuts letters 1 = some o ∧ o.2.2.2.1 = nI k ∧ o.2.2.2.2.1 = nI pf := by
  rcases hlt with rfl | rfl
  · rcases E_num h (lo := 1) (hi := 2) hp (by omega) (by omega) with ⟨r, x, g1, g2, g3, g4, a1, g5, g6, g7⟩ | ⟨k, pf, g1, g2, g3, ⟨x2, x3, x5, g4⟩, g5⟩
    · rw [show nI 2 = (2 : Int32) from rfl, show nI 1 = (1 : Int32) from rfl] at g5 g7
      rcases E_stop h g2 with ⟨q, q1, v, s1, s2, s3, s4⟩ | ⟨k, pf, s1, s2, s3, ⟨x2, x3, x5, s4⟩, s5⟩
      · refine Or.inl ⟨rfl, q, q1, v, x - 1, by omega, s2, by omega, fun f s st va law => ?_, fun ba hc hi he tk va rp o ho => ?_⟩
        · unfold Rdr_readCounters
          rw [if_pos rfl, g5]
          simp only [bindS, i10, if_false]
          rw [s3, show 1 + (x - 1) = x by omega]
          simp only [bindS, or_true, if_true]
        · unfold mlS
          simp only [i12, i13, i10, if_false, if_true, jn]
          rw [g6]
          simp only [bindS]
          rw [number_g (g7 ba) (s4 ba _ _ _)]
          simp only [bindS, w92]
          rw [mlT_3 _ _ _ _ _ _ _ _ _ (ho _ _ _), nI_a1s g3]
      · refine Or.inr ⟨k, pf, s1, s2, s3, fun f s va law => ⟨(0, nI k, x2, x3, nI pf, x5, 1, nI x), ?_, ?_⟩, fun ba hc hi tk va rp => ?_⟩
        · unfold Rdr_readCounters
          rw [if_pos rfl, g5]
          simp only [bindS, i10, if_false]
          rw [s4]
          simp only [bindS, true_or, if_true]
        · exact ⟨rfl, rfl, rfl⟩
        · obtain ⟨b', a', s', h', t', v', e1, e2⟩ := s5 ba (nI a1) 2 (nI x)
          obtain ⟨o, e3, e4⟩ := e2 hc 1 hi (upd rp 92 (nI x - 1))
          refine ⟨o, ?_, e4⟩
          unfold mlS
          simp only [i12, i13, i10, if_false, if_true, jn]
          rw [g6]
          simp only [bindS]
          rw [number_g (g7 ba) e1]
          simp only [bindS, w92]
          exact e3
    · have hb := BK_n g1 g2
      rw [show nI 2 = (2 : Int32) from rfl, show nI 1 = (1 : Int32) from rfl] at g4 g5
      refine Or.inr ⟨k, pf, g1, g2, g3, fun f s va law => ⟨(0, nI k, x2, x3, nI pf, x5, 1, law), ?_, ?_⟩, fun ba hc hi tk va rp => ?_⟩
      · unfold Rdr_readCounters
        rw [if_pos rfl, g4]
        simp only [bindS, if_true]
      · exact ⟨rfl, rfl, rfl⟩
      · obtain ⟨b', a', s', h', t', v', e1, e2⟩ := g5 ba (nI p1) tk va
        refine ⟨(hc, 1, hi, nI k, nI pf, s', h', t', v', upd rp 92 (1 - 1)), ?_, ?_⟩
        · unfold mlS
          simp only [i12, i13, i10, if_false, if_true, jn]
          rw [e1]
          simp only [bindS]
          rw [number_x hb e2]
          simp only [bindS, w92]
          rw [mlT_b hb]
        · exact ⟨rfl, rfl⟩
  · refine Or.inr ⟨4, p1, by omega, by omega, hp1, fun f s va law => ⟨(0, 4, nI p2, s, nI p1, va, 1, law), ?_, ?_⟩, fun ba hc hi tk va rp => ⟨(hc, 1, hi, 4, nI p1, nI p2, nI p1, tk, va, upd rp 92 (1 - 1)), ?_, ?_⟩⟩
    · unfold Rdr_readCounters Rdr_isFaulty
      rw [if_neg (by decide)]
      simp only [bindS, true_or, if_true]
    · exact ⟨rfl, rfl, rfl⟩
    · unfold mlS
      simp only [i12, i13, i10, if_false, if_true, jn]
      rw [fails_0]
      simp only [bindS]
      rw [step_b BK_4]
      simp only [bindS]
      rw [number_b BK_4]
      simp only [bindS, w92]
      rw [mlT_b BK_4]
    · exact ⟨rfl, rfl⟩
end LINE
