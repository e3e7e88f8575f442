section DEBT
variable {n : Nat} {c : Nat → Nat} {tb tp cuts letters : Nat → Int32}
def mxI (x hi : Int32) : Int32 := if x ≤ hi then hi else x
theorem oneHere_l {hi b ba he tk va x b' a' : Int32} (h : Mod_looks 0 6 b ba he tk va = some (x, b', a')) : Mod_oneHere hi b ba he tk va = some (x, mxI x hi, b', a') := by
  unfold Mod_oneHere mxI
  rw [h]
  simp only [bindS]
  by_cases hh : x ≤ hi
  · rw [if_pos hh, if_pos hh]
  · rw [if_neg hh, if_neg hh]
theorem dbT_b {b : Int32} (hb : BK b) (tn ba : Int32) (rp : Nat → Int32) (o2 o4 : Int32 × Int32 × Int32 × Int32) (o3 : Int32 × Int32 × Int32 × Int32 × Int32 × Int32) : dbT tn tp rp o2 o3 o4 b ba = some (o4.2.1, b, ba, o3.2.2.1, o3.2.2.2.1, o3.2.2.2.2.1, o3.2.2.2.2.2, rp) := by
  unfold dbT
  rw [step_b hb]
  simp only [bindS]
  rw [number_b hb]
  simp only [bindS]
  rw [if_neg hb.2]
theorem dbS_b {b : Int32} (hb : BK b) (tn ba x y z : Int32) (rp : Nat → Int32) (o2 : Int32 × Int32 × Int32 × Int32) (o3 : Int32 × Int32 × Int32 × Int32 × Int32 × Int32) : dbS (dbT tn tp rp o2 o3 (x, y, b, ba)) rp o2 o3 (x, y, b, ba) = some (y, b, ba, o3.2.2.1, o3.2.2.2.1, o3.2.2.2.2.1, o3.2.2.2.2.2, rp) := by
  unfold dbS
  simp only [jn]
  rw [if_neg hb.2, dbT_b hb]
theorem ml_3 {tn hl hc hi ba sp he tk va : Int32} {rp : Nat → Int32} {x : Int32 × Int32 × Int32 × Int32 × Int32 × Int32 × Int32 × (Nat → Int32)} (h : Mod_readDebt hi tn 0 ba sp he tk va rp tp = some x) : mlS (mlT tn tp) hl hc hi tn 0 ba sp he tk va rp tp cuts letters 3 = mlT tn tp hl hc x.1 x.2.1 x.2.2.1 x.2.2.2.1 x.2.2.2.2.1 x.2.2.2.2.2.1 x.2.2.2.2.2.2.1 x.2.2.2.2.2.2.2 := by
  unfold mlS
  rw [if_neg (by decide), if_pos rfl, h]
  simp only [bindS]
theorem ml_3b {tn hl hc hi ba sp he tk va b a y s' h' t' v' : Int32} {rp rp' : Nat → Int32} {k pf : Nat} (hb : BK (nI k)) (h : Mod_readDebt hi tn 0 ba sp he tk va rp tp = some (y, nI k, nI pf, s', h', t', v', rp')) : ∃ o, mlS (mlT tn tp) hl hc hi tn 0 ba sp he tk va rp tp cuts letters 3 = some o ∧ o.2.2.2.1 = nI k ∧ o.2.2.2.2.1 = nI pf := by
  rw [ml_3 h, mlT_b hb]
  exact ⟨_, rfl, rfl, rfl⟩
/-- the line 'debt' -/
theorem debt_sim (h : CH n c tb tp) {p2 : Nat} (hp : p2 ≤ n) {debts rp : Nat → Int32} (hd : ∀ k, k < 49 → rp (42 + k) = debts k) (hd2 : ∀ a b, a < 7 → b < 7 → ∃ d, d ≤ 99 ∧ debts (7 * a + b) = nI d) :
    (∃ q q1 v a b x, p2 < q ∧ q ≤ n ∧ a < 7 ∧ b < 7 ∧ a ≠ b ∧ 1 ≤ x ∧ x ≤ 99 ∧ (∀ f, Rdr_readDebt f (nI p2) debts (nI n) tb = some (1, f, nI q, 3, nI q1, nI v, upd debts (7 * a + b) (nI x))) ∧ ∀ ba hl hc hi he tk va o, (∀ h t w, Mod_step (nI n) 0 ba (nI q) h t w tp = some o) → mlS (mlT (nI n) tp) hl hc hi (nI n) 0 ba (nI p2) he tk va rp tp cuts letters 3 = some (hl, hc, mxI (nI b) (mxI (nI a) hi), o.1, o.2.1, o.2.2.1, o.2.2.2.1, o.2.2.2.2.1, o.2.2.2.2.2, upd rp (42 + 7 * a + b) (nI x))) ∨
    ∃ k pf : Nat, 1 ≤ k ∧ k ≤ 6 ∧ (∀ f, ∃ o, Rdr_readDebt f (nI p2) debts (nI n) tb = some o ∧ o.1 = 0 ∧ o.2.1 = nI k ∧ o.2.2.2.2.1 = nI pf) ∧ ∀ ba hl hc hi he tk va, ∃ o, mlS (mlT (nI n) tp) hl hc hi (nI n) 0 ba (nI p2) he tk va rp tp cuts letters 3 = some o ∧ o.2.2.2.1 = nI k ∧ o.2.2.2.2.1 = nI pf := by
  have h4 := h.1
  rcases E_num h (lo := 0) (hi := 6) hp (by omega) (by omega) with ⟨r1, a, g1, g2, g3, g4, a1, g5, g6, g7⟩ | ⟨k, pf, g1, g2, g3, ⟨x2, x3, x5, g4⟩, g5⟩
  · rw [show nI 0 = (0 : Int32) from rfl, show nI 6 = (6 : Int32) from rfl] at g5 g7
    rcases E_num h (lo := 0) (hi := 6) g2 (by omega) (by omega) with ⟨r2, b, e1, e2, e3, e4, b1, e5, e6, e7⟩ | ⟨k, pf, e1, e2, e3, ⟨x2, x3, x5, e4⟩, e5⟩
    · rw [show nI 0 = (0 : Int32) from rfl, show nI 6 = (6 : Int32) from rfl] at e5 e7
      have hpre : ∀ f, Rdr_readDebt f (nI p2) debts (nI n) tb = (if nI a = nI b then some (0, 4, nI r2, 2, nI b1, nI b, debts) else if debts (7 * a + b) ≤ 0 then (Rdr_readNumber 1 99 f (nI r2) (nI n) tb).bind (fun o_6 => if o_6.1 = 0 then some (0, o_6.2.1, o_6.2.2.1, o_6.2.2.2.1, o_6.2.2.2.2.1, o_6.2.2.2.2.2, debts) else (Rdr_readStop o_6.2.1 o_6.2.2.1 (nI n) tb).bind (fun o_8 => if o_8.1 = 0 ∨ o_8.1 = 1 then some (o_8.1, o_8.2.1, o_8.2.2.1, o_8.2.2.2.1, o_8.2.2.2.2.1, o_8.2.2.2.2.2, upd debts (7 * a + b) o_6.2.2.2.2.2) else none)) else some (0, 4, nI r2, 2, nI b1, nI b, debts)) := fun f => by
        unfold Rdr_readDebt Rdr_isFaulty Twn_owed Twn_setDebt
        rw [g5]
        simp only [bindS, i10, if_false]
        rw [e5]
        simp only [bindS, i10, if_false, jn, true_or, if_true]
        rw [ix_owed, rdA_nI (by omega) (by omega)]
        simp only [bindS]
        have hw : ∀ (x : Int32) (k : (Nat → Int32) → Option (Int32 × Int32 × Int32 × Int32 × Int32 × Int32 × (Nat → Int32))), (wrA debts 49 (nI (7 * a + b)) x (fun t => some t)).bind k = k (upd debts (7 * a + b) x) := fun x k => by
          rw [wrA_nI (by omega) (by omega)]
          simp only [bindS]
        simp only [hw]
      have hmod : ∀ ba hi he tk va, Mod_readDebt hi (nI n) 0 ba (nI p2) he tk va rp tp = dbS (dbT (nI n) tp rp (nI a, mxI (nI a) hi, 0, ba) (0, ba, nI r2, nI b1, 2, nI b) (nI b, mxI (nI b) (mxI (nI a) hi), 0, ba)) rp (nI a, mxI (nI a) hi, 0, ba) (0, ba, nI r2, nI b1, 2, nI b) (nI b, mxI (nI b) (mxI (nI a) hi), 0, ba) := fun ba hi he tk va => by
        rw [db_eq, g6]
        simp only [bindS]
        rw [oneHere_l (g7 ba)]
        simp only [bindS]
        rw [e6]
        simp only [bindS]
        rw [oneHere_l (e7 ba)]
        simp only [bindS]
      have hbad : (a = b ∨ ¬ debts (7 * a + b) ≤ 0) → ∃ k pf : Nat, 1 ≤ k ∧ k ≤ 6 ∧ (∀ f, ∃ o, Rdr_readDebt f (nI p2) debts (nI n) tb = some o ∧ o.1 = 0 ∧ o.2.1 = nI k ∧ o.2.2.2.2.1 = nI pf) ∧ ∀ ba hl hc hi he tk va, ∃ o, mlS (mlT (nI n) tp) hl hc hi (nI n) 0 ba (nI p2) he tk va rp tp cuts letters 3 = some o ∧ o.2.2.2.1 = nI k ∧ o.2.2.2.2.1 = nI pf := fun hz => by
        refine ⟨4, b1, by omega, by omega, fun f => ⟨(0, 4, nI r2, 2, nI b1, nI b, debts), ?_, rfl, rfl, rfl⟩, fun ba hl hc hi he tk va => ?_⟩
        · rw [hpre]
          rcases hz with hz | hz
          · rw [if_pos (by rw [hz])]
          · rw [if_neg hz]
            by_cases hab : nI a = nI b
            · rw [if_pos hab]
            · rw [if_neg hab]
        · refine ml_3b (k := 4) (pf := b1) (b := 0) (a := 0) BK_4 (y := mxI (nI b) (mxI (nI a) hi)) (s' := nI r2) (h' := nI b1) (t' := 2) (v' := nI b) (rp' := rp) ?_
          rw [hmod]
          unfold dbS
          simp only [jn, if_true, fails_0, bindS]
          rw [ix_debt, rdA_nI (by omega) (by omega), Nat.add_assoc, hd _ (by omega), dbT_b BK_4]
          rcases hz with hz | hz
          · rw [if_pos (by rw [hz])]; rfl
          · rw [if_neg hz]
            by_cases hab : nI a = nI b
            · rw [if_pos hab]; rfl
            · rw [if_neg hab]; rfl
      by_cases hab : a = b
      · exact Or.inr (hbad (Or.inl hab))
      · obtain ⟨d0, hd0, hd1⟩ := hd2 a b (by omega) (by omega)
        by_cases hz : debts (7 * a + b) ≤ 0
        · have hne : ¬ nI a = nI b := fun hh => hab ((nI_eq (by omega) (by omega)).mp hh)
          have hmod2 : ∀ ba hi he tk va, Mod_readDebt hi (nI n) 0 ba (nI p2) he tk va rp tp = dbT (nI n) tp rp (nI a, mxI (nI a) hi, 0, ba) (0, ba, nI r2, nI b1, 2, nI b) (nI b, mxI (nI b) (mxI (nI a) hi), 0, ba) 0 ba := fun ba hi he tk va => by
            rw [hmod]
            unfold dbS
            simp only [jn, if_true]
            rw [if_neg hne, ix_debt, rdA_nI (by omega) (by omega), Nat.add_assoc, hd _ (by omega), if_pos hz]
          rcases E_num h (lo := 1) (hi := 99) e2 (by omega) (by omega) with ⟨r3, x, d1, d2, d3, d4, c1, d5, d6, d7⟩ | ⟨k, pf, d1, d2, d3, ⟨x2, x3, x5, d4⟩, d5⟩
          · rw [show nI 1 = (1 : Int32) from rfl, show nI 99 = (99 : Int32) from rfl] at d5 d7
            have hfin : ∀ ba hi he tk va (y : Int32 × Int32 × Int32 × Int32 × Int32 × Int32), Mod_step (nI n) 0 ba (nI r3) (nI c1) 2 (nI x) tp = some y → Mod_readDebt hi (nI n) 0 ba (nI p2) he tk va rp tp = (if y.1 = 0 then some (mxI (nI b) (mxI (nI a) hi), y.1, y.2.1, y.2.2.1, y.2.2.2.1, y.2.2.2.2.1, y.2.2.2.2.2, upd rp (42 + 7 * a + b) (nI x)) else some (mxI (nI b) (mxI (nI a) hi), y.1, y.2.1, y.2.2.1, y.2.2.2.1, y.2.2.2.2.1, y.2.2.2.2.2, rp)) := fun ba hi he tk va y hy => by
              rw [hmod2]
              unfold dbT
              rw [d6]
              simp only [bindS]
              rw [number_g (d7 ba) hy]
              simp only [bindS]
              rw [ix_debt, wrA_nI (by omega) (by omega)]
            rcases E_stop h d2 with ⟨q, q1, v, s1, s2, s3, s4⟩ | ⟨k, pf, s1, s2, s3, ⟨x2, x3, x5, s4⟩, s5⟩
            · refine Or.inl ⟨q, q1, v, a, b, x, by omega, s2, by omega, by omega, hab, d3, d4, fun f => ?_, fun ba hl hc hi he tk va o ho => ?_⟩
              · rw [hpre, if_neg hne, if_pos hz, d5]
                simp only [bindS, i10, if_false]
                rw [s3]
                simp only [bindS, or_true, if_true]
              · rw [ml_3 (hfin ba hi he tk va _ (s4 ba _ _ _))]
                exact mlT_3 _ _ _ _ _ _ _ _ _ (ho _ _ _)
            · refine Or.inr ⟨k, pf, s1, s2, fun f => ⟨(0, nI k, x2, x3, nI pf, x5, upd debts (7 * a + b) (nI x)), ?_, rfl, rfl, rfl⟩, fun ba hl hc hi he tk va => ?_⟩
              · rw [hpre, if_neg hne, if_pos hz, d5]
                simp only [bindS, i10, if_false]
                rw [s4]
                simp only [bindS, true_or, if_true]
              · obtain ⟨b', a', s', h', t', v', y1, y2⟩ := s5 ba (nI c1) 2 (nI x)
                have hf := hfin ba hi he tk va _ y1
                by_cases hb0 : b' = 0
                · rw [if_pos hb0] at hf
                  obtain ⟨o, y3, y4⟩ := y2 hl hc (mxI (nI b) (mxI (nI a) hi)) (upd rp (42 + 7 * a + b) (nI x))
                  exact ⟨o, by rw [ml_3 hf]; exact y3, y4⟩
                · rw [if_neg hb0] at hf
                  obtain ⟨o, y3, y4⟩ := y2 hl hc (mxI (nI b) (mxI (nI a) hi)) rp
                  exact ⟨o, by rw [ml_3 hf]; exact y3, y4⟩
          · have hb := BK_n d1 d2
            rw [show nI 1 = (1 : Int32) from rfl, show nI 99 = (99 : Int32) from rfl] at d4 d5
            refine Or.inr ⟨k, pf, d1, d2, fun f => ⟨(0, nI k, x2, x3, nI pf, x5, debts), ?_, rfl, rfl, rfl⟩, fun ba hl hc hi he tk va => ?_⟩
            · rw [hpre, if_neg hne, if_pos hz, d4]
              simp only [bindS, if_true]
            · obtain ⟨b', a', s', h', t', v', y1, y2⟩ := d5 ba (nI b1) 2 (nI b)
              refine ml_3b (b := 0) (a := 0) hb (y := mxI (nI b) (mxI (nI a) hi)) (s' := s') (h' := h') (t' := t') (v' := v') (rp' := rp) ?_
              rw [hmod2]
              unfold dbT
              rw [y1]
              simp only [bindS]
              rw [number_x hb y2]
              simp only [bindS]
              rw [if_neg hb.2]
        · exact Or.inr (hbad (Or.inr hz))
    · have hb := BK_n e1 e2
      rw [show nI 0 = (0 : Int32) from rfl, show nI 6 = (6 : Int32) from rfl] at e4 e5
      refine Or.inr ⟨k, pf, e1, e2, fun f => ⟨(0, nI k, x2, x3, nI pf, x5, debts), ?_, rfl, rfl, rfl⟩, fun ba hl hc hi he tk va => ?_⟩
      · unfold Rdr_readDebt
        rw [g5]
        simp only [bindS, i10, if_false]
        rw [e4]
        simp only [bindS, if_true]
      · obtain ⟨b', a', s', h', t', v', y1, y2⟩ := e5 ba (nI a1) 2 (nI a)
        refine ml_3b (b := 0) (a := 0) hb (y := mxI 0 (mxI (nI a) hi)) (s' := s') (h' := h') (t' := t') (v' := v') (rp' := rp) ?_
        rw [db_eq, g6]
        simp only [bindS]
        rw [oneHere_l (g7 ba)]
        simp only [bindS]
        rw [y1]
        simp only [bindS]
        rw [oneHere_l y2]
        simp only [bindS]
        rw [dbS_b hb _ _ _ _ 0]
  · have hb := BK_n g1 g2
    rw [show nI 0 = (0 : Int32) from rfl, show nI 6 = (6 : Int32) from rfl] at g4 g5
    refine Or.inr ⟨k, pf, g1, g2, fun f => ⟨(0, nI k, x2, x3, nI pf, x5, debts), ?_, rfl, rfl, rfl⟩, fun ba hl hc hi he tk va => ?_⟩
    · unfold Rdr_readDebt
      rw [g4]
      simp only [bindS, if_true]
    · obtain ⟨b', a', s', h', t', v', y1, y2⟩ := g5 ba he tk va
      refine ml_3b (b := 0) (a := 0) hb (y := mxI 0 (mxI 0 hi)) (s' := s') (h' := h') (t' := t') (v' := v') (rp' := rp) ?_
      rw [db_eq, y1]
      simp only [bindS]
      rw [oneHere_l y2]
      simp only [bindS]
      rw [step_b hb]
      simp only [bindS]
      rw [oneHere_l (looks_b hb _ _ _ _ _ _)]
      simp only [bindS]
      rw [dbS_b hb _ _ _ _ 0]
end DEBT
