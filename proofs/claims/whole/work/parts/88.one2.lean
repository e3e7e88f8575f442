section ONE
variable {n : Nat} {c : Nat → Nat} {tb tp cuts letters : Nat → Int32}
theorem E_kind {p1 p2 k w : Nat} (hw : w ≤ 9) (hn : ∀ i, i < 9 → Rdr_isNamed i (nI p2) (srt k) (nI p1) tb = some (if w = i then 1 else 0)) : Rdr_kindNamed (nI p2) (srt k) (nI p1) tb = some (if 4 ≤ w ∧ w < 9 then nI (w - 4) else -4) := by
  unfold Rdr_kindNamed
  rw [hn 4 (by omega), hn 5 (by omega), hn 6 (by omega), hn 7 (by omega), hn 8 (by omega)]
  simp only [bindS]
  rcases (show w = 0 ∨ w = 1 ∨ w = 2 ∨ w = 3 ∨ w = 4 ∨ w = 5 ∨ w = 6 ∨ w = 7 ∨ w = 8 ∨ w = 9 by omega) with rfl | rfl | rfl | rfl | rfl | rfl | rfl | rfl | rfl | rfl <;> rfl
def faT (kd fa N : Nat) (father : Nat → Int32) : Nat → Int32 := if kd = 4 then upd (upd father N 0) N (nI fa) else upd father N 0
def rp8 (kd fa N : Nat) (rp : Nat → Int32) : Nat → Int32 := if kd = 4 then upd (upd (upd rp (6 * N) (nI kd)) (6 * N + 5) (-4)) (6 * N + 5) (nI fa) else upd (upd rp (6 * N) (nI kd)) (6 * N + 5) (-4)
def hiT (kd fa : Nat) (hi : Int32) : Int32 := if kd = 4 then mxI (nI fa) hi else hi
theorem ml_2 {tn hl hc hi ba sp he tk va : Int32} {rp : Nat → Int32} {x : Int32 × Int32 × Int32 × Int32 × Int32 × Int32 × Int32 × (Nat → Int32)} (h : Mod_readOne hi tn 0 ba sp he tk va rp tp cuts letters = some x) : mlS (mlT tn tp) hl hc hi tn 0 ba sp he tk va rp tp cuts letters 2 = mlT tn tp hl hc x.1 x.2.1 x.2.2.1 x.2.2.2.1 x.2.2.2.2.1 x.2.2.2.2.2.1 x.2.2.2.2.2.2.1 x.2.2.2.2.2.2.2 := by
  unfold mlS
  rw [if_pos rfl, h]
  simp only [bindS]
theorem ml_2b {tn hl hc hi ba sp he tk va y s' h' t' v' : Int32} {rp rp' : Nat → Int32} {k pf : Nat} (hb : BK (nI k)) (h : Mod_readOne hi tn 0 ba sp he tk va rp tp cuts letters = some (y, nI k, nI pf, s', h', t', v', rp')) : ∃ o, mlS (mlT tn tp) hl hc hi tn 0 ba sp he tk va rp tp cuts letters 2 = some o ∧ o.2.2.2.1 = nI k ∧ o.2.2.2.2.1 = nI pf := by
  rw [ml_2 h, mlT_b hb]
  exact ⟨_, rfl, rfl, rfl⟩
theorem kd_neg : ∀ w, w ≤ 9 → ¬ (4 ≤ w ∧ w < 9) → ¬ (0 : Int32) ≤ (if w < 9 then nI w else -4) - 4 := by decide +kernel
theorem kd_pos : ∀ w, w ≤ 9 → 4 ≤ w ∧ w < 9 → (if w < 9 then nI w else -4) - 4 = nI (w - 4) := by decide +kernel
/-- what both make of the kind: none, or its number, with the next TOKEN ahead -/
theorem one_sim (h : CH n c tb tp) (hC : CLt cuts letters) {p1 p2 N : Nat} (hN : N ≤ 7) (hp : p2 ≤ n) {rp : Nat → Int32} (h93 : rp 93 = nI N) :
    (N < 7 ∧ ∃ q q1 v kd fa v0 v1 v2 v3 : Nat, p2 < q ∧ q ≤ n ∧ kd < 5 ∧ (kd = 4 → fa < 7 ∧ fa ≠ N) ∧ v0 ≤ 60 ∧ (1 ≤ v1 ∧ v1 ≤ 9) ∧ v2 ≤ 9 ∧ v3 ≤ 50 ∧ (∀ (f s va : Int32) (kind father comes wants cost coins : Nat → Int32), Rdr_readOne f (nI p2) s (nI p1) va (nI N) kind father comes wants cost coins (nI n) tb = some (1, f, nI q, 3, nI q1, nI v, nI (N + 1), upd kind N (nI kd), faT kd fa N father, upd comes N (nI v0), upd wants N (nI v1), upd cost N (nI v2), upd coins N (nI v3))) ∧ ∀ ba hl hc hi tk va o, (∀ h t w, Mod_step (nI n) 0 ba (nI q) h t w tp = some o) → mlS (mlT (nI n) tp) hl hc hi (nI n) 0 ba (nI p2) (nI p1) tk va rp tp cuts letters 2 = some (hl, hc, hiT kd fa hi, o.1, o.2.1, o.2.2.1, o.2.2.2.1, o.2.2.2.2.1, o.2.2.2.2.2, pgN N v0 v1 v2 v3 (rp8 kd fa N rp))) ∨
    ∃ k pf : Nat, 1 ≤ k ∧ k ≤ 6 ∧ (∀ (f s va : Int32) (kind father comes wants cost coins : Nat → Int32), ∃ o, Rdr_readOne f (nI p2) s (nI p1) va (nI N) kind father comes wants cost coins (nI n) tb = some o ∧ o.1 = 0 ∧ o.2.1 = nI k ∧ o.2.2.2.2.1 = nI pf) ∧ ∀ ba hl hc hi tk va, ∃ o, mlS (mlT (nI n) tp) hl hc hi (nI n) 0 ba (nI p2) (nI p1) tk va rp tp cuts letters 2 = some o ∧ o.2.2.2.1 = nI k ∧ o.2.2.2.2.1 = nI pf := by
  have h4 := h.1
  by_cases h7 : N = 7
  · subst h7
    refine Or.inr ⟨5, p1, by omega, by omega, fun f s va kind father comes wants cost coins => ⟨(0, 5, nI p2, s, nI p1, va, nI 7, kind, father, comes, wants, cost, coins), ?_, rfl, rfl, rfl⟩, fun ba hl hc hi tk va => ?_⟩
    · rw [rd_eq, if_neg (by decide)]
      unfold Rdr_isFaulty
      simp only [bindS, true_or, if_true]
    · refine ml_2b (k := 5) (pf := p1) BK_5 (y := hi) (s' := nI p2) (h' := nI p1) (t' := tk) (v' := va) (rp' := rp) ?_
      rw [ro_eq, r93, h93, if_pos (show nI 7 = 7 from rfl), fails_0]
      simp only [bindS]
      rfl
  · have hN7 : N < 7 := by omega
    have rdp : ∀ (f s va : Int32) (kind father comes wants cost coins : Nat → Int32), Rdr_readOne f (nI p2) s (nI p1) va (nI N) kind father comes wants cost coins (nI n) tb = ((Rdr_readKind (nI N) f (nI p2) kind father (nI n) tb).bind (fun o_1 => if o_1.1 = 0 then (some (0, o_1.2.1, o_1.2.2.1, o_1.2.2.2.1, o_1.2.2.2.2.1, o_1.2.2.2.2.2.1, nI N, o_1.2.2.2.2.2.2.1, o_1.2.2.2.2.2.2.2, comes, wants, cost, coins)) else rdT (nI N) comes wants cost coins (nI n) tb o_1)) := fun f s va kind father comes wants cost coins => by
      rw [rd_eq, if_pos (show nI N < 7 from nI_lt (b := 7) hN7 (by omega))]
    have hv7 : ¬ nI N = 7 := fun hh => h7 ((nI_eq (b := 7) (by omega) (by omega)).mp hh)
    rcases E_tok h hp with ⟨t0, r, k, v, t1, t2, t3, t4, t5, t6, t7, t8⟩ | ⟨t0, t1, ⟨x2, x3, x5, t2⟩, y3, y5, y6, t3, t4⟩
    · obtain ⟨w, w1, w2, w3, w4⟩ := E_name h hC t2 t3 t4
      have hkn := E_kind w1 w3
      by_cases hk : 4 ≤ w ∧ w < 9
      · rw [if_pos hk] at hkn
        have hpr : p2 < r := by
          by_cases k0 : k = 1
          · have := t6 (by omega); omega
          · have := w2 k0; omega
        have hkd := kd_pos w w1 hk
        generalize hw : w - 4 = kd at hkn hkd
        have hkd5 : kd < 5 := by omega
        have rk : ∀ (f : Int32) (kind father : Nat → Int32), Rdr_readKind (nI N) f (nI p2) kind father (nI n) tb = (if kd = 4 then (Rdr_readNumber 0 6 f (nI r) (nI n) tb).bind (fun o_5 => if o_5.1 = 0 then some (0, o_5.2.1, o_5.2.2.1, o_5.2.2.2.1, o_5.2.2.2.2.1, o_5.2.2.2.2.2, upd kind N (nI kd), upd father N 0) else if o_5.2.2.2.2.2 = nI N then some (0, 4, o_5.2.2.1, o_5.2.2.2.1, o_5.2.2.2.2.1, o_5.2.2.2.2.2, upd kind N (nI kd), upd (upd father N 0) N o_5.2.2.2.2.2) else some (1, o_5.2.1, o_5.2.2.1, o_5.2.2.2.1, o_5.2.2.2.2.1, o_5.2.2.2.2.2, upd kind N (nI kd), upd (upd father N 0) N o_5.2.2.2.2.2)) else some (1, f, nI r, srt k, nI t0, nI v, upd kind N (nI kd), upd father N 0)) := fun f kind father => by
          unfold Rdr_readKind Rdr_isFaulty
          rw [t7]
          simp only [bindS, i10, if_false]
          rw [hkn]
          simp only [bindS, i00, if_true]
          rw [if_pos ((nI_0le (by omega)).mpr trivial), wrA_nI (by omega) (by omega), wrA_nI (by omega) (by omega)]
          have hw2 : ∀ (x : Int32) (kf : (Nat → Int32) → Option (Int32 × Int32 × Int32 × Int32 × Int32 × Int32 × (Nat → Int32) × (Nat → Int32))), wrA (upd father N 0) 7 (nI N) x kf = kf (upd (upd father N 0) N x) := fun x kf => wrA_nI (by omega) (by omega)
          simp only [hw2]
          by_cases h4' : kd = 4
          · rw [if_pos (by rw [h4']; rfl), if_pos h4']
          · rw [if_neg (show ¬ nI kd = 4 from fun hh => h4' ((nI_eq (b := 4) (by omega) (by omega)).mp hh)), if_neg h4']
        have mo : ∀ ba hi tk va y, Mod_step (nI n) 0 ba (nI r) (nI t0) (nI k) (nI v) tp = some y → Mod_readOne hi (nI n) 0 ba (nI p2) (nI p1) tk va rp tp cuts letters = roS (roT (nI n) tp (nI (6 * N))) (nI n) tp (nI N) (nI kd) (nI (6 * N)) hi y (upd (upd rp (6 * N) (nI kd)) (6 * N + 5) (-4)) := fun ba hi tk va y hy => by
          rw [ro_eq, r93, h93, if_neg hv7, t8]
          simp only [bindS]
          rw [w4]
          simp only [bindS, nmI_e]
          rw [hkd, if_pos ((nI_0le (by omega)).mpr trivial), hy]
          simp only [bindS]
          rw [nL6, pk_mul, px5, wrA_nI (by omega) (by omega), wrA_nI (by omega) (by omega)]
        by_cases h4' : kd = 4
        · rcases E_num h (lo := 0) (hi := 6) t3 (by omega) (by omega) with ⟨r1, fa, g1, g2, g3, g4, a1, g5, g6, g7⟩ | ⟨kk, pf, g1, g2, g3, ⟨x2, x3, x5, g4⟩, g5⟩
          · rw [show nI 0 = (0 : Int32) from rfl, show nI 6 = (6 : Int32) from rfl] at g5 g7
            have mo2 : ∀ ba hi tk va, Mod_readOne hi (nI n) 0 ba (nI p2) (nI p1) tk va rp tp cuts letters = (if fa = N then some (mxI (nI fa) hi, 4, nI a1, nI r1, nI a1, 2, nI fa, upd (upd (upd (upd (upd (rp8 kd fa N rp) (6 * N + 1) 0) (6 * N + 2) 1) (6 * N + 3) 0) (6 * N + 4) 0) 93 ((upd (upd (upd (upd (rp8 kd fa N rp) (6 * N + 1) 0) (6 * N + 2) 1) (6 * N + 3) 0) (6 * N + 4) 0) 93 + 1)) else (Mod_step (nI n) 0 ba (nI r1) (nI a1) 2 (nI fa) tp).bind (fun o_33 => roT (nI n) tp (nI (6 * N)) (mxI (nI fa) hi) o_33.1 o_33.2.1 o_33.2.2.1 o_33.2.2.2.1 o_33.2.2.2.2.1 o_33.2.2.2.2.2 (rp8 kd fa N rp))) := fun ba hi tk va => by
              rw [mo ba hi tk va _ (g6 ba _ _ _)]
              unfold roS rp8
              rw [if_pos (by rw [h4']; rfl), oneHere_l (g7 ba)]
              simp only [bindS, jn, if_true, fails_0]
              rw [px5, wrA_nI (by omega) (by omega), if_pos h4']
              by_cases hfN : fa = N
              · rw [if_pos (by rw [hfN]), if_pos hfN, step_b BK_4]
                simp only [bindS]
                rw [roT_b hN7 BK_4]
              · rw [if_neg (fun hh => hfN ((nI_eq (by omega) (by omega)).mp hh)), if_neg hfN]
            by_cases hfN : fa = N
            · refine Or.inr ⟨4, a1, by omega, by omega, fun f s va kind father comes wants cost coins => ⟨(0, 4, nI r1, 2, nI a1, nI fa, nI N, upd kind N (nI kd), upd (upd father N 0) N (nI fa), comes, wants, cost, coins), ?_, rfl, rfl, rfl⟩, fun ba hl hc hi tk va => ml_2b (k := 4) (pf := a1) BK_4 ((mo2 ba hi tk va).trans (if_pos hfN))⟩
              rw [rdp, rk, if_pos h4', g5]
              simp only [bindS, i10, if_false]
              rw [if_pos (by rw [hfN])]
              simp only [bindS, if_true]
            · have hfN' : ¬ nI fa = nI N := fun hh => hfN ((nI_eq (by omega) (by omega)).mp hh)
              rcases chain_sim h g2 hN7 with ⟨q, q1, vv, v0, v1, v2, v3, c1, c2, c3, c4, c5, c6, c7, c8⟩ | ⟨kk, pf, c1, c2, c3, c4⟩
              · refine Or.inl ⟨hN7, q, q1, vv, kd, fa, v0, v1, v2, v3, by omega, c2, hkd5, fun _ => ⟨by omega, hfN⟩, c3, c4, c5, c6, fun f s va kind father comes wants cost coins => ?_, fun ba hl hc hi tk va o ho => ?_⟩
                · rw [rdp, rk, if_pos h4', g5]
                  simp only [bindS, i10, if_false]
                  rw [if_neg hfN']
                  simp only [bindS, i10, if_false]
                  rw [c7]
                  unfold faT
                  rw [if_pos h4']
                · have h93' : rp8 kd fa N rp 93 = nI N := by
                    unfold rp8
                    rw [if_pos h4', upd_n (by omega), upd_n (by omega), upd_n (by omega), h93]
                  obtain ⟨y, z, y1, y2, y3⟩ := c8 ba (nI a1) 2 (nI fa) (mxI (nI fa) hi) hl hc (rp8 kd fa N rp) o h93' ho
                  have hz := mo2 ba hi tk va
                  rw [if_neg hfN, y1] at hz
                  simp only [bindS] at hz
                  rw [ml_2 (hz.trans y2), y3]
                  unfold hiT
                  rw [if_pos h4']
              · refine Or.inr ⟨kk, pf, c1, c2, fun f s va kind father comes wants cost coins => ?_, fun ba hl hc hi tk va => ?_⟩
                · obtain ⟨o, o1, o2⟩ := c3 f 1 2 (nI a1) (nI fa) (upd kind N (nI kd)) (upd (upd father N 0) N (nI fa)) comes wants cost coins
                  refine ⟨o, ?_, o2⟩
                  rw [rdp, rk, if_pos h4', g5]
                  simp only [bindS, i10, if_false]
                  rw [if_neg hfN']
                  simp only [bindS, i10, if_false]
                  exact o1
                · obtain ⟨y, z, o, y1, y2, y3⟩ := c4 ba (nI a1) 2 (nI fa) (mxI (nI fa) hi) hl hc (rp8 kd fa N rp)
                  have hz := mo2 ba hi tk va
                  rw [if_neg hfN, y1] at hz
                  simp only [bindS] at hz
                  exact ⟨o, by rw [ml_2 (hz.trans y2)]; exact y3.1, y3.2⟩
          · have hb := BK_n g1 g2
            rw [show nI 0 = (0 : Int32) from rfl, show nI 6 = (6 : Int32) from rfl] at g4 g5
            refine Or.inr ⟨kk, pf, g1, g2, fun f s va kind father comes wants cost coins => ⟨(0, nI kk, x2, x3, nI pf, x5, nI N, upd kind N (nI kd), upd father N 0, comes, wants, cost, coins), ?_, rfl, rfl, rfl⟩, fun ba hl hc hi tk va => ?_⟩
            · rw [rdp, rk, if_pos h4', g4]
              simp only [bindS, if_true]
            · obtain ⟨b', a', s', h', t', v', e1, e2⟩ := g5 ba (nI t0) (nI k) (nI v)
              refine ml_2b hb (y := mxI 0 hi) (s' := s') (h' := h') (t' := t') (v' := v') (rp' := upd (upd (upd (upd (upd (upd (upd (upd rp (6 * N) (nI kd)) (6 * N + 5) (-4)) (6 * N + 5) 0) (6 * N + 1) 0) (6 * N + 2) 1) (6 * N + 3) 0) (6 * N + 4) 0) 93 ((upd (upd (upd (upd (upd (upd (upd rp (6 * N) (nI kd)) (6 * N + 5) (-4)) (6 * N + 5) 0) (6 * N + 1) 0) (6 * N + 2) 1) (6 * N + 3) 0) (6 * N + 4) 0) 93 + 1)) ?_
              rw [mo ba hi tk va _ e1]
              unfold roS
              rw [if_pos (by rw [h4']; rfl), oneHere_l e2]
              simp only [bindS, jn]
              rw [px5, wrA_nI (by omega) (by omega), if_neg hb.2, step_b hb]
              simp only [bindS]
              exact roT_b hN7 hb _ _ _ _ _ _ _
        · have mo2 : ∀ ba hi tk va y, Mod_step (nI n) 0 ba (nI r) (nI t0) (nI k) (nI v) tp = some y → Mod_readOne hi (nI n) 0 ba (nI p2) (nI p1) tk va rp tp cuts letters = roT (nI n) tp (nI (6 * N)) hi y.1 y.2.1 y.2.2.1 y.2.2.2.1 y.2.2.2.2.1 y.2.2.2.2.2 (rp8 kd 0 N rp) := fun ba hi tk va y hy => by
            rw [mo ba hi tk va y hy]
            unfold roS rp8
            rw [if_neg (show ¬ nI kd = 4 from fun hh => h4' ((nI_eq (b := 4) (by omega) (by omega)).mp hh)), if_neg h4']
          rcases chain_sim h t3 hN7 with ⟨q, q1, vv, v0, v1, v2, v3, c1, c2, c3, c4, c5, c6, c7, c8⟩ | ⟨kk, pf, c1, c2, c3, c4⟩
          · refine Or.inl ⟨hN7, q, q1, vv, kd, 0, v0, v1, v2, v3, by omega, c2, hkd5, fun hh => absurd hh h4', c3, c4, c5, c6, fun f s va kind father comes wants cost coins => ?_, fun ba hl hc hi tk va o ho => ?_⟩
            · rw [rdp, rk, if_neg h4']
              simp only [bindS, i10, if_false]
              rw [c7]
              unfold faT
              rw [if_neg h4']
            · have h93' : rp8 kd 0 N rp 93 = nI N := by
                unfold rp8
                rw [if_neg h4', upd_n (by omega), upd_n (by omega), h93]
              obtain ⟨y, z, y1, y2, y3⟩ := c8 ba (nI t0) (nI k) (nI v) hi hl hc (rp8 kd 0 N rp) o h93' ho
              rw [ml_2 ((mo2 ba hi tk va y y1).trans y2), y3]
              unfold hiT
              rw [if_neg h4']
          · refine Or.inr ⟨kk, pf, c1, c2, fun f s va kind father comes wants cost coins => ?_, fun ba hl hc hi tk va => ?_⟩
            · obtain ⟨o, o1, o2⟩ := c3 f 1 (srt k) (nI t0) (nI v) (upd kind N (nI kd)) (upd father N 0) comes wants cost coins
              refine ⟨o, ?_, o2⟩
              rw [rdp, rk, if_neg h4']
              simp only [bindS, i10, if_false]
              exact o1
            · obtain ⟨y, z, o, y1, y2, y3⟩ := c4 ba (nI t0) (nI k) (nI v) hi hl hc (rp8 kd 0 N rp)
              exact ⟨o, by rw [ml_2 ((mo2 ba hi tk va y y1).trans y2)]; exact y3.1, y3.2⟩
      · rw [if_neg hk] at hkn
        refine Or.inr ⟨2, t0, by omega, by omega, fun f s va kind father comes wants cost coins => ⟨(0, 2, nI r, srt k, nI t0, nI v, nI N, kind, father, comes, wants, cost, coins), ?_, rfl, rfl, rfl⟩, fun ba hl hc hi tk va => ?_⟩
        · rw [rdp]
          unfold Rdr_readKind Rdr_isFaulty
          rw [t7]
          simp only [bindS, i10, if_false]
          rw [hkn]
          simp only [bindS, true_or, if_true]
          rw [if_neg (by decide)]
          simp only [bindS, if_true]
        · refine ml_2b (k := 2) (pf := t0) BK_2 (y := hi) (s' := nI r) (h' := nI t0) (t' := nI k) (v' := nI v) (rp' := rp) ?_
          rw [ro_eq, r93, h93, if_neg hv7, t8]
          simp only [bindS]
          rw [w4]
          simp only [bindS, nmI_e]
          rw [if_neg (kd_neg w w1 hk), fails_0]
          simp only [bindS]
          rfl
    · refine Or.inr ⟨1, t0, by omega, by omega, fun f s va kind father comes wants cost coins => ⟨(0, 1, x2, x3, nI t0, x5, nI N, kind, father, comes, wants, cost, coins), ?_, rfl, rfl, rfl⟩, fun ba hl hc hi tk va => ?_⟩
      · rw [rdp]
        unfold Rdr_readKind
        rw [t2]
        simp only [bindS, if_true]
      · refine ml_2b (k := 1) (pf := t0) ⟨by decide, by decide⟩ (y := hi) (s' := y3) (h' := nI t0) (t' := y5) (v' := y6) (rp' := rp) ?_
        rw [ro_eq, r93, h93, if_neg hv7, t4]
        simp only [bindS]
        rw [nh_not t3]
        simp only [bindS, nmI_e]
        rw [if_neg (by decide), fails_b ⟨by decide, by decide⟩]
        simp only [bindS]
        rfl
end ONE
