section LINES
variable {n : Nat} {c : Nat → Nat} {tb tp cuts letters : Nat → Int32}
variable {N H : Nat} {people law counters : Int32} {kind father comes wants cost coins debts rp : Nat → Int32} {hi : Int32}
theorem in03 : ∀ w, w ≤ 9 → (if (0 : Int32) ≤ (if w < 9 then nI w else -4) ∧ (if w < 9 then nI w else -4) ≤ 3 then (1 : Int32) else 0) = if w < 4 then 1 else 0 := by decide +kernel
theorem E_in03 {w : Nat} (hw : w ≤ 9) : Mod_in (if w < 9 then nI w else -4 : Int32).toInt64 0 3 = some (if w < 4 then 1 else 0) := by
  rw [E_in32c _ (lo := 0) (hi := 3) (a := 0) (b := 3) rfl rfl, in03 w hw]
theorem line_sim (h : CH n c tb tp) (hC : CLt cuts letters) {p1 p2 k v : Nat} (hp1 : p1 ≤ p2) (hp : p2 ≤ n) (hk : k < 4) {lt ct : Int32} (hlt : lt = 0 ∨ lt = 1) (hct : ct = 0 ∨ ct = 1) (hR : RD N H people law counters kind father comes wants cost coins debts rp hi) :
    (∃ (q q1 v' N' H' : Nat) (lt' ct' law' counters' hi' : Int32) (kind' father' comes' wants' cost' coins' debts' rp' : Nat → Int32), p2 < q ∧ q ≤ n ∧ (lt' = 0 ∨ lt' = 1) ∧ (ct' = 0 ∨ ct' = 1) ∧ RD N' H' (nI N') law' counters' kind' father' comes' wants' cost' coins' debts' rp' hi' ∧ (∀ f, Rdr_readLine f (nI p2) (srt k) (nI p1) (nI v) lt ct people law counters kind father comes wants cost coins debts (nI n) tb = some (1, f, nI q, 3, nI q1, nI v', lt', ct', nI N', law', counters', kind', father', comes', wants', cost', coins', debts')) ∧ ∀ ba o, (∀ h t w, Mod_step (nI n) 0 ba (nI q) h t w tp = some o) → Mod_readLine lt ct hi (nI n) 0 ba (nI p2) (nI p1) (nI k) (nI v) rp tp cuts letters = some (lt', ct', hi', o.1, o.2.1, o.2.2.1, o.2.2.2.1, o.2.2.2.2.1, o.2.2.2.2.2, rp')) ∨
    ∃ kk pf : Nat, 1 ≤ kk ∧ kk ≤ 6 ∧ (∀ f, ∃ o, Rdr_readLine f (nI p2) (srt k) (nI p1) (nI v) lt ct people law counters kind father comes wants cost coins debts (nI n) tb = some o ∧ o.1 = 0 ∧ o.2.1 = nI kk ∧ o.2.2.2.2.1 = nI pf) ∧ ∀ ba, ∃ o, Mod_readLine lt ct hi (nI n) 0 ba (nI p2) (nI p1) (nI k) (nI v) rp tp cuts letters = some o ∧ o.2.2.2.1 = nI kk ∧ o.2.2.2.2.1 = nI pf := by
  have hpe : people = nI N := hR.1.2.1
  have hN7 : N ≤ 7 := hR.1.1
  have h93 : rp 93 = nI N := hR.1.2.2.1
  obtain ⟨w, w1, w2, w3, w4⟩ := E_name h hC hp1 hp hk
  subst hpe
  rcases (show w = 0 ∨ w = 1 ∨ w = 2 ∨ w = 3 ∨ 4 ≤ w by omega) with rfl | rfl | rfl | rfl | hw
  · rcases law_sim (cuts := cuts) (letters := letters) h (p1 := p1) (p2 := p2) (by omega) hp hlt with ⟨hz, q, q1, vv, x, c1, c2, c3, c4, c5⟩ | ⟨kk, pf, c1, c2, -, c3, c4⟩
    · refine Or.inl ⟨q, q1, vv, N, H, 1, ct, nI x, counters, hi, kind, father, comes, wants, cost, coins, debts, upd rp 91 (nI x), c1, c2, Or.inr rfl, hct, RD_law hR c3, fun f => ?_, fun ba o ho => ?_⟩
      · unfold Rdr_readLine
        rw [w3 0 (by omega), if_pos rfl]
        simp only [bindS, i10, if_false]
        rw [c4]
        simp only [bindS, or_true, if_true]
      · rw [ml_eq, w4]
        simp only [bindS]
        rw [E_in03 w1]
        simp only [bindS]
        rw [if_neg (by decide), show (if 0 < 9 then nI 0 else (-4 : Int32)) = 0 from rfl]
        exact c5 ba ct hi (nI p1) (nI k) (nI v) rp o ho
    · refine Or.inr ⟨kk, pf, c1, c2, fun f => ?_, fun ba => ?_⟩
      · obtain ⟨o, o1, o2, o3, o4⟩ := c3 f (srt k) (nI v) law
        refine ⟨(o.1, o.2.1, o.2.2.1, o.2.2.2.1, o.2.2.2.2.1, o.2.2.2.2.2.1, o.2.2.2.2.2.2.1, ct, nI N, o.2.2.2.2.2.2.2, counters, kind, father, comes, wants, cost, coins, debts), ?_, o2, o3, o4⟩
        unfold Rdr_readLine
        rw [w3 0 (by omega), if_pos rfl]
        simp only [bindS, i10, if_false]
        rw [o1]
        simp only [bindS]
        rw [if_pos (Or.inl o2)]
      · rw [ml_eq, w4]
        simp only [bindS]
        rw [E_in03 w1]
        simp only [bindS]
        rw [if_neg (by decide), show (if 0 < 9 then nI 0 else (-4 : Int32)) = 0 from rfl]
        exact c4 ba ct hi (nI k) (nI v) rp
  · rcases cnt_sim (cuts := cuts) (letters := letters) h (p1 := p1) (p2 := p2) (by omega) hp hct with ⟨hz, q, q1, vv, x, c1, c2, c3, c4, c5⟩ | ⟨kk, pf, c1, c2, -, c3, c4⟩
    · refine Or.inl ⟨q, q1, vv, N, H, lt, 1, law, nI (1 + x), hi, kind, father, comes, wants, cost, coins, debts, upd rp 92 (nI x), c1, c2, hlt, Or.inr rfl, RD_cnt hR c3, fun f => ?_, fun ba o ho => ?_⟩
      · unfold Rdr_readLine
        rw [w3 0 (by omega), if_neg (show ¬ (1 : Nat) = 0 by decide)]
        simp only [bindS, i00, if_true]
        rw [w3 1 (by omega), if_pos rfl]
        simp only [bindS, i10, if_false]
        rw [c4]
        simp only [bindS, or_true, if_true]
      · rw [ml_eq, w4]
        simp only [bindS]
        rw [E_in03 w1]
        simp only [bindS]
        rw [if_neg (by decide), show (if 1 < 9 then nI 1 else (-4 : Int32)) = 1 from rfl]
        exact c5 ba lt hi (nI p1) (nI k) (nI v) rp o ho
    · refine Or.inr ⟨kk, pf, c1, c2, fun f => ?_, fun ba => ?_⟩
      · obtain ⟨o, o1, o2, o3, o4⟩ := c3 f (srt k) (nI v) counters
        refine ⟨(o.1, o.2.1, o.2.2.1, o.2.2.2.1, o.2.2.2.2.1, o.2.2.2.2.2.1, lt, o.2.2.2.2.2.2.1, nI N, law, o.2.2.2.2.2.2.2, kind, father, comes, wants, cost, coins, debts), ?_, o2, o3, o4⟩
        unfold Rdr_readLine
        rw [w3 0 (by omega), if_neg (show ¬ (1 : Nat) = 0 by decide)]
        simp only [bindS, i00, if_true]
        rw [w3 1 (by omega), if_pos rfl]
        simp only [bindS, i10, if_false]
        rw [o1]
        simp only [bindS]
        rw [if_pos (Or.inl o2)]
      · rw [ml_eq, w4]
        simp only [bindS]
        rw [E_in03 w1]
        simp only [bindS]
        rw [if_neg (by decide), show (if 1 < 9 then nI 1 else (-4 : Int32)) = 1 from rfl]
        exact c4 ba lt hi (nI k) (nI v) rp
  · rcases one_sim h hC (p1 := p1) hN7 hp h93 with ⟨hz, q, q1, vv, kd, fa, v0, v1, v2, v3, c1, c2, c3, c4, c5, c6, c7, c8, c9, c10⟩ | ⟨kk, pf, c1, c2, c3, c4⟩
    · refine Or.inl ⟨q, q1, vv, N + 1, (if kd = 4 then max H (fa + 1) else H), lt, ct, law, counters, hiT kd fa hi, upd kind N (nI kd), faT kd fa N father, upd comes N (nI v0), upd wants N (nI v1), upd cost N (nI v2), upd coins N (nI v3), debts, pgN N v0 v1 v2 v3 (rp8 kd fa N rp), c1, c2, hlt, hct, RD_one hR hz c3 c4 c5 c6 c7 c8, fun f => ?_, fun ba o ho => ?_⟩
      · unfold Rdr_readLine
        rw [w3 0 (by omega), if_neg (show ¬ (2 : Nat) = 0 by decide)]
        simp only [bindS, i00, if_true]
        rw [w3 1 (by omega), if_neg (show ¬ (2 : Nat) = 1 by decide)]
        simp only [bindS, i00, if_true]
        rw [w3 2 (by omega), if_pos rfl]
        simp only [bindS, i10, if_false]
        rw [c9]
        simp only [bindS, or_true, if_true]
      · rw [ml_eq, w4]
        simp only [bindS]
        rw [E_in03 w1]
        simp only [bindS]
        rw [if_neg (by decide), show (if 2 < 9 then nI 2 else (-4 : Int32)) = 2 from rfl]
        exact c10 ba lt ct hi (nI k) (nI v) o ho
    · refine Or.inr ⟨kk, pf, c1, c2, fun f => ?_, fun ba => ?_⟩
      · obtain ⟨o, o1, o2, o3, o4⟩ := c3 f (srt k) (nI v) kind father comes wants cost coins
        refine ⟨(o.1, o.2.1, o.2.2.1, o.2.2.2.1, o.2.2.2.2.1, o.2.2.2.2.2.1, lt, ct, o.2.2.2.2.2.2.1, law, counters, o.2.2.2.2.2.2.2.1, o.2.2.2.2.2.2.2.2.1, o.2.2.2.2.2.2.2.2.2.1, o.2.2.2.2.2.2.2.2.2.2.1, o.2.2.2.2.2.2.2.2.2.2.2.1, o.2.2.2.2.2.2.2.2.2.2.2.2, debts), ?_, o2, o3, o4⟩
        unfold Rdr_readLine
        rw [w3 0 (by omega), if_neg (show ¬ (2 : Nat) = 0 by decide)]
        simp only [bindS, i00, if_true]
        rw [w3 1 (by omega), if_neg (show ¬ (2 : Nat) = 1 by decide)]
        simp only [bindS, i00, if_true]
        rw [w3 2 (by omega), if_pos rfl]
        simp only [bindS, i10, if_false]
        rw [o1]
        simp only [bindS]
        rw [if_pos (Or.inl o2)]
      · rw [ml_eq, w4]
        simp only [bindS]
        rw [E_in03 w1]
        simp only [bindS]
        rw [if_neg (by decide), show (if 2 < 9 then nI 2 else (-4 : Int32)) = 2 from rfl]
        exact c4 ba lt ct hi (nI k) (nI v)
  · rcases debt_sim (cuts := cuts) (letters := letters) h hp hR.2.2.2.2.2.1.1 (fun a b ha hb => by obtain ⟨d, d1, d2, -⟩ := hR.2.2.2.2.2.1.2.2 a b ha hb; exact ⟨d, d1, d2⟩) with ⟨q, q1, vv, a, b, x, c1, c2, c3, c4, c5, c6, c7, c8, c9⟩ | ⟨kk, pf, c1, c2, c3, c4⟩
    · refine Or.inl ⟨q, q1, vv, N, max (max H (a + 1)) (b + 1), lt, ct, law, counters, mxI (nI b) (mxI (nI a) hi), kind, father, comes, wants, cost, coins, upd debts (7 * a + b) (nI x), upd rp (42 + 7 * a + b) (nI x), c1, c2, hlt, hct, RD_debt hR c3 c4 c5 c6 c7, fun f => ?_, fun ba o ho => ?_⟩
      · unfold Rdr_readLine
        rw [w3 0 (by omega), if_neg (show ¬ (3 : Nat) = 0 by decide)]
        simp only [bindS, i00, if_true]
        rw [w3 1 (by omega), if_neg (show ¬ (3 : Nat) = 1 by decide)]
        simp only [bindS, i00, if_true]
        rw [w3 2 (by omega), if_neg (show ¬ (3 : Nat) = 2 by decide)]
        simp only [bindS, i00, if_true]
        rw [w3 3 (by omega), if_pos rfl]
        simp only [bindS, i10, if_false]
        rw [c8]
        simp only [bindS, or_true, if_true]
      · rw [ml_eq, w4]
        simp only [bindS]
        rw [E_in03 w1]
        simp only [bindS]
        rw [if_neg (by decide), show (if 3 < 9 then nI 3 else (-4 : Int32)) = 3 from rfl]
        exact c9 ba lt ct hi (nI p1) (nI k) (nI v) o ho
    · refine Or.inr ⟨kk, pf, c1, c2, fun f => ?_, fun ba => ?_⟩
      · obtain ⟨o, o1, o2, o3, o4⟩ := c3 f
        refine ⟨(o.1, o.2.1, o.2.2.1, o.2.2.2.1, o.2.2.2.2.1, o.2.2.2.2.2.1, lt, ct, nI N, law, counters, kind, father, comes, wants, cost, coins, o.2.2.2.2.2.2), ?_, o2, o3, o4⟩
        unfold Rdr_readLine
        rw [w3 0 (by omega), if_neg (show ¬ (3 : Nat) = 0 by decide)]
        simp only [bindS, i00, if_true]
        rw [w3 1 (by omega), if_neg (show ¬ (3 : Nat) = 1 by decide)]
        simp only [bindS, i00, if_true]
        rw [w3 2 (by omega), if_neg (show ¬ (3 : Nat) = 2 by decide)]
        simp only [bindS, i00, if_true]
        rw [w3 3 (by omega), if_pos rfl]
        simp only [bindS, i10, if_false]
        rw [o1]
        simp only [bindS]
        rw [if_pos (Or.inl o2)]
      · rw [ml_eq, w4]
        simp only [bindS]
        rw [E_in03 w1]
        simp only [bindS]
        rw [if_neg (by decide), show (if 3 < 9 then nI 3 else (-4 : Int32)) = 3 from rfl]
        exact c4 ba lt ct hi (nI p1) (nI k) (nI v)
  · have e0 : (w = 0) = False := eq_false (by omega)
    have e1 : (w = 1) = False := eq_false (by omega)
    have e2 : (w = 2) = False := eq_false (by omega)
    have e3 : (w = 3) = False := eq_false (by omega)
    refine Or.inr ⟨2, p1, by omega, by omega, fun f => ⟨(0, 2, nI p2, srt k, nI p1, nI v, lt, ct, nI N, law, counters, kind, father, comes, wants, cost, coins, debts), ?_, rfl, rfl, rfl⟩, fun ba => ⟨(lt, ct, hi, 2, nI p1, nI p2, nI p1, nI k, nI v, rp), ?_, rfl, rfl⟩⟩
    · unfold Rdr_readLine Rdr_isFaulty
      rw [w3 0 (by omega), w3 1 (by omega), w3 2 (by omega), w3 3 (by omega)]
      simp only [bindS, e0, e1, e2, e3, if_false, i00, if_true, true_or]
    · rw [ml_eq, w4]
      simp only [bindS]
      rw [E_in03 w1]
      simp only [bindS]
      rw [if_neg (show ¬ w < 4 by omega), if_pos rfl, fails_0]
      simp only [bindS]
end LINES
