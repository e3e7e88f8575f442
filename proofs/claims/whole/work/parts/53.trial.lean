/-! door and buy: trials -/
def aStep (f wt c q w v b : Int32) : Int32 × Int32 × Int32 × Int32 := if w < wt then (1, w, v, b) else if f = 0 then (f, wt, c, q) else if w = wt then (if c ≤ v then (f, wt, c, q) else (1, w, v, b)) else (f, wt, c, q)
def mStep (bw bq bc w q v : Int32) : Int32 × Int32 × Int32 := if w < bw then (w, q, v) else if w = bw then (if bq = -4 then (bw, bq, bc) else if v < bc then (w, q, v) else if v = bc then (if bq ≤ q then (bw, bq, bc) else (w, q, v)) else (bw, bq, bc)) else (bw, bq, bc)
theorem tup6 {α β γ δ ε ζ : Type} {a a' : α} {b b' : β} {c c' : γ} {d d' : δ} {e e' : ε} {f f' : ζ} (h : some (a, b, c, d, e, f) = some (a', b', c', d', e', f')) : c = c' ∧ f = f' := by
  cases h
  exact ⟨rfl, rfl⟩
theorem tup7 {α β γ δ ε ζ η : Type} {a a' : α} {b b' : β} {c c' : γ} {d d' : δ} {e e' : ε} {f f' : ζ} {g g' : η} (h : some (a, b, c, d, e, f, g) = some (a', b', c', d', e', f', g')) : f = f' := by
  cases h
  rfl
section TRI
variable {N : Nat} {law counters : Int32} {kind father comes wants cost coins debts : Nat → Int32}
theorem trialG (CT DT ST : (Nat → Int32) → Nat → Int32) {p : Nat} (hp : p < N)
    (hG : ∀ (k1 k2 k3 k4 k5 k6 k7 st : Nat → Int32), RT N (nI N) law counters kind father comes wants cost coins debts st 0 → RT N (nI N) law counters (va_cpy kind k1 0 0 7) (va_cpy father k2 0 0 7) (va_cpy comes k3 0 0 7) (va_cpy wants k4 0 0 7) (va_cpy cost k5 0 0 7) (CT k6) (DT k7) (ST st) 282 ∧ (∀ k, k < 282 → ST st k = st k))
    {st0 : Nat → Int32} (h0 : RT N (nI N) law counters kind father comes wants cost coins debts st0 0) :
    ∃ w, w ≤ 130 ∧ (∀ (k1 k2 k3 k4 k5 k6 k7 ones served fr : Nat → Int32), fr 0 = 0 → fr 1 = 0 → ∃ (paid L : Int32) (cs' ds' ones' served' fr' : Nat → Int32),
        Run_go 130 0 (nI N) law counters (va_cpy kind k1 0 0 7) (va_cpy father k2 0 0 7) (va_cpy comes k3 0 0 7) (va_cpy wants k4 0 0 7) (CT k6) (DT k7) 0 ones served fr = some (paid, cs', ds', L, ones', served', fr') ∧ served' p - va_cpy comes k3 0 0 7 p = nI w) ∧
      (∀ (st queue busy servedIn : Nat → Int32), RT N (nI N) law counters kind father comes wants cost coins debts st 0 → ∃ (L paid : Int32) (st' queue' busy' servedIn' : Nat → Int32),
        Mod_runsTo 130 (ST st) queue busy servedIn = some (L, paid, st', queue', busy', servedIn') ∧ servedIn' p - st' (282 + 6 * p + 1) = nI w ∧ frm st st') := by
  have hN := h0.N7
  -- the same wait on both sides, whatever the scratch
  have key : ∀ (k1 k2 k3 k4 k5 k6 k7 ones served fr st queue busy servedIn : Nat → Int32), fr 0 = 0 → fr 1 = 0 → RT N (nI N) law counters kind father comes wants cost coins debts st 0 → ∃ w, w ≤ 130 ∧ (∃ (paid L : Int32) (cs' ds' ones' served' fr' : Nat → Int32),
        Run_go 130 0 (nI N) law counters (va_cpy kind k1 0 0 7) (va_cpy father k2 0 0 7) (va_cpy comes k3 0 0 7) (va_cpy wants k4 0 0 7) (CT k6) (DT k7) 0 ones served fr = some (paid, cs', ds', L, ones', served', fr') ∧ served' p - va_cpy comes k3 0 0 7 p = nI w) ∧ (∃ (L paid : Int32) (st' queue' busy' servedIn' : Nat → Int32),
        Mod_runsTo 130 (ST st) queue busy servedIn = some (L, paid, st', queue', busy', servedIn') ∧ servedIn' p - st' (282 + 6 * p + 1) = nI w ∧ frm st st') := by
    intro k1 k2 k3 k4 k5 k6 k7 ones served fr st queue busy servedIn f0 f1 hst
    obtain ⟨g1, g2⟩ := hG k1 k2 k3 k4 k5 k6 k7 st hst
    obtain ⟨L, paid, coins', debts', ones', served', free', st', queue', busy', servedIn', s1, s2, s3, s4, s5, s6, s7, s8⟩ := run_sim (N := N) (last := 130) (ones := ones) (served := served) (queue := queue) (busy := busy) (servedIn := servedIn) (free := fr) (Nat.le_refl _) g1 f0 f1
    obtain ⟨v, v1, v2, v3, v4⟩ := s8 rfl p hp
    obtain ⟨⟨c, hc, he⟩, -⟩ := g1.rng p hp
    rw [he, nI_clamp (by omega)] at v2
    refine ⟨v - c, by omega, ⟨paid, nI L, coins', debts', ones', served', free', s1, ?_⟩, ⟨nI L, paid, st', queue', busy', servedIn', s2, ?_, fun k hk => by rw [s7 k (Or.inl hk), g2 k hk]⟩⟩
    · rw [v3, he, pk_sub v2]
    · rw [v4, (s4.cel p hp).2.1, he, pk_sub v2]
  obtain ⟨z, hz⟩ : ∃ z : Nat → Int32, ∀ i, z i = 0 := ⟨fun _ => 0, fun _ => rfl⟩
  obtain ⟨w, hw, hA, hB⟩ := key z z z z z z z z z z st0 z z z (hz 0) (hz 1) h0
  refine ⟨w, hw, ?_, ?_⟩
  · intro k1 k2 k3 k4 k5 k6 k7 ones served fr f0 f1
    obtain ⟨w', hw', ⟨paid, L, cs', ds', ones', served', fr', r1, r2⟩, L2, paid2, st2, q2, b2, sv2, r3, r4, -⟩ := key k1 k2 k3 k4 k5 k6 k7 ones served fr st0 z z z f0 f1 h0
    obtain ⟨L3, paid3, st3, q3, b3, sv3, r5, r6, -⟩ := hB
    obtain ⟨e1, e2⟩ := tup6 (r5.symm.trans r3)
    rw [← e1, ← e2, r6] at r4
    exact ⟨paid, L, cs', ds', ones', served', fr', r1, by rw [r2, r4]⟩
  · intro st queue busy servedIn hst
    obtain ⟨w', hw', ⟨paid, L, cs', ds', ones', served', fr', r1, r2⟩, L2, paid2, st2, q2, b2, sv2, r3, r4, r7⟩ := key z z z z z z z z z z st queue busy servedIn (hz 0) (hz 1) hst
    obtain ⟨paid3, L3, cs3, ds3, ones3, sv3, fr3, r5, r6⟩ := hA
    have e2 := tup7 (r5.symm.trans r1)
    rw [← e2, r6] at r2
    exact ⟨L2, paid2, st2, q2, b2, sv2, r3, by rw [r4, r2], r7⟩
theorem E_weigh {p : Nat} (hp : p < 7) {w way price paid L f wt c wh : Int32} {kd fa cm wn cs ds ones served fr cs' ds' ones' served' fr' : Nat → Int32} (h : Run_go 130 0 (nI N) law counters kd fa cm wn cs ds 0 ones served fr = some (paid, cs', ds', L, ones', served', fr')) (hw : served' p - cm p = w) :
    Adv_weigh (nI p) way price f wt c wh 0 (nI N) law counters kd fa cm wn cs ds 0 ones served fr = some ((aStep f wt c wh w price way).1, (aStep f wt c wh w price way).2.1, (aStep f wt c wh w price way).2.2.1, (aStep f wt c wh w price way).2.2.2, paid, cs', ds', L, ones', served', fr') := by
  unfold Adv_weigh aStep
  rw [h]
  simp only [bindS]
  rw [E_waitT hp, hw]
  simp only [bindS, jn]
  by_cases h1 : w < wt
  · simp only [h1, if_true]
  · simp only [h1, if_false]
    by_cases h2 : f = 0
    · simp only [h2, if_true]
    · simp only [h2, if_false]
      by_cases h3 : w = wt
      · simp only [h3, if_true]
        by_cases h4 : c ≤ price
        · simp only [h4, if_true]
        · simp only [h4, if_false]
      · simp only [h3, if_false]
theorem E_tries {p : Nat} (hp : p < 7) {w whom price bw bq bc L paid : Int32} {st queue busy servedIn st' queue' busy' servedIn' : Nat → Int32} (h : Mod_runsTo 130 st queue busy servedIn = some (L, paid, st', queue', busy', servedIn')) (hw : servedIn' p - st' (282 + 6 * p + 1) = w) :
    Mod_tries (nI p) whom price bw bq bc st queue busy servedIn = some (L, paid, (mStep bw bq bc w whom price).1, (mStep bw bq bc w whom price).2.1, (mStep bw bq bc w whom price).2.2, st', queue', busy', servedIn') := by
  unfold Mod_tries mStep
  rw [h]
  simp only [bindS]
  rw [E_waitM hp, hw]
  simp only [bindS, jn]
  by_cases h1 : w < bw
  · simp only [h1, if_true]
  · simp only [h1, if_false]
    by_cases h3 : w = bw
    · simp only [h3, if_true]
      by_cases h2 : bq = -4
      · simp only [h2, if_true]
      · simp only [h2, if_false]
        by_cases h4 : price < bc
        · simp only [h4, if_true]
        · simp only [h4, if_false]
          by_cases h5 : price = bc
          · simp only [h5, if_true]
            by_cases h6 : bq ≤ whom
            · simp only [h6, if_true]
            · simp only [h6, if_false]
          · simp only [h5, if_false]
    · simp only [h3, if_false]
/-- the best so far, where both sides try in the same order -/
def RBy (s : Nat) (f wt c wh bw bq bc : Int32) : Prop := (f = 0 ∧ bq = -4 ∧ wt = bw) ∨ (f = 1 ∧ wt = bw ∧ c = bc ∧ wh = bq ∧ ∃ s', s' < s ∧ bq = nI s')
theorem RBy.mono {s s2 : Nat} {f wt c wh bw bq bc : Int32} (h : RBy s f wt c wh bw bq bc) (hs : s ≤ s2) : RBy s2 f wt c wh bw bq bc := by
  rcases h with h | ⟨h1, h2, h3, h4, s', h5, h6⟩
  · exact Or.inl h
  · exact Or.inr ⟨h1, h2, h3, h4, s', by omega, h6⟩
theorem RBy.step {s : Nat} (hs : s < 1000) {f wt c wh bw bq bc : Int32} (h : RBy s f wt c wh bw bq bc) (w v : Int32) : RBy (s + 1) (aStep f wt c wh w v (nI s)).1 (aStep f wt c wh w v (nI s)).2.1 (aStep f wt c wh w v (nI s)).2.2.1 (aStep f wt c wh w v (nI s)).2.2.2 (mStep bw bq bc w (nI s) v).1 (mStep bw bq bc w (nI s) v).2.1 (mStep bw bq bc w (nI s) v).2.2 := by
  unfold aStep mStep
  rcases h with ⟨rfl, rfl, rfl⟩ | ⟨rfl, rfl, rfl, rfl, s', h5, rfl⟩
  · by_cases h1 : w < wt
    · simp only [h1, if_true]
      exact Or.inr ⟨rfl, rfl, rfl, rfl, s, by omega, rfl⟩
    · simp only [h1, if_false, if_true, ite_self]
      exact Or.inl ⟨rfl, rfl, rfl⟩
  · have hne : ¬ nI s' = -4 := fun hh => nI_pos (n := s') (by omega) (by rw [hh]; decide)
    by_cases h1 : w < wt
    · simp only [h1, if_true]
      exact Or.inr ⟨rfl, rfl, rfl, rfl, s, by omega, rfl⟩
    · simp only [h1, if_false, i10]
      by_cases h3 : w = wt
      · simp only [h3, if_true, hne, if_false]
        by_cases h4 : c ≤ v
        · simp only [h4, if_true, i32_nlt.mpr h4, if_false, eq_true (nI_le (show s' ≤ s by omega) (by omega)), ite_self]
          exact Or.inr ⟨rfl, rfl, rfl, rfl, s', by omega, rfl⟩
        · simp only [h4, if_false, i32_nle.mp h4, if_true]
          exact Or.inr ⟨rfl, rfl, rfl, rfl, s, by omega, rfl⟩
      · simp only [h3, if_false]
        exact Or.inr ⟨rfl, rfl, rfl, rfl, s', by omega, rfl⟩
theorem E_buyDebt {p a b : Nat} (hp : p < 7) (ha : a < 7) (hb : b < 7) (hbp : b ≠ p) (cs ds : Nat → Int32) : Twn_buyDebt (nI p) (nI a) (nI b) cs ds = some (giveC cs p b (ds (7 * a + b)), upd (upd ds (7 * a + b) 0) (7 * a + p) (ds (7 * a + p) + ds (7 * a + b))) := by
  unfold Twn_buyDebt giveC
  rw [E_owed ha hb]
  simp only [bindS]
  rw [rdA_nI (by omega) (by omega), wrA_nI (by omega) (by omega), rdA_nI (by omega) (by omega), wrA_nI (by omega) (by omega), E_setDebt ha hb]
  simp only [bindS]
  rw [E_owed ha hp]
  simp only [bindS]
  rw [E_setDebt ha hp, upd_n (show 7 * a + p ≠ 7 * a + b by omega)]
  simp only [bindS]
end TRI
