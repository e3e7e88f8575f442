/-! one comes to the row: Row.letIn beside comesTo -/
section LTI
variable {N q : Nat} {people law counters : Int32} {kind father comes wants cost coins debts st : Nat → Int32}
def giveC (coins : Nat → Int32) (a b : Nat) (v : Int32) : Nat → Int32 := upd (upd coins a (coins a - v)) b (upd coins a (coins a - v) b + v)
theorem payC_give {a b : Nat} : payC coins debts a b = giveC coins a b (debts (7 * a + b)) := rfl
theorem giveM_out {a b k : Nat} {v : Int32} (h1 : k ≠ q + 6 * a + 4) (h2 : k ≠ q + 6 * b + 4) : giveM st q a b v k = st k := by
  unfold giveM
  rw [upd_n h2, upd_n h1]
theorem giveM_at {a b p : Nat} {v : Int32} (ha : st (q + 6 * a + 4) = coins a) (hb : st (q + 6 * b + 4) = coins b) (hp : st (q + 6 * p + 4) = coins p) : giveM st q a b v (q + 6 * p + 4) = giveC coins a b v p := by
  unfold giveM giveC
  by_cases h1 : p = b
  · subst h1
    rw [upd_s, upd_s]
    by_cases h2 : p = a
    · subst h2; rw [upd_s, upd_s, ha]
    · rw [upd_n (by omega), upd_n h2, hb]
  · rw [upd_n (by omega), upd_n h1]
    by_cases h2 : p = a
    · subst h2; rw [upd_s, upd_s, ha]
    · rw [upd_n (by omega), upd_n h2, hp]
theorem RT.give (h : RT N people law counters kind father comes wants cost coins debts st q) {a b : Nat} (ha : a < N) (hb : b < N) (v : Int32) : RT N people law counters kind father comes wants cost (giveC coins a b v) debts (giveM st q a b v) q := by
  have hN := h.N7
  have o : ∀ k, (∀ p, p < 7 → k ≠ q + 6 * p + 4) → giveM st q a b v k = st k := fun k hk => giveM_out (hk a (by omega)) (hk b (by omega))
  obtain ⟨c, hc, hc1, hc2⟩ := h.ctr
  refine ⟨hN, h.ppl, ?_, ?_, h.lw01, ⟨c, hc, hc1, ?_⟩, ?_, ?_, ?_, h.rng, ?_, h.dia⟩
  · rw [o _ (fun p hp => by omega)]; exact h.many
  · rw [o _ (fun p hp => by omega)]; exact h.lw
  · rw [o _ (fun p hp => by omega)]; exact hc2
  · intro p hp
    obtain ⟨e0, e1, e2, e3, e4⟩ := h.cel p hp
    refine ⟨?_, ?_, ?_, ?_, giveM_at (h.cel a ha).2.2.2.2 (h.cel b hb).2.2.2.2 e4⟩
    · rw [o _ (fun p hp => by omega)]; exact e0
    · rw [o _ (fun p hp => by omega)]; exact e1
    · rw [o _ (fun p hp => by omega)]; exact e2
    · rw [o _ (fun p hp => by omega)]; exact e3
  · intro p hp hk
    obtain ⟨f, h1, h2, h3, h4⟩ := h.fat p hp hk
    exact ⟨f, h1, h2, h3, by rw [o _ (fun p hp => by omega)]; exact h4⟩
  · intro p hp hk
    rw [o _ (fun p hp => by omega)]; exact h.nfa p hp hk
  · intro k hk
    rw [o _ (fun p hp => by omega)]; exact h.deb k hk
theorem RT.setD (h : RT N people law counters kind father comes wants cost coins debts st q) {k : Nat} (hk : k < 49) (v : Int32) (hd : (∃ a, k = 7 * a + a) → v = 0) : RT N people law counters kind father comes wants cost coins (upd debts k v) (upd st (q + 42 + k) v) q := by
  have hN := h.N7
  obtain ⟨c, hc, hc1, hc2⟩ := h.ctr
  refine ⟨hN, h.ppl, ?_, ?_, h.lw01, ⟨c, hc, hc1, ?_⟩, ?_, ?_, ?_, h.rng, ?_, ?_⟩
  · rw [upd_n (by omega)]; exact h.many
  · rw [upd_n (by omega)]; exact h.lw
  · rw [upd_n (by omega)]; exact hc2
  · intro p hp
    obtain ⟨e0, e1, e2, e3, e4⟩ := h.cel p hp
    refine ⟨?_, ?_, ?_, ?_, ?_⟩
    · rw [upd_n (by omega)]; exact e0
    · rw [upd_n (by omega)]; exact e1
    · rw [upd_n (by omega)]; exact e2
    · rw [upd_n (by omega)]; exact e3
    · rw [upd_n (by omega)]; exact e4
  · intro p hp hk
    obtain ⟨f, h1, h2, h3, h4⟩ := h.fat p hp hk
    exact ⟨f, h1, h2, h3, by rw [upd_n (by omega)]; exact h4⟩
  · intro p hp hk
    rw [upd_n (by omega)]; exact h.nfa p hp hk
  · intro j hj
    by_cases hjk : j = k
    · subst hjk; rw [upd_s, upd_s]
    · rw [upd_n (by omega), upd_n hjk]; exact h.deb j hj
  · intro a ha
    by_cases hjk : 7 * a + a = k
    · rw [hjk, upd_s]; exact hd ⟨a, hjk.symm⟩
    · rw [upd_n hjk]; exact h.dia a ha
theorem RT.pay (h : RT N people law counters kind father comes wants cost coins debts st q) {a b : Nat} (ha : a < N) (hb : b < N) : RT N people law counters kind father comes wants cost (payC coins debts a b) (upd debts (7 * a + b) 0) (payM st q a b) q := by
  have hN := h.N7
  have e : st (q + (42 + 7 * a + b)) = debts (7 * a + b) := by rw [← h.deb (7 * a + b) (by omega)]; congr 1; omega
  unfold payM
  rw [e, show q + (42 + 7 * a + b) = q + 42 + (7 * a + b) by omega, payC_give]
  exact (h.give ha hb _).setD (by omega) 0 (fun _ => rfl)
theorem payM_out {a b k : Nat} (ha : a < 7) (hb : b < 7) (hk : k < q ∨ q + 94 ≤ k) : payM st q a b k = st k := by
  unfold payM
  rw [upd_n (by omega), giveM_out (by omega) (by omega)]
theorem payM_many {a b : Nat} (ha : a < 7) (hb : b < 7) : payM st q a b (q + 93) = st (q + 93) := by
  unfold payM
  rw [upd_n (by omega), giveM_out (by omega) (by omega)]
theorem can_eq (h : RT N people law counters kind father comes wants cost coins debts st q) (hq : q ≤ 376) {a b : Nat} (ha : a < N) (hb : b < N) (pay : Int32) {α : Type} (X1 X0 : Option α) :
    (if pay = 0 then X0 else rdA st 470 (nI q + 6 * nI a) (fun v20 => if v20 = 1 then rdA st 470 (nI q + 6 * nI b) (fun v21 => if v21 = 3 then X0 else if debts (7 * a + b) ≤ 0 then X0 else rdA st 470 ((nI q + 6 * nI a) + 4) (fun v22 => if v22 < debts (7 * a + b) then X0 else X1)) else X0)) = if ¬ pay = 0 ∧ rpays kind coins debts a b then X1 else X0 := by
  have hN := h.N7
  obtain ⟨a0, -, -, -, a4⟩ := h.cel a ha
  obtain ⟨b0, -, -, -, -⟩ := h.cel b hb
  simp only [nL6, nL4, pk_mul, nI_add]
  rw [rdA_nI (by omega) (by omega), rdA_nI (by omega) (by omega), rdA_nI (by omega) (by omega), a0, a4, b0]
  by_cases h0 : pay = 0
  · simp [h0]
  · by_cases h1 : kind a = 1
    · by_cases h3 : kind b = 3
      · simp [h0, h3, rpays]
      · by_cases h4 : debts (7 * a + b) ≤ 0
        · rw [if_neg h0, if_pos h1, if_neg h3, if_pos h4, if_neg (fun hc => i32_nle.mpr hc.2.2.2.1 h4)]
        · by_cases h5 : coins a < debts (7 * a + b)
          · rw [if_neg h0, if_pos h1, if_neg h3, if_neg h4, if_pos h5, if_neg (fun hc => i32_nlt.mpr hc.2.2.2.2 h5)]
          · rw [if_neg h0, if_pos h1, if_neg h3, if_neg h4, if_neg h5, if_pos ⟨h0, h1, h3, i32_nle.mp h4, i32_nlt.mp h5⟩]
    · rw [if_neg h0, if_neg h1, if_neg (fun hc => h1 hc.2.1)]
/-- the loops of letIn and of comesTo, side by side -/
theorem letIn_sim (hq : q ≤ 376) {p : Nat} (hp : p < N) (pay P0 : Int32) (L : Nat) (hL : L < 7)
    (K : Int32 → Int32 → (Nat → Int32) → (Nat → Int32) → (Nat → Int32) → Option (Int32 × Int32 × (Nat → Int32) × (Nat → Int32) × (Nat → Int32)))
    (KM : Int32 → (Nat → Int32) → (Nat → Int32) → Option (Int32 × Int32 × (Nat → Int32) × (Nat → Int32))) :
    ∀ (i n1 n2 : Nat) (x4 : Int32) (ones coins debts st queue : Nat → Int32), i ≤ L → i < n1 → 2 * i < n2 → RT N people law counters kind father comes wants cost coins debts st q → (∀ k, k < i → ∃ j, j < N ∧ ones k = nI j) → (∀ k, k ≤ L → k ≠ i → queue k = ones k) → queue i = nI p →
    ∃ (i' : Nat) (x4' : Int32) (ones' coins' debts' st' queue' : Nat → Int32),
      Row_letIn_L30 law kind father (nI p) pay K K n1 x4 (nI i) ones coins debts = K x4' (nI i') ones' coins' debts' ∧
      Mod_comesTo_L24 (nI q) (nI p) pay KM n2 (nI i) (P0 + x4) st queue = KM (P0 + x4') st' queue' ∧
      i' ≤ i ∧ RT N people law counters kind father comes wants cost coins' debts' st' q ∧ (∀ k, k ≤ L → k ≠ i' → queue' k = ones' k) ∧ queue' i' = nI p ∧
      (∀ k, k < i' → ones' k = ones k) ∧ (∀ k, i' < k → k ≤ i → ones' k = ones (k - 1)) ∧ (∀ k, i < k → ones' k = ones k) ∧ (∀ k, (k < q ∨ q + 94 ≤ k) → st' k = st k) ∧ (pay = 0 → coins' = coins ∧ debts' = debts ∧ st' = st ∧ x4' = x4) := by
  intro i
  induction i with
  | zero =>
    intro n1 n2 x4 ones coins debts st queue hiL h1 h2 hR ho hqo hqp
    obtain ⟨n1, rfl⟩ : ∃ k, n1 = k + 1 := ⟨n1 - 1, by omega⟩
    obtain ⟨n2, rfl⟩ : ∃ k, n2 = k + 1 := ⟨n2 - 1, by omega⟩
    refine ⟨0, x4, ones, coins, debts, st, queue, ?_, ?_, Nat.le_refl 0, hR, hqo, hqp, fun _ _ => rfl, fun k h1 h2 => absurd h1 (by omega), fun _ _ => rfl, fun _ _ => rfl, fun _ => ⟨rfl, rfl, rfl, rfl⟩⟩
    · rw [Row_letIn_L30, if_pos (by decide)]
    · rw [Mod_comesTo_L24, if_pos (by decide)]
  | succ i ih =>
    intro n1 n2 x4 ones coins debts st queue hiL h1 h2 hR ho hqo hqp
    obtain ⟨n1, rfl⟩ : ∃ k, n1 = k + 1 := ⟨n1 - 1, by omega⟩
    obtain ⟨n2, rfl⟩ : ∃ k, n2 = k + 2 := ⟨n2 - 2, by omega⟩
    obtain ⟨a, ha, hoa⟩ := ho i (by omega)
    have hN := hR.N7
    have hqa : queue i = nI a := by rw [hqo i (by omega) (by omega), hoa]
    have hdb : st (q + (42 + 7 * a + p)) = debts (7 * a + p) := by rw [← hR.deb (7 * a + p) (by omega)]; congr 1; omega
    have hFok := hR.fok
    -- the steps
    have eL : Row_letIn_L30 law kind father (nI p) pay K K (n1 + 1) x4 (nI (i + 1)) ones coins debts = (if mustV law kind father debts a p = 0 then K x4 (nI (i + 1)) ones coins debts else if ¬ pay = 0 ∧ rpays kind coins debts a p then (if mustV law kind father (upd debts (7 * a + p) 0) a p = 0 then K (x4 + debts (7 * a + p)) (nI (i + 1)) ones (payC coins debts a p) (upd debts (7 * a + p) 0) else Row_letIn_L30 law kind father (nI p) pay K K n1 (x4 + debts (7 * a + p)) (nI i) (upd ones (i + 1) (nI a)) (payC coins debts a p) (upd debts (7 * a + p) 0)) else Row_letIn_L30 law kind father (nI p) pay K K n1 x4 (nI i) (upd ones (i + 1) (nI a)) coins debts) := by
      rw [Row_letIn_L30, if_neg (by rw [nI_le0 (by omega)]; omega), nI_m1 (by omega), rdA_nI (by omega) (by omega), Nat.add_sub_cancel, hoa, E_mustT hN hFok ha hp]
      simp only [Option.bind_some, jn, nmI]
      rw [nI_am1 (by omega), Nat.add_sub_cancel]
      by_cases hm : mustV law kind father debts a p = 0
      · simp only [hm, if_true]
      · rw [if_neg hm, if_neg hm]
        simp only [hm, if_false]
        by_cases hp0 : pay = 0
        · rw [if_pos hp0, if_neg (fun hc => hc.1 hp0), wrA_nI (by omega) (by omega)]
        · rw [if_neg hp0, E_rathT (by omega) (by omega)]
          simp only [Option.bind_some]
          by_cases hr : rpays kind coins debts a p
          · rw [if_pos hr, if_neg (by decide), E_payOff (by omega) (by omega), if_pos ⟨hp0, hr⟩]
            simp only [Option.bind_some]
            rw [E_mustT hN hFok ha hp]
            simp only [Option.bind_some]
            by_cases hm2 : mustV law kind father (upd debts (7 * a + p) 0) a p = 0
            · simp only [hm2, if_true]
            · simp only [hm2, if_false]
              rw [wrA_nI (by omega) (by omega)]
          · rw [if_neg hr, if_pos rfl, if_neg (fun hc => hr hc.2), wrA_nI (by omega) (by omega)]
    have eM : ∀ (n : Nat) (P : Int32) (st debts coins : Nat → Int32), RT N people law counters kind father comes wants cost coins debts st q → Mod_comesTo_L24 (nI q) (nI p) pay KM (n + 1) (nI (i + 1)) P st queue = (if mustV law kind father debts a p = 0 then KM P st queue else if ¬ pay = 0 ∧ rpays kind coins debts a p then Mod_comesTo_L24 (nI q) (nI p) pay KM n (nI (i + 1)) (P + debts (7 * a + p)) (payM st q a p) queue else Mod_comesTo_L24 (nI q) (nI p) pay KM n (nI i) P st (upd (upd queue (i + 1) (nI a)) i (nI p))) := by
      intro n P st debts coins hR
      have hdb : st (q + (42 + 7 * a + p)) = debts (7 * a + p) := by rw [← hR.deb (7 * a + p) (by omega)]; congr 1; omega
      rw [Mod_comesTo_L24, if_neg (by rw [nI_le0 (by omega)]; omega), nI_m1 (by omega), rdA_nI (by omega) (by omega), Nat.add_sub_cancel, hqa, E_mustM hR hq ha hp]
      simp only [Option.bind_some]
      by_cases hm : mustV law kind father debts a p = 0
      · rw [if_pos hm, if_pos hm]
      · rw [if_neg hm, if_neg hm, rdA_nI (by omega) (by omega), hqa]
        unfold Mod_debtAt
        simp only [Option.bind_some, ix_debt, nI_add, jn, nmI]
        rw [rdA_nI (by omega) (by omega), hdb, can_eq hR hq ha hp, if_pos trivial, if_neg (show ¬ (1 : Int32) = 0 by decide), E_paysAll (by omega) (by omega) hq, nI_am1 (by omega), Nat.add_sub_cancel, wrA_nI (by omega) (by omega), wrA_nI (by omega) (by omega)]
        simp only [Option.bind_some]
    rw [eL, eM (n2 + 1) _ st debts coins hR]
    by_cases hm : mustV law kind father debts a p = 0
    · rw [if_pos hm, if_pos hm]
      exact ⟨i + 1, x4, ones, coins, debts, st, queue, rfl, rfl, Nat.le_refl _, hR, hqo, hqp, fun _ _ => rfl, fun k h1 h2 => absurd h1 (by omega), fun _ _ => rfl, fun _ _ => rfl, fun _ => ⟨rfl, rfl, rfl, rfl⟩⟩
    · rw [if_neg hm, if_neg hm]
      have hsh : ∀ k, k ≤ L → k ≠ i → upd (upd queue (i + 1) (nI a)) i (nI p) k = upd ones (i + 1) (nI a) k := by
        intro k hk hki
        rw [upd_n hki]
        by_cases hk1 : k = i + 1
        · subst hk1; rw [upd_s, upd_s]
        · rw [upd_n hk1, upd_n hk1, hqo k hk hk1]
      have hon : ∀ k, k < i → ∃ j, j < N ∧ upd ones (i + 1) (nI a) k = nI j := fun k hk => by
        rw [upd_n (by omega)]; exact ho k (by omega)
      have hmv : ∀ (ones' : Nat → Int32) (i' : Nat), i' ≤ i → (∀ k, k < i' → ones' k = upd ones (i + 1) (nI a) k) → (∀ k, i' < k → k ≤ i → ones' k = upd ones (i + 1) (nI a) (k - 1)) → (∀ k, i < k → ones' k = upd ones (i + 1) (nI a) k) → (∀ k, k < i' → ones' k = ones k) ∧ (∀ k, i' < k → k ≤ i + 1 → ones' k = ones (k - 1)) ∧ (∀ k, i + 1 < k → ones' k = ones k) := by
        intro ones' i' hi' q1 q2 q3
        refine ⟨fun k hk => by rw [q1 k hk, upd_n (by omega)], fun k hk1 hk2 => ?_, fun k hk => by rw [q3 k (by omega), upd_n (by omega)]⟩
        by_cases hk3 : k = i + 1
        · subst hk3; rw [q3 _ (by omega), upd_s, Nat.add_sub_cancel, hoa]
        · rw [q2 k hk1 (by omega), upd_n (by omega)]
      by_cases hpy : ¬ pay = 0 ∧ rpays kind coins debts a p
      · rw [if_pos hpy, if_pos hpy]
        have hR2 := hR.pay ha hp
        rw [eM n2 _ _ _ _ hR2, Int32.add_assoc]
        by_cases hm2 : mustV law kind father (upd debts (7 * a + p) 0) a p = 0
        · rw [if_pos hm2, if_pos hm2]
          exact ⟨i + 1, _, ones, _, _, _, queue, rfl, rfl, Nat.le_refl _, hR2, hqo, hqp, fun _ _ => rfl, fun k h1 h2 => absurd h1 (by omega), fun _ _ => rfl, fun k hk => payM_out (by omega) (by omega) hk, fun h => absurd h hpy.1⟩
        · rw [if_neg hm2, if_neg hm2, if_neg (fun hc => absurd hc.2.2.2.1 (by rw [upd_s]; decide))]
          obtain ⟨i', x4', ones', coins', debts', st', queue', r1, r2, r3, r4, r5, r6, r7a, r7b, r7c, r8, r9⟩ := ih n1 n2 (x4 + debts (7 * a + p)) (upd ones (i + 1) (nI a)) (payC coins debts a p) (upd debts (7 * a + p) 0) (payM st q a p) (upd (upd queue (i + 1) (nI a)) i (nI p)) (by omega) (by omega) (by omega) hR2 hon hsh upd_s
          obtain ⟨u1, u2, u3⟩ := hmv ones' i' r3 r7a r7b r7c
          exact ⟨i', x4', ones', coins', debts', st', queue', r1, r2, by omega, r4, r5, r6, u1, u2, u3, fun k hk => by rw [r8 k hk, payM_out (by omega) (by omega) hk], fun h => absurd h hpy.1⟩
      · rw [if_neg hpy, if_neg hpy]
        obtain ⟨i', x4', ones', coins', debts', st', queue', r1, r2, r3, r4, r5, r6, r7a, r7b, r7c, r8, r9⟩ := ih n1 (n2 + 1) x4 (upd ones (i + 1) (nI a)) coins debts st (upd (upd queue (i + 1) (nI a)) i (nI p)) (by omega) (by omega) (by omega) hR hon hsh upd_s
        obtain ⟨u1, u2, u3⟩ := hmv ones' i' r3 r7a r7b r7c
        exact ⟨i', x4', ones', coins', debts', st', queue', r1, r2, by omega, r4, r5, r6, u1, u2, u3, r8, r9⟩
end LTI
