/-! ORDERS: the ways on and their least cost, from each set -/
def tkS (wn : Nat → Nat) (s : Nat) : Nat → Nat
  | 0 => 0
  | p + 1 => tkS wn s p + (if s.testBit p = true then wn p else 0)
def fWC (A cs : Nat → Nat) (tk s : Nat) (g : Nat → Nat × Nat) : Nat → Nat × Nat
  | 0 => (0, 1000000)
  | p + 1 => if cfB A p s = true then ((fWC A cs tk s g p).1 + (g (s ||| 2 ^ p)).1, if (fWC A cs tk s g p).2 ≤ cs p * tk + (g (s ||| 2 ^ p)).2 then (fWC A cs tk s g p).2 else cs p * tk + (g (s ||| 2 ^ p)).2) else fWC A cs tk s g p
def wc (N : Nat) (A cs wn : Nat → Nat) : Nat → Nat → Nat × Nat
  | 0, _ => (1, 0)
  | k + 1, s => if s = 2 ^ N - 1 then (1, 0) else fWC A cs (tkS wn s N) s (wc N A cs wn k) N
abbrev GW (N : Nat) (A cs wn : Nat → Nat) (s : Nat) : Nat × Nat := wc N A cs wn (2 ^ N) s
theorem or_gt : ∀ s, s < 128 → ∀ p, p < 7 → s.testBit p = false → s < s ||| 2 ^ p := by decide +kernel
theorem or_lt {N s p : Nat} (hs : s < 2 ^ N) (hp : p < N) : s ||| 2 ^ p < 2 ^ N := Nat.or_lt_two_pow hs (Nat.pow_lt_pow_right (by omega) hp)
theorem cf_bit {A : Nat → Nat} {p s : Nat} (h : cfB A p s = true) : s.testBit p = false := by
  unfold cfB at h
  cases hh : s.testBit p <;> simp_all
theorem cf_gt {A : Nat → Nat} {p s : Nat} (hs : s < 128) (hp : p < 7) (h : cfB A p s = true) : s < s ||| 2 ^ p := or_gt s hs p hp (cf_bit h)
theorem fWC_eq {A cs : Nat → Nat} {tk s : Nat} {g g' : Nat → Nat × Nat} : ∀ n, (∀ p, p < n → cfB A p s = true → g (s ||| 2 ^ p) = g' (s ||| 2 ^ p)) → fWC A cs tk s g n = fWC A cs tk s g' n := by
  intro n
  induction n with
  | zero => intro _; rfl
  | succ n ih =>
    intro h
    unfold fWC
    rw [ih (fun p hp => h p (by omega))]
    by_cases hc : cfB A n s = true
    · rw [if_pos hc, if_pos hc, h n (by omega) hc]
    · rw [if_neg hc, if_neg hc]
theorem wc_fuel {N : Nat} (hN : N ≤ 7) {A cs wn : Nat → Nat} : ∀ k k' s, s < 2 ^ N → 2 ^ N - 1 - s ≤ k → 2 ^ N - 1 - s ≤ k' → wc N A cs wn k s = wc N A cs wn k' s := by
  have h128 := p128 hN
  intro k
  induction k with
  | zero =>
    intro k' s hs h1 h2
    have e : s = 2 ^ N - 1 := by omega
    cases k' with
    | zero => rfl
    | succ k' => rw [wc, wc, if_pos e]
  | succ k ih =>
    intro k' s hs h1 h2
    by_cases e : s = 2 ^ N - 1
    · cases k' with
      | zero => rw [wc, wc, if_pos e]
      | succ k' => rw [wc, wc, if_pos e, if_pos e]
    · cases k' with
      | zero => omega
      | succ k' =>
        rw [wc, wc, if_neg e, if_neg e]
        refine fWC_eq N (fun p hp hc => ?_)
        have := cf_gt (by omega) (by omega) hc
        exact ih k' _ (or_lt hs hp) (by omega) (by omega)
section WAYS
variable {N : Nat} {A cs wn : Nat → Nat}
theorem GW_full : GW N A cs wn (2 ^ N - 1) = (1, 0) := by
  have : 0 < 2 ^ N := Nat.two_pow_pos N
  obtain ⟨k, hk⟩ : ∃ k, 2 ^ N = k + 1 := ⟨2 ^ N - 1, by omega⟩
  unfold GW
  rw [show wc N A cs wn (2 ^ N) = wc N A cs wn (k + 1) by rw [hk], wc, if_pos rfl]
theorem GW_step (hN : N ≤ 7) {s : Nat} (hs : s < 2 ^ N) (hne : s ≠ 2 ^ N - 1) : GW N A cs wn s = fWC A cs (tkS wn s N) s (GW N A cs wn) N := by
  have h128 := p128 hN
  obtain ⟨k, hk⟩ : ∃ k, 2 ^ N = k + 1 := ⟨2 ^ N - 1, by omega⟩
  have h1 : GW N A cs wn s = wc N A cs wn (k + 1) s := by unfold GW; rw [hk]
  rw [h1, wc, if_neg hne]
  refine fWC_eq N (fun p hp hc => ?_)
  have := cf_gt (by omega) (by omega) hc
  exact wc_fuel hN _ _ _ (or_lt hs hp) (by omega) (by omega)
theorem fWC_le {tk s : Nat} {g : Nat → Nat × Nat} : ∀ n, (fWC A cs tk s g n).2 ≤ 1000000 := by
  intro n
  induction n with
  | zero => exact Nat.le_refl _
  | succ n ih =>
    unfold fWC
    by_cases hc : cfB A n s = true
    · rw [if_pos hc]
      show (if (fWC A cs tk s g n).2 ≤ cs n * tk + (g (s ||| 2 ^ n)).2 then (fWC A cs tk s g n).2 else cs n * tk + (g (s ||| 2 ^ n)).2) ≤ 1000000
      by_cases h : (fWC A cs tk s g n).2 ≤ cs n * tk + (g (s ||| 2 ^ n)).2
      · rw [if_pos h]; exact ih
      · rw [if_neg h]; omega
    · rw [if_neg hc]; exact ih
theorem GW_le (hN : N ≤ 7) {s : Nat} (hs : s < 2 ^ N) : (GW N A cs wn s).2 ≤ 1000000 := by
  by_cases e : s = 2 ^ N - 1
  · rw [e, GW_full]; exact Nat.zero_le _
  · rw [GW_step hN hs e]; exact fWC_le N
theorem tkS_le (s : Nat) : ∀ n, (∀ p, p < n → wn p ≤ 9) → tkS wn s n ≤ 9 * n := by
  intro n
  induction n with
  | zero => intro _; exact Nat.le_refl _
  | succ n ih =>
    intro h
    unfold tkS
    have := ih (fun p hp => h p (by omega))
    have := h n (by omega)
    by_cases hb : s.testBit n = true
    · rw [if_pos hb]; omega
    · rw [if_neg hb]; omega
variable {people law counters : Int32} {kind father comes wants cost coins debts st : Nat → Int32}
theorem takM_L (hR : RT N people law counters kind father comes wants cost coins debts st 0) (hwn : ∀ p, p < N → wants p = nI (wn p)) (s : Nat) : ∀ (d p n : Nat), p + d = N → d < n → Mod_takenBy_L4 st (nI s) (fun x => some x) n (nI (tkS wn s p)) (nI p) = some (nI (tkS wn s N)) := by
  have hN := hR.N7
  have hm : st 93 = nI N := hR.many
  intro d
  induction d with
  | zero =>
    intro b n hb hn
    obtain ⟨n, rfl⟩ : ∃ k, n = k + 1 := ⟨n - 1, by omega⟩
    obtain rfl : b = N := by omega
    rw [Mod_takenBy_L4, E_manyM hm]
    simp only [bindS]
    rw [if_pos (nI_le (by omega) (by omega))]
  | succ d ih =>
    intro b n hb hn
    obtain ⟨n, rfl⟩ : ∃ k, n = k + 1 := ⟨n - 1, by omega⟩
    rw [Mod_takenBy_L4, E_manyM hm]
    simp only [bindS]
    rw [if_neg (nI_ge (by omega) (by omega))]
    have e2 := (hR.cel b (by omega)).2.2.1
    rw [Nat.zero_add, hwn b (by omega)] at e2
    simp only [jn]
    rw [show 6 * nI b + 2 = nI (6 * b + 2) by rw [nL6, nL2, pk_mul, nI_add], rdA_nI (f := st) (by omega) (by omega), e2]
    simp only [nmI, nI_a1, nI_add, nI_add0]
    have hih := ih (b + 1) n (by omega) (by omega)
    rw [show tkS wn s (b + 1) = tkS wn s b + (if s.testBit b = true then wn b else 0) from rfl] at hih
    by_cases h : s.testBit b = true
    · rw [if_pos ((b_tst1 (by omega)).mpr (by rw [bt_nI (by omega)]; exact h))]
      rw [if_pos h] at hih
      exact hih
    · rw [if_neg (fun hh => h (by rw [b_tst1 (by omega), bt_nI (by omega)] at hh; exact hh))]
      rw [if_neg h, Nat.add_zero] at hih
      exact hih
theorem E_takM (hR : RT N people law counters kind father comes wants cost coins debts st 0) (hwn : ∀ p, p < N → wants p = nI (wn p)) (s : Nat) : Mod_takenBy (nI s) st = some (nI (tkS wn s N)) := by
  have hN := hR.N7
  exact takM_L hR hwn s N 0 FU (by omega) (by unfold FU; omega)
theorem minT_L (hN : N ≤ 7) (hwn : ∀ p, p < N → wants p = nI (wn p)) (s : Nat) : ∀ (d p n : Nat), p + d = N → d < n → Ord_minutesOf_L5 (nI N) wants (nI s) (fun x => some x) n (nI (tkS wn s p)) (nI p) = some (nI (tkS wn s N)) := by
  intro d
  induction d with
  | zero =>
    intro b n hb hn
    obtain ⟨n, rfl⟩ : ∃ k, n = k + 1 := ⟨n - 1, by omega⟩
    obtain rfl : b = N := by omega
    rw [Ord_minutesOf_L5, if_pos (nI_le (by omega) (by omega))]
  | succ d ih =>
    intro b n hb hn
    obtain ⟨n, rfl⟩ : ∃ k, n = k + 1 := ⟨n - 1, by omega⟩
    rw [Ord_minutesOf_L5, if_neg (nI_ge (by omega) (by omega))]
    simp only [jn]
    rw [rdA_nI (f := wants) (by omega) (by omega), hwn b (by omega)]
    simp only [nmI, nI_a1, nI_add, nI_add0]
    have hih := ih (b + 1) n (by omega) (by omega)
    rw [show tkS wn s (b + 1) = tkS wn s b + (if s.testBit b = true then wn b else 0) from rfl] at hih
    by_cases h : s.testBit b = true
    · rw [if_neg (fun hh => by rw [b_tst0 (by omega), bt_nI (by omega), h] at hh; cases hh)]
      rw [if_pos h] at hih
      exact hih
    · have h0 : s.testBit b = false := by cases hh : s.testBit b <;> simp_all
      rw [if_pos ((b_tst0 (by omega)).mpr (by rw [bt_nI (by omega)]; exact h0))]
      rw [if_neg h, Nat.add_zero] at hih
      exact hih
theorem E_minT (hN : N ≤ 7) (hwn : ∀ p, p < N → wants p = nI (wn p)) (s : Nat) : Ord_minutesOf (nI s) (nI N) wants = some (nI (tkS wn s N)) := minT_L hN hwn s N 0 FU (by omega) (by unfold FU; omega)
theorem ix_cost (p : Nat) : 6 * nI p + 3 = nI (6 * p + 3) := by rw [nL6, nL3, pk_mul, nI_add]
theorem layIn (hR : RT N people law counters kind father comes wants cost coins debts st 0) (hwn : ∀ p, p < N → wants p = nI (wn p)) (hw9 : ∀ p, p < N → wn p ≤ 9) (hcs : ∀ p, p < N → cost p = nI (cs p)) (hc9 : ∀ p, p < N → cs p ≤ 9) {ah : Nat → Int32} (hA : ∀ j, j < N → ah j = nI (A j)) (hAl : ∀ j, j < N → A j < 128) (K : (Nat → Int32) → (Nat → Int32) → Option ((Nat → Int32) × (Nat → Int32) × (Nat → Int32))) {s : Nat} (hs : s < 2 ^ N) :
    ∀ (d p n : Nat) (wa ca : Nat → Int32), p + d = N → d < n → (∀ t, s < t → t < 2 ^ N → wa t = nI (GW N A cs wn t).1 ∧ ca t = nI (GW N A cs wn t).2) → wa s = nI (fWC A cs (tkS wn s N) s (GW N A cs wn) p).1 → ca s = nI (fWC A cs (tkS wn s N) s (GW N A cs wn) p).2 →
    ∃ wa' ca', Mod_layOrders_L77 st ah (nI s) K n (nI p) wa ca = K wa' ca' ∧ wa' s = nI (fWC A cs (tkS wn s N) s (GW N A cs wn) N).1 ∧ ca' s = nI (fWC A cs (tkS wn s N) s (GW N A cs wn) N).2 ∧ (∀ t, t ≠ s → wa' t = wa t ∧ ca' t = ca t) := by
  have hN := hR.N7
  have hm : st 93 = nI N := hR.many
  have h128 := p128 hN
  intro d
  induction d with
  | zero =>
    intro p n wa ca hp hn hT hw hc
    obtain ⟨n, rfl⟩ : ∃ k, n = k + 1 := ⟨n - 1, by omega⟩
    obtain rfl : p = N := by omega
    refine ⟨wa, ca, ?_, hw, hc, fun _ _ => ⟨rfl, rfl⟩⟩
    rw [Mod_layOrders_L77, E_manyM hm]
    simp only [bindS]
    rw [if_pos (nI_le (by omega) (by omega))]
  | succ d ih =>
    intro p n wa ca hp hn hT hw hc
    obtain ⟨n, rfl⟩ : ∃ k, n = k + 1 := ⟨n - 1, by omega⟩
    have hpN : p < N := by omega
    rw [Mod_layOrders_L77, E_manyM hm]
    simp only [bindS]
    rw [if_neg (nI_ge (by omega) (by omega)), E_canM (A := A) (by omega) (hAl p hpN) (by omega) (hA p hpN)]
    simp only [bindS]
    have hnext : ∀ x, fWC A cs (tkS wn s N) s (GW N A cs wn) (p + 1) = x → fWC A cs (tkS wn s N) s (GW N A cs wn) (p + 1) = x := fun _ h => h
    by_cases hcf : cfB A p s = true
    · simp only [hcf, if_true, i10, if_false]
      have hgt := cf_gt (by omega) (by omega) hcf
      have hlt := or_lt hs hpN
      obtain ⟨t1, t2⟩ := hT _ hgt hlt
      have e3 := (hR.cel p hpN).2.2.2.1
      rw [Nat.zero_add, hcs p hpN] at e3
      rw [ix_cost, rdA_nI (f := st) (by omega) (by omega), e3, E_takM hR hwn]
      simp only [bindS, nmI]
      rw [one_sh p (by omega), nx_or, rdA_nI (f := ca) (j := s ||| 2 ^ p) (by omega) (by omega), t2, pk_mul, nI_add, rdA_nI (f := wa) (j := s) (by omega) (by omega), hw, rdA_nI (f := wa) (j := s ||| 2 ^ p) (by omega) (by omega), t1, nI_add, wrA_nI (f := wa) (by omega) (by omega), rdA_nI (f := ca) (j := s) (by omega) (by omega), hc, nI_a1]
      have b1 : (fWC A cs (tkS wn s N) s (GW N A cs wn) p).2 ≤ 1000000 := fWC_le p
      have b2 : (GW N A cs wn (s ||| 2 ^ p)).2 ≤ 1000000 := GW_le hN hlt
      have b3 := tkS_le (wn := wn) s N hw9
      have b4 : cs p * tkS wn s N ≤ 9 * (9 * N) := Nat.mul_le_mul (hc9 p hpN) b3
      have hf : fWC A cs (tkS wn s N) s (GW N A cs wn) (p + 1) = ((fWC A cs (tkS wn s N) s (GW N A cs wn) p).1 + (GW N A cs wn (s ||| 2 ^ p)).1, if (fWC A cs (tkS wn s N) s (GW N A cs wn) p).2 ≤ cs p * tkS wn s N + (GW N A cs wn (s ||| 2 ^ p)).2 then (fWC A cs (tkS wn s N) s (GW N A cs wn) p).2 else cs p * tkS wn s N + (GW N A cs wn (s ||| 2 ^ p)).2) := by rw [fWC, if_pos hcf]
      have hT' : ∀ (x y : Int32) t, s < t → t < 2 ^ N → upd wa s x t = nI (GW N A cs wn t).1 ∧ upd ca s y t = nI (GW N A cs wn t).2 := fun x y t h1 h2 => by
        rw [upd_n (by omega), upd_n (by omega)]
        exact hT t h1 h2
      by_cases hle : (fWC A cs (tkS wn s N) s (GW N A cs wn) p).2 ≤ cs p * tkS wn s N + (GW N A cs wn (s ||| 2 ^ p)).2
      · rw [if_pos (nI_le hle (by omega)), rdA_nI (f := ca) (j := s) (by omega) (by omega), hc, wrA_nI (f := ca) (by omega) (by omega)]
        rw [if_pos hle] at hf
        obtain ⟨wa', ca', q1, q2, q3, q4⟩ := ih (p + 1) n _ _ (by omega) (by omega) (hT' _ _) (by rw [upd_s, hf]) (by rw [upd_s, hf])
        exact ⟨wa', ca', q1, q2, q3, fun t ht => by rw [(q4 t ht).1, (q4 t ht).2, upd_n ht, upd_n ht]; exact ⟨rfl, rfl⟩⟩
      · rw [if_neg (nI_ge (by omega) (by omega)), wrA_nI (f := ca) (by omega) (by omega)]
        rw [if_neg hle] at hf
        obtain ⟨wa', ca', q1, q2, q3, q4⟩ := ih (p + 1) n _ _ (by omega) (by omega) (hT' _ _) (by rw [upd_s, hf]) (by rw [upd_s, hf])
        exact ⟨wa', ca', q1, q2, q3, fun t ht => by rw [(q4 t ht).1, (q4 t ht).2, upd_n ht, upd_n ht]; exact ⟨rfl, rfl⟩⟩
    · simp only [hcf, if_false, i00, if_true, nmI, nI_a1]
      have hf : fWC A cs (tkS wn s N) s (GW N A cs wn) (p + 1) = fWC A cs (tkS wn s N) s (GW N A cs wn) p := by rw [fWC, if_neg hcf]
      exact ih (p + 1) n wa ca (by omega) (by omega) hT (by rw [hf]; exact hw) (by rw [hf]; exact hc)
theorem full_bit : ∀ N, N ≤ 7 → ∀ p, p < N → (2 ^ N - 1).testBit p = true := by decide +kernel
theorem layIn' (hR : RT N people law counters kind father comes wants cost coins debts st 0) {ah : Nat → Int32} (hA : ∀ j, j < N → ah j = nI (A j)) (hAl : ∀ j, j < N → A j < 128) (K : (Nat → Int32) → (Nat → Int32) → Option ((Nat → Int32) × (Nat → Int32) × (Nat → Int32))) (wa ca : Nat → Int32) :
    ∀ (d p n : Nat), p + d = N → d < n → Mod_layOrders_L77' st ah (nI (2 ^ N - 1)) K n (nI p) wa ca = K wa ca := by
  have hN := hR.N7
  have hm : st 93 = nI N := hR.many
  have h128 := p128 hN
  intro d
  induction d with
  | zero =>
    intro p n hp hn
    obtain ⟨n, rfl⟩ : ∃ k, n = k + 1 := ⟨n - 1, by omega⟩
    obtain rfl : p = N := by omega
    rw [Mod_layOrders_L77', E_manyM hm]
    simp only [bindS]
    rw [if_pos (nI_le (by omega) (by omega))]
  | succ d ih =>
    intro p n hp hn
    obtain ⟨n, rfl⟩ : ∃ k, n = k + 1 := ⟨n - 1, by omega⟩
    have hpN : p < N := by omega
    rw [Mod_layOrders_L77', E_manyM hm]
    simp only [bindS]
    rw [if_neg (nI_ge (by omega) (by omega)), E_canM (A := A) (by omega) (hAl p hpN) (by omega) (hA p hpN)]
    have hcf : ¬ cfB A p (2 ^ N - 1) = true := fun h => by
      have := cf_bit h
      rw [full_bit N hN p hpN] at this
      cases this
    simp only [bindS, hcf, if_false, i00, if_true, nmI, nI_a1]
    exact ih (p + 1) n (by omega) (by omega)
theorem layIn'0 (hR : RT N people law counters kind father comes wants cost coins debts st 0) {ah : Nat → Int32} (hA : ∀ j, j < N → ah j = nI (A j)) (hAl : ∀ j, j < N → A j < 128) {K : (Nat → Int32) → (Nat → Int32) → Option ((Nat → Int32) × (Nat → Int32) × (Nat → Int32))} {wa ca : Nat → Int32} : Mod_layOrders_L77' st ah (nI (2 ^ N - 1)) K FU 0 wa ca = K wa ca := by
  have hN := hR.N7
  exact layIn' hR hA hAl K wa ca N 0 FU (by omega) (by unfold FU; omega)
def dn : Nat → Int32
  | 0 => -1
  | d + 1 => nI d
theorem dn_m1 (d : Nat) : nI d + (-1) = dn d := by
  cases d with
  | zero => rfl
  | succ d => rw [nI_am1 (by omega)]; rfl
theorem layOut (hR : RT N people law counters kind father comes wants cost coins debts st 0) (hwn : ∀ p, p < N → wants p = nI (wn p)) (hw9 : ∀ p, p < N → wn p ≤ 9) (hcs : ∀ p, p < N → cost p = nI (cs p)) (hc9 : ∀ p, p < N → cs p ≤ 9) {ah : Nat → Int32} (hA : ∀ j, j < N → ah j = nI (A j)) (hAl : ∀ j, j < N → A j < 128) (K : (Nat → Int32) → (Nat → Int32) → Option ((Nat → Int32) × (Nat → Int32) × (Nat → Int32))) :
    ∀ (d n : Nat) (wa ca : Nat → Int32), d ≤ 2 ^ N → d < n → (∀ t, d ≤ t → t < 2 ^ N → wa t = nI (GW N A cs wn t).1 ∧ ca t = nI (GW N A cs wn t).2) →
    ∃ wa' ca', Mod_layOrders_L38 st (nI (2 ^ N - 1)) ah K n (dn d) wa ca = K wa' ca' ∧ (∀ t, t < 2 ^ N → wa' t = nI (GW N A cs wn t).1 ∧ ca' t = nI (GW N A cs wn t).2) := by
  have hN := hR.N7
  have h128 := p128 hN
  intro d
  induction d with
  | zero =>
    intro n wa ca hd hn hT
    obtain ⟨n, rfl⟩ : ∃ k, n = k + 1 := ⟨n - 1, by omega⟩
    refine ⟨wa, ca, ?_, fun t ht => hT t (by omega) ht⟩
    rw [Mod_layOrders_L38, if_pos (by decide)]
  | succ s ih =>
    intro n wa ca hd hn hT
    obtain ⟨n, rfl⟩ : ∃ k, n = k + 1 := ⟨n - 1, by omega⟩
    rw [show dn (s + 1) = nI s from rfl, Mod_layOrders_L38, if_neg (nI_pos (by omega))]
    simp only [jn]
    by_cases e : s = 2 ^ N - 1
    · have e' : nI s = nI (2 ^ N - 1) := by rw [e]
      simp only [e', if_true]
      rw [wrA_nI (by omega) (by omega), wrA_nI (by omega) (by omega), layIn'0 hR hA hAl]
      simp only [nmI]
      rw [dn_m1, show dn (2 ^ N - 1) = dn s by rw [e]]
      refine ih n _ _ (by omega) (by omega) (fun t h1 h2 => ?_)
      have : t = 2 ^ N - 1 := by omega
      rw [this, upd_s, upd_s, GW_full]
      exact ⟨rfl, rfl⟩
    · have e' : ¬ nI s = nI (2 ^ N - 1) := fun hh => e ((nI_eq (by omega) (by omega)).mp hh)
      simp only [e', if_false]
      rw [wrA_nI (by omega) (by omega), wrA_nI (by omega) (by omega)]
      obtain ⟨wa', ca', q1, q2, q3, q4⟩ := layIn (A := A) hR hwn hw9 hcs hc9 hA hAl (fun w c => nmI (nI s + (-1)) (fun x2 => Mod_layOrders_L38 st (nI (2 ^ N - 1)) ah K n x2 w c)) (show s < 2 ^ N by omega) N 0 FU (upd wa s 0) (upd ca s 1000000) (by omega) (by unfold FU; omega) (fun t h1 h2 => by rw [upd_n (by omega), upd_n (by omega)]; exact hT t (by omega) h2) (by rw [upd_s]; rfl) (by rw [upd_s]; rfl)
      rw [← GW_step hN (by omega) e] at q2 q3
      obtain ⟨w2, c2, g1, g2⟩ := ih n wa' ca' (by omega) (by omega) (fun t h1 h2 => by
        by_cases e2 : t = s
        · rw [e2]; exact ⟨q2, q3⟩
        · rw [(q4 t e2).1, (q4 t e2).2, upd_n e2, upd_n e2]
          exact hT t (by omega) h2)
      refine ⟨w2, c2, Eq.trans q1 ?_, g2⟩
      simp only [nmI]
      rw [dn_m1]
      exact g1
theorem E_lay (hR : RT N people law counters kind father comes wants cost coins debts st 0) (hwn : ∀ p, p < N → wants p = nI (wn p)) (hw9 : ∀ p, p < N → wn p ≤ 9) (hcs : ∀ p, p < N → cost p = nI (cs p)) (hc9 : ∀ p, p < N → cs p ≤ 9) (wa ca ah : Nat → Int32) :
    ∃ wa' ca' ah', Mod_layOrders st wa ca ah = some (wa', ca', ah') ∧ (∀ t, t < 2 ^ N → wa' t = nI (GW N (fun j => aS (mustV law kind father debts) j N) cs wn t).1 ∧ ca' t = nI (GW N (fun j => aS (mustV law kind father debts) j N) cs wn t).2) ∧ (∀ j, j < N → ah' j = nI (aS (mustV law kind father debts) j N)) := by
  have hN := hR.N7
  have h128 := p128 hN
  have hpos : 0 < 2 ^ N := Nat.two_pow_pos N
  have hm : st 93 = nI N := hR.many
  unfold Mod_layOrders
  rw [E_manyM hm]
  simp only [bindS, nmI]
  rw [one_sh N (by omega), nI_m1 hpos]
  obtain ⟨ah', e1, e2⟩ := layA hR (fun t => Mod_layOrders_L38 st (nI (2 ^ N - 1)) t (fun w c => some (w, c, t)) FU (nI (2 ^ N - 1)) wa ca) N 0 FU ah (by omega) (by unfold FU; omega) (fun j hj => by omega)
  obtain ⟨wa', ca', g1, g2⟩ := layOut (A := fun j => aS (mustV law kind father debts) j N) hR hwn hw9 hcs hc9 e2 (fun j hj => by have := aS_lt (mustV law kind father debts) j N; omega) (fun w c => some (w, c, ah')) (2 ^ N) FU wa ca (Nat.le_refl _) (by unfold FU; omega) (fun t h1 h2 => by omega)
  refine ⟨wa', ca', ah', Eq.trans e1 (Eq.trans ?_ g1), g2, e2⟩
  rw [show dn (2 ^ N) = nI (2 ^ N - 1) by obtain ⟨k, hk⟩ : ∃ k, 2 ^ N = k + 1 := ⟨2 ^ N - 1, by omega⟩; rw [hk]; rfl]
end WAYS
