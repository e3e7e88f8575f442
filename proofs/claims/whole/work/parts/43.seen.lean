/-! what is SEEN: see, forget, told, judge; stands -/
def RSe (N : Nat) (sl : Int32) (ones : Nat → Int32) (sm : Int32) (seen : Nat → Int32) : Prop := ∃ n, n ≤ N ∧ sl = nI n ∧ sm = nI n ∧ (∀ i, i < n → seen i = ones i) ∧ (∀ i, i < n → ∃ j, j < N ∧ ones i = nI j) ∧ (∀ i j, i < n → j < n → ones i = ones j → i = j)
def orB (f : Nat → Int32) : Nat → Int32
  | 0 => 0
  | n + 1 => orB f n ||| ((1 : Int32) <<< (f n &&& 31))
theorem orB_bt {N : Nat} (hN : N ≤ 7) {f : Nat → Int32} : ∀ n, (∀ i, i < n → ∃ j, j < N ∧ f i = nI j) → ∀ j, j < N → (bt (orB f n) j = true ↔ ∃ i, i < n ∧ f i = nI j) := by
  intro n
  induction n with
  | zero => intro _ j _; unfold orB; rw [b_0]; simp
  | succ n ih =>
    intro h j hj
    obtain ⟨p, hp, he⟩ := h n (by omega)
    unfold orB
    rw [he, b_set (by omega) (by omega)]
    have := ih (fun i hi => h i (by omega)) j hj
    constructor
    · intro hh
      by_cases e : j = p
      · subst e; exact ⟨n, by omega, he⟩
      · simp [e] at hh
        obtain ⟨i, h1, h2⟩ := this.mp hh
        exact ⟨i, by omega, h2⟩
    · rintro ⟨i, h1, h2⟩
      by_cases e : i = n
      · subst e
        rw [he] at h2
        have : p = j := (nI_eq (by omega) (by omega)).mp h2
        simp [this]
      · simp [this.mpr ⟨i, by omega, h2⟩]
theorem orB_cnt {N : Nat} (hN : N ≤ 7) {f : Nat → Int32} : ∀ n, (∀ i, i < n → ∃ j, j < N ∧ f i = nI j) → (∀ i j, i < n → j < n → f i = f j → i = j) → cntB (orB f n) N = n := by
  intro n
  induction n with
  | zero =>
    intro _ _
    have : ∀ m, cntB (orB f 0) m = 0 := by
      intro m
      induction m with
      | zero => rfl
      | succ m ih => unfold cntB; rw [ih]; unfold orB; rw [b_0]; simp
    exact this N
  | succ n ih =>
    intro h hd
    obtain ⟨p, hp, he⟩ := h n (by omega)
    have i1 := ih (fun i hi => h i (by omega)) (fun i j hi hj => hd i j (by omega) (by omega))
    have hno : bt (orB f n) p = false := by
      cases hb : bt (orB f n) p
      · rfl
      · obtain ⟨i, h1, h2⟩ := (orB_bt hN n (fun i hi => h i (by omega)) p hp).mp hb
        have := hd i n (by omega) (by omega) (by rw [h2, he])
        omega
    have := cntB_clr (x := orB f (n + 1)) (y := orB f n) (p := p) N hp (by unfold orB; rw [he, b_set (by omega) (by omega)]; simp) hno (fun j hj hjp => by
      show bt (orB f n) j = bt (orB f n ||| ((1 : Int32) <<< (f n &&& 31))) j
      rw [he, b_set (by omega) (by omega)]
      simp [hjp])
    omega
theorem cntB_full {x : Int32} : ∀ n, cntB x n = n → ∀ j, j < n → bt x j = true := by
  intro n
  induction n with
  | zero => intro _ j hj; omega
  | succ n ih =>
    intro h j hj
    unfold cntB at h
    have h2 := cntB_le x n
    by_cases hc : bt x n = true
    · rw [if_pos hc] at h
      by_cases e : j = n
      · subst e; exact hc
      · exact ih (by omega) j (by omega)
    · rw [if_neg hc] at h; omega
theorem fndI_cases (f : Nat → Int32) (p : Int32) : ∀ (d i : Nat), (∃ k, i ≤ k ∧ k < i + d ∧ fndI f p i d = nI k ∧ f k = p) ∨ (fndI f p i d = -4 ∧ ∀ k, i ≤ k → k < i + d → ¬ f k = p) := by
  intro d
  induction d with
  | zero => intro i; exact Or.inr ⟨rfl, fun k h1 h2 => by omega⟩
  | succ d ih =>
    intro i
    unfold fndI
    by_cases h : f i = p
    · rw [if_pos h]; exact Or.inl ⟨i, Nat.le_refl _, by omega, rfl, h⟩
    · rw [if_neg h]
      rcases ih (i + 1) with ⟨k, h1, h2, h3, h4⟩ | ⟨h1, h2⟩
      · exact Or.inl ⟨k, by omega, by omega, h3, h4⟩
      · exact Or.inr ⟨h1, fun k g1 g2 => by
          by_cases e : k = i
          · subst e; exact h
          · exact h2 k (by omega) (by omega)⟩
theorem E_seenAt {L : Nat} (hL : L ≤ 7) (f : Nat → Int32) (p : Int32) : Mod_seenAt p (nI L) f = some (fndI f p 0 L) := by
  have key : ∀ (d i n : Nat), i + d = L → d < n → Mod_seenAt_L2 (nI L) f p (fun x => some x) (some (-4)) n (nI i) = some (fndI f p i d) := by
    intro d
    induction d with
    | zero =>
      intro i n h1 h2
      obtain ⟨n, rfl⟩ : ∃ k, n = k + 1 := ⟨n - 1, by omega⟩
      rw [Mod_seenAt_L2, if_pos (nI_le (by omega) (by omega))]
      rfl
    | succ d ih =>
      intro i n h1 h2
      obtain ⟨n, rfl⟩ : ∃ k, n = k + 1 := ⟨n - 1, by omega⟩
      rw [Mod_seenAt_L2, if_neg (nI_ge (by omega) (by omega)), rdA_nI (by omega) (by omega)]
      unfold fndI
      by_cases h : f i = p
      · rw [if_pos h, if_pos h]
      · rw [if_neg h, if_neg h]
        simp only [nmI, nI_a1]
        exact ih (i + 1) n (by omega) (by omega)
  unfold Mod_seenAt
  exact key L 0 FU (by omega) (by unfold FU; omega)
section SEEN
variable {N : Nat} {people law counters : Int32} {kind father comes wants cost coins debts st : Nat → Int32} {sl sm : Int32} {ones seen : Nat → Int32}
theorem P_see (hR : RT N people law counters kind father comes wants cost coins debts st 0) (hS : RSe N sl ones sm seen) (p : Int32) :
    ∃ o1 o2, Let_see p people sl ones = some o1 ∧ Mod_see p sm st seen = some o2 ∧ o1.1 = o2.1 ∧ RSe N o1.2.1 o1.2.2 o2.2.1 o2.2.2 := by
  have hN := hR.N7
  obtain ⟨n, hn, rfl, rfl, h1, h2, h3⟩ := id hS
  unfold Let_see Mod_see
  rw [hR.ppl, E_isOneT, E_isOneM hN hR.many, E_placeOf (by omega), E_seenAt (by omega), fndI_eq (f := seen) (g := ones) n 0 (fun k _ hk => h1 k (by omega))]
  simp only [bindS]
  rcases oneB_cases hN p with ⟨g1, j, hj, rfl⟩ | g1
  · simp only [g1, i10, if_false]
    rcases fndI_cases ones (nI j) n 0 with ⟨k, -, k2, k3, k4⟩ | ⟨k1, k2⟩
    · rw [k3, if_neg (nI_pos (by omega)), if_neg (show ¬ nI k = -4 from fun hh => nI_pos (n := k) (by omega) (by rw [hh]; decide))]
      exact ⟨_, _, rfl, rfl, rfl, hS⟩
    · rw [k1, if_pos (by decide), if_pos rfl]
      have hlt : n < N := by
        rcases Nat.lt_or_ge n N with q | q
        · exact q
        · have e1 := orB_cnt hN n h2 h3
          have e2 := cntB_full (x := orB ones n) N (by omega) j hj
          obtain ⟨i, i1, i2⟩ := (orB_bt hN n h2 j hj).mp e2
          exact absurd i2 (k2 i (by omega) (by omega))
      unfold Row_add
      rw [if_neg (show ¬ (7 : Int32) ≤ nI n from nI_ge (b := 7) (by omega) (by omega)), wrA_nI (by omega) (by omega), wrA_nI (by omega) (by omega)]
      simp only [nmI, nI_a1, bindS]
      refine ⟨_, _, rfl, rfl, rfl, (show RSe N (nI (n + 1)) (upd ones n (nI j)) (nI (n + 1)) (upd seen n (nI j)) from ?_)⟩
      refine ⟨n + 1, by omega, rfl, rfl, fun i hi => ?_, fun i hi => ?_, fun i i' hi hi' he => ?_⟩
      · by_cases e : i = n
        · subst e; rw [upd_s, upd_s]
        · rw [upd_n e, upd_n e]; exact h1 i (by omega)
      · by_cases e : i = n
        · subst e; exact ⟨j, hj, upd_s⟩
        · rw [upd_n e]; exact h2 i (by omega)
      · have hx : ∀ a, a < n + 1 → upd ones n (nI j) a = if a = n then nI j else ones a := fun a _ => upd_if
        rw [hx i hi, hx i' hi'] at he
        by_cases e : i = n
        · by_cases e' : i' = n
          · omega
          · rw [if_pos e, if_neg e'] at he
            exact absurd he.symm (k2 i' (by omega) (by omega))
        · by_cases e' : i' = n
          · rw [if_neg e, if_pos e'] at he
            exact absurd he (k2 i (by omega) (by omega))
          · rw [if_neg e, if_neg e'] at he
            exact h3 i i' (by omega) (by omega) he
  · simp only [g1, i00, if_true]
    exact ⟨_, _, rfl, rfl, rfl, hS⟩
theorem P_forget (hS : RSe N sl ones sm seen) : ∃ o1 o2, Let_forget sl = some o1 ∧ Mod_forget sm = some o2 ∧ o1.1 = o2.1 ∧ RSe N o1.2 ones o2.2 seen := by
  obtain ⟨n, hn, rfl, rfl, h1, h2, h3⟩ := hS
  unfold Let_forget Mod_forget
  exact ⟨_, _, rfl, rfl, rfl, 0, by omega, rfl, rfl, fun i hi => by omega, fun i hi => by omega, fun i j hi => by omega⟩
theorem P_stands (hR : RT N people law counters kind father comes wants cost coins debts st 0) (i rl b0 b1 : Int32) (ro queue : Nat → Int32) :
    ∃ o1 o2, Let_stands i people law kind father comes coins debts rl ro = some o1 ∧ Mod_stands i b0 b1 st queue = some o2 ∧ o1.1 = o2.1 ∧ o1.2.1 = coins ∧ o1.2.2.1 = debts ∧ o2.2.2.2.1 = st := by
  have hN := hR.N7
  have eP : Let_isPlace i (nI N) = some (oneB N i) := E_isOneT N i
  unfold Let_stands Mod_stands
  rw [hR.ppl, eP, E_isOneM hN hR.many, E_manyM hR.many]
  unfold Let_everybody
  simp only [bindS]
  rcases oneB_cases hN i with ⟨g1, j, hj, rfl⟩ | g1
  · simp only [g1, i10, if_false]
    have hR' := hR
    rw [hR.ppl] at hR'
    obtain ⟨L, ones', queue', r1, r2, r3, r4, r5⟩ := fill_sim hR' (((1 : Int32) <<< (nI N &&& 31)) - 1) b1 ro queue
    rw [r1, r2]
    simp only [bindS]
    have hLN : L = N := by
      rw [r3]
      have : ∀ m, m ≤ N → cntB (((1 : Int32) <<< (nI N &&& 31)) - 1) m = m := by
        intro m
        induction m with
        | zero => intro _; rfl
        | succ m ih =>
          intro hm
          unfold cntB
          rw [ih (by omega), b_all N (by omega) m (by omega), if_pos (by simp; omega)]
      exact this N (Nat.le_refl _)
    subst hLN
    unfold Row_oneAt
    rw [if_neg (nI_pos (by omega)), if_neg (nI_ge hj (by omega)), rdA_nI (by omega) (by omega), rdA_nI (by omega) (by omega)]
    exact ⟨_, _, rfl, rfl, (r4 j hj).symm, rfl, rfl, rfl⟩
  · simp only [g1, i00, if_true]
    exact ⟨_, _, rfl, rfl, rfl, rfl, rfl, rfl⟩
theorem bits_T (hN : N ≤ 7) {n : Nat} (hn : n ≤ N) (f : Nat → Int32) (K : Int32 → Option Int32) : ∀ (d i m : Nat), i + d = n → d < m → Row_bits_L4 (nI n) f K m (orB f i) (nI i) = K (orB f n) := by
  intro d
  induction d with
  | zero =>
    intro i m h1 h2
    obtain ⟨m, rfl⟩ : ∃ k, m = k + 1 := ⟨m - 1, by omega⟩
    obtain rfl : i = n := by omega
    rw [Row_bits_L4, if_pos (nI_le (by omega) (by omega))]
  | succ d ih =>
    intro i m h1 h2
    obtain ⟨m, rfl⟩ : ∃ k, m = k + 1 := ⟨m - 1, by omega⟩
    rw [Row_bits_L4, if_neg (nI_ge (by omega) (by omega)), rdA_nI (by omega) (by omega)]
    simp only [nmI, nI_a1]
    exact ih (i + 1) m (by omega) (by omega)
theorem bits_M (hN : N ≤ 7) {n : Nat} (hn : n ≤ N) (f g : Nat → Int32) (hfg : ∀ i, i < n → g i = f i) (K : Int32 → Option (Int32 × Int32 × Int32 × (Nat → Int32) × (Nat → Int32))) : ∀ (d i m : Nat), i + d = n → d < m → Mod_judge_L4 (nI n) g K m (orB f i) (nI i) = K (orB f n) := by
  intro d
  induction d with
  | zero =>
    intro i m h1 h2
    obtain ⟨m, rfl⟩ : ∃ k, m = k + 1 := ⟨m - 1, by omega⟩
    obtain rfl : i = n := by omega
    rw [Mod_judge_L4, if_pos (nI_le (by omega) (by omega))]
  | succ d ih =>
    intro i m h1 h2
    obtain ⟨m, rfl⟩ : ∃ k, m = k + 1 := ⟨m - 1, by omega⟩
    rw [Mod_judge_L4, if_neg (nI_ge (by omega) (by omega)), rdA_nI (by omega) (by omega), hfg i (by omega)]
    simp only [nmI, nI_a1]
    exact ih (i + 1) m (by omega) (by omega)
theorem judge_sim (hN : N ≤ 7) {n : Nat} (hn : n ≤ N) {f g : Nat → Int32} (hfg : ∀ i, i < n → g i = f i) {o2 : Int32 × (Nat → Int32) × (Nat → Int32) × (Nat → Int32)} {o7 : Int32 × Int32 × (Nat → Int32) × (Nat → Int32)} (h2 : o2.1 = nI n) (h7 : ∀ i, i < n → o7.2.2.2 i = o2.2.1 i)
    (F1 : Int32 → Option (Int32 × (Nat → Int32) × (Nat → Int32) × Int32 × (Nat → Int32))) (F2 : Int32 → Option (Int32 × Int32 × Int32 × (Nat → Int32) × (Nat → Int32))) : ∀ (d i m1 m2 : Nat), i + d = n → d < m1 → d < m2 → ∃ r, Let_judge_L20 (nI n) f o2 F1 (F1 (-4)) m1 (nI i) = F1 r ∧ Mod_judge_L36 (nI n) g o7 F2 (F2 (-4)) m2 (nI i) = F2 r := by
  intro d
  induction d with
  | zero =>
    intro i m1 m2 e1 e2 e3
    obtain ⟨m1, rfl⟩ : ∃ k, m1 = k + 1 := ⟨m1 - 1, by omega⟩
    obtain ⟨m2, rfl⟩ : ∃ k, m2 = k + 1 := ⟨m2 - 1, by omega⟩
    exact ⟨-4, by rw [Let_judge_L20, if_pos (nI_le (by omega) (by omega))], by rw [Mod_judge_L36, if_pos (nI_le (by omega) (by omega))]⟩
  | succ d ih =>
    intro i m1 m2 e1 e2 e3
    obtain ⟨m1, rfl⟩ : ∃ k, m1 = k + 1 := ⟨m1 - 1, by omega⟩
    obtain ⟨m2, rfl⟩ : ∃ k, m2 = k + 1 := ⟨m2 - 1, by omega⟩
    rw [Let_judge_L20, if_neg (nI_ge (by omega) (by omega))]
    rw [Mod_judge_L36, if_neg (nI_ge (by omega) (by omega)), rdA_nI (by omega) (by omega), rdA_nI (by omega) (by omega), hfg i (by omega), h7 i (by omega)]
    unfold Row_oneAt
    rw [h2, if_neg (nI_pos (by omega)), if_neg (nI_ge (by omega) (by omega)), if_neg (nI_pos (by omega)), if_neg (nI_ge (by omega) (by omega)), rdA_nI (by omega) (by omega), rdA_nI (by omega) (by omega)]
    simp only [bindS, nmI, nI_a1]
    by_cases e : f i = o2.2.1 i
    · rw [if_pos e, if_pos e.symm]
      exact ih (i + 1) m1 m2 (by omega) (by omega) (by omega)
    · rw [if_neg e, if_neg (fun hh => e hh.symm)]
      exact ⟨nI i, rfl, rfl⟩
theorem P_judge (hR : RT N people law counters kind father comes wants cost coins debts st 0) (hS : RSe N sl ones sm seen) (b1 : Int32) (ro queue : Nat → Int32) :
    ∃ o1 o2, Let_judge people law kind father comes coins debts ro sl ones = some o1 ∧ Mod_judge b1 sm st queue seen = some o2 ∧ o1.1 = o2.1 ∧ o1.2.1 = coins ∧ o1.2.2.1 = debts ∧ o2.2.2.2.1 = st := by
  have hN := hR.N7
  obtain ⟨n, hn, rfl, rfl, h1, h2, h3⟩ := id hS
  obtain ⟨L, ones', queue', r1, r2, r3, r4, r5⟩ := fill_sim hR (orB ones n) b1 ro queue
  rw [orB_cnt hN n h2 h3] at r3
  subst r3
  unfold Let_judge Mod_judge Row_bits
  have e1 := bits_T hN hn ones (fun x => some x) L 0 FU (by omega) (by unfold FU; omega)
  have e2 := bits_M hN hn ones seen h1 (fun (x1_6 : Int32) => (Mod_layRow x1_6 b1 st queue).bind (fun o_7 => Mod_judge_L36 (nI L) seen o_7 (fun (x2_12 : Int32) => some (x2_12, o_7.1, o_7.2.1, o_7.2.2.1, o_7.2.2.2)) (some ((-4), o_7.1, o_7.2.1, o_7.2.2.1, o_7.2.2.2)) FU 0)) L 0 FU (by omega) (by unfold FU; omega)
  rw [show orB ones 0 = 0 from rfl, show nI 0 = (0 : Int32) from rfl] at e1 e2
  rw [e1, e2]
  simp only [bindS]
  rw [r1, r2]
  simp only [bindS]
  obtain ⟨r, s1, s2⟩ := judge_sim hN hn h1 (o2 := (nI L, ones', coins, debts)) (o7 := (nI L, b1, st, queue')) rfl r4 (fun x => some (x, coins, debts, nI L, ones')) (fun x => some (x, nI L, b1, st, queue')) L 0 FU FU (by omega) (by unfold FU; omega) (by unfold FU; omega)
  rw [show nI 0 = (0 : Int32) from rfl] at s1 s2
  rw [s1, s2]
  exact ⟨_, _, rfl, rfl, rfl, rfl, rfl, rfl⟩
def ahV (comes : Nat → Int32) (i j : Nat) : Int32 := if comes i < comes j then 1 else if comes i = comes j then (if nI j ≤ nI i then 0 else 1) else 0
theorem E_ahT {i j : Nat} (hi : i < 7) (hj : j < 7) : Twn_comesAhead (nI i) (nI j) comes = some (ahV comes i j) := by
  unfold Twn_comesAhead ahV
  rw [rdA_nI (by omega) (by omega), rdA_nI (by omega) (by omega), rdA_nI (by omega) (by omega), rdA_nI (by omega) (by omega)]
  split
  · rfl
  · split
    · split <;> rfl
    · rfl
theorem E_ahM (hR : RT N people law counters kind father comes wants cost coins debts st 0) {i j : Nat} (hi : i < N) (hj : j < N) : Mod_cameFirst (nI i) (nI j) st = some (ahV comes i j) := by
  have hN := hR.N7
  have ei := (hR.cel i hi).2.1
  have ej := (hR.cel j hj).2.1
  rw [Nat.zero_add] at ei ej
  unfold Mod_cameFirst ahV
  rw [show 6 * nI i + 1 = nI (6 * i + 1) by rw [nL6, nL1, pk_mul, nI_add], show 6 * nI j + 1 = nI (6 * j + 1) by rw [nL6, nL1, pk_mul, nI_add], rdA_nI (by omega) (by omega), rdA_nI (by omega) (by omega), ei, ej]
  split
  · rfl
  · split
    · split <;> rfl
    · rfl
theorem told_T (hN : N ≤ 7) {n b : Nat} (hn : n ≤ N) (hb : b < N) (h2 : ∀ i, i < n → ∃ j, j < N ∧ ones i = nI j) {a : Nat} : ∀ (d m : Nat), a + d < n → d < m →
    ((∃ k, a < k ∧ k ≤ a + d ∧ ∃ j, j < N ∧ ones k = nI j ∧ ¬ ahV comes j b = 0) → Let_told_L71 comes (nI n) ones (nI b) (nI a) (fun (x : Int32) => if x = nI a then (some 0) else (some (-4))) m (nI (a + d)) = some (-4)) ∧
    ((∀ k, a < k → k ≤ a + d → ∀ j, j < N → ones k = nI j → ahV comes j b = 0) → Let_told_L71 comes (nI n) ones (nI b) (nI a) (fun (x : Int32) => if x = nI a then (some 0) else (some (-4))) m (nI (a + d)) = some 0) := by
  intro d
  induction d with
  | zero =>
    intro m h1 hm
    obtain ⟨m, rfl⟩ : ∃ k, m = k + 1 := ⟨m - 1, by omega⟩
    refine ⟨fun ⟨k, k1, k2, _⟩ => by omega, fun _ => ?_⟩
    rw [Let_told_L71, if_pos (nI_le (by omega) (by omega)), Nat.add_zero, if_pos rfl]
  | succ d ih =>
    intro m h1 hm
    obtain ⟨m, rfl⟩ : ∃ k, m = k + 1 := ⟨m - 1, by omega⟩
    obtain ⟨j, hj, he⟩ := h2 (a + (d + 1)) h1
    have e : Let_told_L71 comes (nI n) ones (nI b) (nI a) (fun (x : Int32) => if x = nI a then (some 0) else (some (-4))) (m + 1) (nI (a + (d + 1))) = (if ahV comes j b = 0 then Let_told_L71 comes (nI n) ones (nI b) (nI a) (fun (x : Int32) => if x = nI a then (some 0) else (some (-4))) m (nI (a + d)) else some (-4)) := by
      rw [Let_told_L71, if_neg (nI_ge (by omega) (by omega))]
      unfold Row_oneAt
      rw [if_neg (nI_pos (by omega)), if_neg (nI_ge (by omega) (by omega)), rdA_nI (by omega) (by omega), he]
      simp only [bindS]
      rw [E_ahT (by omega) (by omega)]
      simp only [bindS, nmI]
      rw [nI_am1 (by omega), show a + (d + 1) - 1 = a + d by omega, if_neg (show ¬ nI (a + (d + 1)) = nI a from fun hh => by have := (nI_eq (by omega) (by omega)).mp hh; omega)]
    rw [e]
    obtain ⟨i1, i2⟩ := ih m (by omega) (by omega)
    refine ⟨fun ⟨k, k1, k2, j', k3, k4, k5⟩ => ?_, fun hall => ?_⟩
    · by_cases hz : ahV comes j b = 0
      · rw [if_pos hz]
        refine i1 ⟨k, k1, ?_, j', k3, k4, k5⟩
        by_cases ek : k = a + (d + 1)
        · subst ek
          rw [he] at k4
          have := (nI_eq (by omega) (by omega)).mp k4
          subst this
          exact absurd hz k5
        · omega
      · rw [if_neg hz]
    · rw [if_pos (hall (a + (d + 1)) (by omega) (by omega) j hj he)]
      exact i2 (fun k g1 g2 => hall k g1 (by omega))
theorem told_M (hR : RT N people law counters kind father comes wants cost coins debts st 0) {n b : Nat} (hn : n ≤ N) (hb : b < N) (h1 : ∀ i, i < n → seen i = ones i) (h2 : ∀ i, i < n → ∃ j, j < N ∧ ones i = nI j) {c : Nat} (hc : c < n) : ∀ (d i m : Nat), i + d = c → d < m →
    ((∃ k, i ≤ k ∧ k < c ∧ ∃ j, j < N ∧ ones k = nI j ∧ ¬ ahV comes j b = 0) → Mod_told_L62 st seen (nI b) (nI c) (some (-4)) (some 0) m (nI i) = some (-4)) ∧
    ((∀ k, i ≤ k → k < c → ∀ j, j < N → ones k = nI j → ahV comes j b = 0) → Mod_told_L62 st seen (nI b) (nI c) (some (-4)) (some 0) m (nI i) = some 0) := by
  have hN := hR.N7
  intro d
  induction d with
  | zero =>
    intro i m e1 hm
    obtain ⟨m, rfl⟩ : ∃ k, m = k + 1 := ⟨m - 1, by omega⟩
    refine ⟨fun ⟨k, k1, k2, _⟩ => by omega, fun _ => ?_⟩
    rw [Mod_told_L62, if_pos (nI_le (by omega) (by omega))]
  | succ d ih =>
    intro i m e1 hm
    obtain ⟨m, rfl⟩ : ∃ k, m = k + 1 := ⟨m - 1, by omega⟩
    obtain ⟨j, hj, he⟩ := h2 i (by omega)
    have e : Mod_told_L62 st seen (nI b) (nI c) (some (-4)) (some 0) (m + 1) (nI i) = (if ahV comes j b = 0 then Mod_told_L62 st seen (nI b) (nI c) (some (-4)) (some 0) m (nI (i + 1)) else some (-4)) := by
      rw [Mod_told_L62, if_neg (nI_ge (by omega) (by omega)), rdA_nI (by omega) (by omega), h1 i (by omega), he, E_ahM hR hj hb]
      simp only [bindS, nmI, nI_a1]
    rw [e]
    obtain ⟨i1, i2⟩ := ih (i + 1) m (by omega) (by omega)
    refine ⟨fun ⟨k, k1, k2, j', k3, k4, k5⟩ => ?_, fun hall => ?_⟩
    · by_cases hz : ahV comes j b = 0
      · rw [if_pos hz]
        refine i1 ⟨k, ?_, k2, j', k3, k4, k5⟩
        by_cases ek : k = i
        · subst ek
          rw [he] at k4
          have := (nI_eq (by omega) (by omega)).mp k4
          subst this
          exact absurd hz k5
        · omega
      · rw [if_neg hz]
    · rw [if_pos (hall i (by omega) (by omega) j hj he)]
      exact i2 (fun k g1 g2 => hall k (by omega) g2)
theorem P_told (hR : RT N people law counters kind father comes wants cost coins debts st 0) (hS : RSe N sl ones sm seen) (a b : Int32) : ∃ o, Let_told a b people comes sl ones = some o ∧ Mod_told a b sm st seen = some o := by
  have hN := hR.N7
  obtain ⟨n, hn, rfl, rfl, h1, h2, h3⟩ := id hS
  unfold Let_told Mod_told
  rw [hR.ppl, E_areTwoT, E_areTwoM hN hR.many, E_placeOf (by omega), E_placeOf (by omega), E_seenAt (by omega), E_seenAt (by omega), fndI_eq (f := seen) (g := ones) (p := a) n 0 (fun k _ hk => h1 k (by omega)), fndI_eq (f := seen) (g := ones) (p := b) n 0 (fun k _ hk => h1 k (by omega))]
  simp only [bindS]
  rcases twoB_cases hN a b with ⟨g1, i, j, hi, hj, hij, rfl, rfl⟩ | g1
  · simp only [g1, i10, if_false]
    rcases fndI_cases ones (nI i) n 0 with ⟨x, -, x2, x3, x4⟩ | ⟨x1, -⟩
    · have nx : ¬ nI x = -4 := fun hh => nI_pos (n := x) (by omega) (by rw [hh]; decide)
      rw [x3, if_neg (nI_pos (by omega)), if_neg nx]
      rcases fndI_cases ones (nI j) n 0 with ⟨y, -, y2, y3, y4⟩ | ⟨y1, -⟩
      · have ny : ¬ nI y = -4 := fun hh => nI_pos (n := y) (by omega) (by rw [hh]; decide)
        rw [y3, if_neg (nI_pos (by omega)), if_neg ny, E_ahT (by omega) (by omega), E_ahM hR hi hj]
        simp only [bindS]
        by_cases hz : ahV comes i j = 0
        · rw [if_pos hz, if_pos hz]; exact ⟨_, rfl, rfl⟩
        · rw [if_neg hz, if_neg hz]
          by_cases hxy : x ≤ y
          · have hne : x ≠ y := fun e => by
              subst e
              rw [x4] at y4
              exact hij ((nI_eq (by omega) (by omega)).mp y4)
            rw [if_pos (nI_le hxy (by omega)), if_pos (nI_le hxy (by omega))]
            simp only [nmI, nI_a1]
            rw [nI_m1 (by omega)]
            obtain ⟨t1, t2⟩ := told_T (comes := comes) hN hn hj h2 (a := x) (y - 1 - x) FU (by omega) (by unfold FU; omega)
            rw [show x + (y - 1 - x) = y - 1 by omega] at t1 t2
            obtain ⟨m1, m2⟩ := told_M hR hn hj h1 h2 (c := y) (by omega) (y - (x + 1)) (x + 1) FU (by omega) (by unfold FU; omega)
            by_cases hex : ∃ k, x < k ∧ k < y ∧ ∃ j', j' < N ∧ ones k = nI j' ∧ ¬ ahV comes j' j = 0
            · obtain ⟨k, k1, k2, k3⟩ := hex
              exact ⟨-4, t1 ⟨k, k1, by omega, k3⟩, m1 ⟨k, by omega, k2, k3⟩⟩
            · have hall : ∀ k, x < k → k < y → ∀ j', j' < N → ones k = nI j' → ahV comes j' j = 0 := fun k k1 k2 j' k3 k4 => Classical.byContradiction (fun hh => hex ⟨k, k1, k2, j', k3, k4, hh⟩)
              exact ⟨0, t2 (fun k k1 k2 => hall k k1 (by omega)), m2 (fun k k1 k2 => hall k (by omega) k2)⟩
          · rw [if_neg (nI_ge (by omega) (by omega)), if_neg (nI_ge (by omega) (by omega))]
            exact ⟨_, rfl, rfl⟩
      · rw [y1, if_pos (by decide), if_pos rfl]; exact ⟨_, rfl, rfl⟩
    · rw [x1, if_pos (by decide), if_pos rfl]; exact ⟨_, rfl, rfl⟩
  · simp only [g1, i00, if_true]
    exact ⟨_, rfl, rfl⟩
end SEEN
