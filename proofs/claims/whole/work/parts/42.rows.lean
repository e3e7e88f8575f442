/-! THE ROW of a set: fillAsTheyCome beside layRow; stands, judge -/
def cntB (x : Int32) : Nat → Nat
  | 0 => 0
  | n + 1 => cntB x n + if bt x n = true then 1 else 0
theorem cntB_le (x : Int32) : ∀ n, cntB x n ≤ n := by
  intro n
  induction n with
  | zero => exact Nat.le_refl 0
  | succ n ih => unfold cntB; split <;> omega
theorem cntB_pos {x : Int32} : ∀ {n j : Nat}, j < n → bt x j = true → 0 < cntB x n := by
  intro n
  induction n with
  | zero => intro j h; omega
  | succ n ih =>
    intro j hj hb
    unfold cntB
    by_cases e : j = n
    · subst e; rw [if_pos hb]; omega
    · have := ih (show j < n by omega) hb
      omega
theorem cntB_eq {x y : Int32} : ∀ n, (∀ j, j < n → bt x j = bt y j) → cntB x n = cntB y n := by
  intro n
  induction n with
  | zero => intro _; rfl
  | succ n ih =>
    intro h
    unfold cntB
    rw [ih (fun j hj => h j (by omega)), h n (by omega)]
theorem cntB_clr {x y : Int32} {p : Nat} : ∀ n, p < n → bt x p = true → bt y p = false → (∀ j, j < n → j ≠ p → bt y j = bt x j) → cntB y n + 1 = cntB x n := by
  intro n
  induction n with
  | zero => intro h; omega
  | succ n ih =>
    intro hp hx hy h
    unfold cntB
    by_cases e : p = n
    · subst e
      rw [if_pos hx, hy, cntB_eq p (fun j hj => h j (by omega) (by omega))]
      simp
    · rw [h n (by omega) (by omega)]
      have := ih (by omega) hx hy (fun j hj => h j (by omega))
      omega
theorem cntB_0 {x : Int32} : ∀ n, cntB x n = 0 → ∀ j, j < n → bt x j = false := by
  intro n h j hj
  cases hb : bt x j
  · rfl
  · have := cntB_pos hj hb
    omega
section ROWS
variable {N : Nat} {people law counters : Int32} {kind father comes wants cost coins debts st : Nat → Int32} {cm : Nat → Nat}
theorem first_1 (hN : N ≤ 7) (hcm : ∀ j, j < N → comes j = nI (cm j) ∧ cm j ≤ 60) {y : Int32} {p : Nat} (hp : p < N) (hb : bt y p = true) (hm : ∀ j, j < N → bt y j = true → cm p < cm j ∨ (cm p = cm j ∧ p ≤ j)) (K : Int32 → Option Int32) :
    ∀ (d j n : Nat) (best : Int32), j + d = N → d < n → (j ≤ p ∧ (best = -4 ∨ ∃ f, f < N ∧ best = nI f ∧ cm p < cm f)) ∨ (p < j ∧ best = nI p) → Twn_firstToCome_L5 (nI N) comes y K n best (nI j) = K (nI p) := by
  intro d
  induction d with
  | zero =>
    intro j n best hj hn h
    obtain ⟨n, rfl⟩ : ∃ k, n = k + 1 := ⟨n - 1, by omega⟩
    rcases h with ⟨h1, -⟩ | ⟨h1, rfl⟩
    · omega
    · rw [Twn_firstToCome_L5, if_pos (nI_le (by omega) (by omega))]
  | succ d ih =>
    intro j n best hj hn h
    obtain ⟨n, rfl⟩ : ∃ k, n = k + 1 := ⟨n - 1, by omega⟩
    have hjN : j < N := by omega
    rw [Twn_firstToCome_L5, if_neg (nI_ge hjN (by omega))]
    simp only [nmI, jn, nI_a1]
    by_cases hbj : bt y j = true
    · rw [if_neg (fun hh => by rw [(b_tst0 (show j < 32 by omega)).mp hh] at hbj; cases hbj)]
      obtain ⟨cj, -⟩ := hcm j hjN
      rcases h with ⟨h1, h2⟩ | ⟨h1, rfl⟩
      · have hmj := hm j hjN hbj
        have nxt : (j + 1 ≤ p ∧ (nI j = -4 ∨ ∃ f, f < N ∧ nI j = nI f ∧ cm p < cm f)) ∨ (p < j + 1 ∧ nI j = nI p) := by
          by_cases e : j = p
          · subst e; exact Or.inr ⟨by omega, rfl⟩
          · exact Or.inl ⟨by omega, Or.inr ⟨j, hjN, rfl, by omega⟩⟩
        rcases h2 with rfl | ⟨f, hf, rfl, hpf⟩
        · rw [if_pos (by decide)]
          exact ih (j + 1) n _ (by omega) (by omega) nxt
        · obtain ⟨cf, -⟩ := hcm f hf
          rw [if_neg (nI_pos (by omega)), rdA_nI (by omega) (by omega), rdA_nI (by omega) (by omega), cj, cf]
          have b1 := (hcm j hjN).2
          have b2 := (hcm f hf).2
          by_cases hc : cm f ≤ cm j
          · rw [if_pos (nI_le hc (by omega))]
            refine ih (j + 1) n _ (by omega) (by omega) (Or.inl ⟨?_, Or.inr ⟨f, hf, rfl, hpf⟩⟩)
            by_cases e : j = p
            · subst e; omega
            · omega
          · rw [if_neg (nI_ge (by omega) (by omega))]
            exact ih (j + 1) n _ (by omega) (by omega) nxt
      · obtain ⟨cp, -⟩ := hcm p hp
        have b1 := (hcm j hjN).2
        have b2 := (hcm p hp).2
        have hmj := hm j hjN hbj
        rw [if_neg (nI_pos (by omega)), rdA_nI (by omega) (by omega), rdA_nI (by omega) (by omega), cj, cp, if_pos (nI_le (by omega) (by omega))]
        exact ih (j + 1) n _ (by omega) (by omega) (Or.inr ⟨by omega, rfl⟩)
    · have hbj : bt y j = false := by cases hh : bt y j <;> simp_all
      rw [if_pos ((b_tst0 (show j < 32 by omega)).mpr hbj)]
      refine ih (j + 1) n best (by omega) (by omega) ?_
      rcases h with ⟨h1, h2⟩ | ⟨h1, h2⟩
      · have : j ≠ p := fun e => by rw [e, hb] at hbj; cases hbj
        exact Or.inl ⟨by omega, h2⟩
      · exact Or.inr ⟨by omega, h2⟩
theorem first_0 (hN : N ≤ 7) {y : Int32} (hb : ∀ j, j < N → bt y j = false) (K : Int32 → Option Int32) : ∀ (d j n : Nat), j + d = N → d < n → Twn_firstToCome_L5 (nI N) comes y K n (-4) (nI j) = K (-4) := by
  intro d
  induction d with
  | zero =>
    intro j n hj hn
    obtain ⟨n, rfl⟩ : ∃ k, n = k + 1 := ⟨n - 1, by omega⟩
    rw [Twn_firstToCome_L5, if_pos (nI_le (by omega) (by omega))]
  | succ d ih =>
    intro j n hj hn
    obtain ⟨n, rfl⟩ : ∃ k, n = k + 1 := ⟨n - 1, by omega⟩
    rw [Twn_firstToCome_L5, if_neg (nI_ge (by omega) (by omega)), if_pos ((b_tst0 (show j < 32 by omega)).mpr (hb j (by omega)))]
    simp only [nmI, nI_a1]
    exact ih (j + 1) n (by omega) (by omega)
theorem letIn_0 (hR : RT N people law counters kind father comes wants cost coins debts st 0) {p L : Nat} {ones queue : Nat → Int32} (payed : Int32) (hp : p < N) (hL : L < 7) (hqo : ∀ i, i < L → queue i = ones i) (hon : ∀ i, i < L → ∃ j, j < N ∧ ones i = nI j) :
    ∃ ones' queue', Row_letIn (nI p) 0 (nI L) ones law kind father coins debts = some (0, nI (L + 1), ones', coins, debts) ∧ Mod_comesTo 0 (nI p) 0 (nI L) payed st queue = some (nI (L + 1), payed, st, queue') ∧ (∀ i, i < L + 1 → queue' i = ones' i) ∧ (∀ i, i < L + 1 → ∃ j, j < N ∧ ones' i = nI j) := by
  have H := letIn_sim (q := 0) (by omega) hp 0 payed L hL (fun x4 x5 ones coins debts => wrA ones 7 x5 (nI p) (fun g => some (x4, nI (L + 1), g, coins, debts))) (fun payed st queue => some (nI (L + 1), payed, st, queue)) L FU FU 0 ones coins debts st (upd queue L (nI p)) (Nat.le_refl L) (by unfold FU; omega) (by unfold FU; omega) hR hon (fun k hk hkL => by rw [upd_n hkL]; exact hqo k (by omega)) upd_s
  obtain ⟨i', x4', ones', coins', debts', st', queue', r1, r2, r3, r4, r5, r6, u1, u2, u3, r8, r9⟩ := H
  obtain ⟨rfl, rfl, rfl, rfl⟩ := r9 rfl
  rw [i32_add0] at r2
  refine ⟨upd ones' i' (nI p), queue', ?_, ?_, ?_, ?_⟩
  · unfold Row_letIn
    rw [if_pos (show nI L < 7 from nI_lt (b := 7) (by omega) (by omega))]
    simp only [nmI, nI_a1]
    rw [r1, wrA_nI (by omega) (by omega)]
  · unfold Mod_comesTo
    rw [wrA_nI (by omega) (by omega)]
    simp only [nmI, nI_a1]
    exact r2
  · intro i hi
    by_cases h1 : i = i'
    · subst h1; rw [upd_s, r6]
    · rw [upd_n h1]; exact r5 i (by omega) h1
  · intro i hi
    by_cases h1 : i = i'
    · subst h1; exact ⟨p, hp, upd_s⟩
    · rw [upd_n h1]
      by_cases h2 : i < i'
      · rw [u1 i h2]; exact hon i (by omega)
      · rw [u2 i (by omega) (by omega)]; exact hon (i - 1) (by omega)
/-- those of x who come behind the p-th of minute t are y; L of them stand already -/
def FI (N : Nat) (cm : Nat → Nat) (x : Int32) (t p : Nat) (y : Int32) (L : Nat) (ones queue : Nat → Int32) : Prop :=
  (∀ j, j < N → bt y j = (bt x j && !decide (arrd cm t p j))) ∧ L + cntB y N = cntB x N ∧ (∀ i, i < L → queue i = ones i) ∧ (∀ i, i < L → ∃ j, j < N ∧ ones i = nI j)
theorem fill_in (hR : RT N (nI N) law counters kind father comes wants cost coins debts st 0) (hcm : ∀ j, j < N → comes j = nI (cm j) ∧ cm j ≤ 60) (x payed : Int32) {t : Nat} (ht : t ≤ 60)
    (KL : Int32 → (Nat → Int32) → (Nat → Int32) → (Nat → Int32) → Option (Int32 × (Nat → Int32) × (Nat → Int32) × (Nat → Int32))) (KM : Int32 → Int32 → (Nat → Int32) → (Nat → Int32) → Option (Int32 × Int32 × (Nat → Int32) × (Nat → Int32))) :
    ∀ (d p n1 n2 L : Nat) (y : Int32) (ones queue : Nat → Int32), p + d = N → d < n2 → 8 ≤ n1 + L → FI N cm x t p y L ones queue →
    ∃ (n1' L' : Nat) (y' : Int32) (ones' queue' : Nat → Int32), 8 ≤ n1' + L' ∧ Row_fillAsTheyCome_L10 (nI N) law kind father comes KL KL n1 y (nI L) (nI L) ones coins debts = Row_fillAsTheyCome_L10 (nI N) law kind father comes KL KL n1' y' (nI L') (nI L') ones' coins debts ∧
      Mod_layRow_L15 x (nI t) KM n2 (nI p) (nI L) payed st queue = KM (nI L') payed st queue' ∧ FI N cm x t N y' L' ones' queue' := by
  have hN := hR.N7
  have hmany : st 93 = nI N := hR.many
  intro d
  induction d with
  | zero =>
    intro p n1 n2 L y ones queue hp hn hn1 h
    obtain ⟨n2, rfl⟩ : ∃ k, n2 = k + 1 := ⟨n2 - 1, by omega⟩
    obtain rfl : p = N := by omega
    refine ⟨n1, L, y, ones, queue, hn1, rfl, ?_, h⟩
    rw [Mod_layRow_L15, E_manyM hmany]
    simp only [bindS]
    rw [if_pos (nI_le (by omega) (by omega))]
  | succ d ih =>
    intro p n1 n2 L y ones queue hp hn hn1 h
    obtain ⟨n2, rfl⟩ : ∃ k, n2 = k + 1 := ⟨n2 - 1, by omega⟩
    have hpN : p < N := by omega
    obtain ⟨hc1, hc2⟩ := hcm p hpN
    obtain ⟨h1, h2, h3, h4⟩ := id h
    have hst : st (6 * p + 1) = nI (cm p) := by
      have := (hR.cel p hpN).2.1
      rw [Nat.zero_add, hc1] at this
      exact this
    rw [Mod_layRow_L15, E_manyM hmany]
    simp only [bindS]
    rw [if_neg (nI_ge hpN (by omega))]
    simp only [nmI, nI_a1]
    -- somebody else: nothing moves
    have keep : ¬ (bt x p = true ∧ cm p = t) → FI N cm x t (p + 1) y L ones queue := by
      intro hno
      refine ⟨fun j hj => ?_, h2, h3, h4⟩
      rw [h1 j hj]
      by_cases e : j = p
      · subst e
        cases hb : bt x j
        · rfl
        · have hne : ¬ cm j = t := fun hh => hno ⟨hb, hh⟩
          have e1 : arrd cm t (j + 1) j ↔ arrd cm t j j := by unfold arrd; omega
          simp only [e1]
      · have e1 : arrd cm t (p + 1) j ↔ arrd cm t p j := by unfold arrd; omega
        simp only [e1]
    by_cases hb : bt x p = true
    · rw [if_pos ((b_tst1 (show p < 32 by omega)).mpr hb), show 6 * nI p + 1 = nI (6 * p + 1) by rw [nL6, nL1, pk_mul, nI_add], rdA_nI (by omega) (by omega), hst]
      by_cases hct : cm p = t
      · rw [if_pos (by rw [hct])]
        have hyp : bt y p = true := by
          rw [h1 p hpN, hb]
          have : ¬ arrd cm t p p := by unfold arrd; omega
          simp [this]
        have hcy := cntB_pos hpN hyp
        have hcx := cntB_le x N
        obtain ⟨ones', queue', r1, r2, r3, r4⟩ := letIn_0 hR payed hpN (show L < 7 by omega) h3 h4
        rw [r2]
        simp only [bindS, nI_a1]
        obtain ⟨n1, rfl⟩ : ∃ k, n1 = k + 1 := ⟨n1 - 1, by omega⟩
        have eL : Row_fillAsTheyCome_L10 (nI N) law kind father comes KL KL (n1 + 1) y (nI L) (nI L) ones coins debts = Row_fillAsTheyCome_L10 (nI N) law kind father comes KL KL n1 (y &&& (((1 : Int32) <<< (nI p &&& 31)) ^^^ (-1))) (nI (L + 1)) (nI (L + 1)) ones' coins debts := by
          rw [Row_fillAsTheyCome_L10, if_neg (show ¬ (7 : Int32) ≤ nI L from nI_ge (b := 7) (by omega) (by omega))]
          have eF : Twn_firstToCome y (nI N) comes = some (nI p) := by
            unfold Twn_firstToCome
            refine first_1 hN hcm hpN hyp (fun j hj hbj => ?_) (fun x => some x) N 0 FU (-4) (by omega) (by unfold FU; omega) (Or.inl ⟨by omega, Or.inl rfl⟩)
            rw [h1 j hj] at hbj
            have : ¬ arrd cm t p j := by
              intro ha
              simp [ha] at hbj
            unfold arrd at this
            omega
          rw [eF]
          simp only [bindS]
          rw [if_pos ((nI_0le (by omega)).mpr trivial), r1]
          simp only [bindS, nmI, nI_a1]
        rw [eL]
        refine ih (p + 1) n1 n2 (L + 1) _ ones' queue' (by omega) (by omega) (by omega) ⟨fun j hj => ?_, ?_, r3, r4⟩
        · rw [b_clr (by omega) (by omega), h1 j hj]
          by_cases e : j = p
          · subst e
            have : arrd cm t (j + 1) j := Or.inr ⟨hct, by omega⟩
            simp [this]
          · have e1 : arrd cm t (p + 1) j ↔ arrd cm t p j := by unfold arrd; omega
            simp [e, e1]
        · have := cntB_clr (x := y) (y := y &&& (((1 : Int32) <<< (nI p &&& 31)) ^^^ (-1))) N hpN hyp (by rw [b_clr (by omega) (by omega)]; simp) (fun j hj hjp => by rw [b_clr (by omega) (by omega)]; simp [hjp])
          omega
      · rw [if_neg (fun hh => hct ((nI_eq (by omega) (by omega)).mp hh))]
        exact ih (p + 1) n1 n2 L y ones queue (by omega) (by omega) hn1 (keep (fun hh => hct hh.2))
    · rw [if_neg (fun hh => hb ((b_tst1 (show p < 32 by omega)).mp hh))]
      exact ih (p + 1) n1 n2 L y ones queue (by omega) (by omega) hn1 (keep (fun hh => hb hh.1))
theorem fill_out (hR : RT N (nI N) law counters kind father comes wants cost coins debts st 0) (hcm : ∀ j, j < N → comes j = nI (cm j) ∧ cm j ≤ 60) (x payed : Int32)
    (KL : Int32 → (Nat → Int32) → (Nat → Int32) → (Nat → Int32) → Option (Int32 × (Nat → Int32) × (Nat → Int32) × (Nat → Int32))) (KM : Int32 → Int32 → (Nat → Int32) → (Nat → Int32) → Option (Int32 × Int32 × (Nat → Int32) × (Nat → Int32))) :
    ∀ (d t n1 n2 L : Nat) (y : Int32) (ones queue : Nat → Int32), t + d = 61 → d < n2 → 8 ≤ n1 + L → FI N cm x t 0 y L ones queue →
    ∃ (L' : Nat) (ones' queue' : Nat → Int32), Row_fillAsTheyCome_L10 (nI N) law kind father comes KL KL n1 y (nI L) (nI L) ones coins debts = KL (nI L') ones' coins debts ∧
      Mod_layRow_L7 x KM n2 (nI t) (nI L) payed st queue = KM (nI L') payed st queue' ∧ L' = cntB x N ∧ (∀ i, i < L' → queue' i = ones' i) ∧ (∀ i, i < L' → ∃ j, j < N ∧ ones' i = nI j) := by
  have hN := hR.N7
  intro d
  induction d with
  | zero =>
    intro t n1 n2 L y ones queue ht hn hn1 h
    obtain ⟨n2, rfl⟩ : ∃ k, n2 = k + 1 := ⟨n2 - 1, by omega⟩
    obtain ⟨h1, h2, h3, h4⟩ := h
    have hy0 : ∀ j, j < N → bt y j = false := fun j hj => by
      rw [h1 j hj]
      have : arrd cm t 0 j := Or.inl (by have := (hcm j hj).2; omega)
      simp [this]
    have hc0 : cntB y N = 0 := by
      rcases Nat.eq_zero_or_pos (cntB y N) with e | e
      · exact e
      · have : ∀ n, n ≤ N → cntB y n = 0 := by
          intro n
          induction n with
          | zero => intro _; rfl
          | succ n ih => intro hn; unfold cntB; rw [ih (by omega), hy0 n (by omega)]; simp
        rw [this N (Nat.le_refl _)]
    have hcx := cntB_le x N
    refine ⟨L, ones, queue, ?_, ?_, by omega, h3, h4⟩
    · by_cases h7 : L = 7
      · subst h7
        obtain ⟨n1, rfl⟩ : ∃ k, n1 = k + 1 := ⟨n1 - 1, by omega⟩
        rw [Row_fillAsTheyCome_L10, if_pos (by decide)]
      · obtain ⟨n1, rfl⟩ : ∃ k, n1 = k + 1 := ⟨n1 - 1, by omega⟩
        rw [Row_fillAsTheyCome_L10, if_neg (show ¬ (7 : Int32) ≤ nI L from nI_ge (b := 7) (by omega) (by omega))]
        have eF : Twn_firstToCome y (nI N) comes = some (-4) := by
          unfold Twn_firstToCome
          exact first_0 hN hy0 (fun x => some x) N 0 FU (by omega) (by unfold FU; omega)
        rw [eF]
        simp only [bindS]
        rw [if_neg (by decide)]
    · rw [Mod_layRow_L7, if_pos (show (60 : Int32) < nI t from nI_lt (a := 60) (by omega) (by omega))]
  | succ d ih =>
    intro t n1 n2 L y ones queue ht hn hn1 h
    obtain ⟨n2, rfl⟩ : ∃ k, n2 = k + 1 := ⟨n2 - 1, by omega⟩
    rw [Mod_layRow_L7, if_neg (show ¬ (60 : Int32) < nI t from nI_nlt (a := 60) (by omega) (by omega))]
    obtain ⟨n1', L', y', ones', queue', e0, e1, e2, e3⟩ := fill_in hR hcm x payed (t := t) (by omega) KL (fun a b c d => nmI (nI t + 1) (fun x2_21 => Mod_layRow_L7 x KM n2 x2_21 a b c d)) N 0 n1 FU L y ones queue (by omega) (by unfold FU; omega) hn1 h
    rw [show nI 0 = (0 : Int32) from rfl] at e2
    rw [e1, e2]
    simp only [nmI, nI_a1]
    refine ih (t + 1) n1' n2 L' y' ones' queue' (by omega) (by omega) e0 ?_
    obtain ⟨h1, h2, h3, h4⟩ := e3
    refine ⟨fun j hj => ?_, h2, h3, h4⟩
    rw [h1 j hj]
    have e1 : arrd cm (t + 1) 0 j ↔ arrd cm t N j := by unfold arrd; omega
    simp only [e1]
theorem fill_sim (hR : RT N people law counters kind father comes wants cost coins debts st 0) (x payed : Int32) (ones queue : Nat → Int32) :
    ∃ (L : Nat) (ones' queue' : Nat → Int32), Row_fillAsTheyCome x ones people law kind father comes coins debts = some (nI L, ones', coins, debts) ∧ Mod_layRow x payed st queue = some (nI L, payed, st, queue') ∧ L = cntB x N ∧ (∀ i, i < L → queue' i = ones' i) ∧ (∀ i, i < L → ∃ j, j < N ∧ ones' i = nI j) := by
  have hp := hR.ppl
  subst hp
  have hcm : ∀ j, j < N → comes j = nI ((comes j).toNatClampNeg) ∧ (comes j).toNatClampNeg ≤ 60 := fun j hj => by
    obtain ⟨⟨c, hc, he⟩, -⟩ := hR.rng j hj
    rw [he, nI_clamp (by omega)]
    exact ⟨rfl, hc⟩
  obtain ⟨L, ones', queue', r1, r2, r3, r4, r5⟩ := fill_out (cm := fun j => (comes j).toNatClampNeg) hR hcm x payed (fun a b c d => some (a, b, c, d)) (fun a b c d => some (a, b, c, d)) 61 0 FU FU 0 x ones queue (by omega) (by unfold FU; omega) (by unfold FU; omega) ⟨fun j hj => by
    have : ¬ arrd (fun j => (comes j).toNatClampNeg) 0 0 j := by unfold arrd; omega
    simp [this], by omega, fun i hi => by omega, fun i hi => by omega⟩
  exact ⟨L, ones', queue', r1, r2, r3, r4, r5⟩
end ROWS
