/-! what is asked of the run: served, waits, place, row, all, poor, day -/
theorem i10 : ((1 : Int32) = 0) = False := eq_false (by decide)
theorem i00 : ((0 : Int32) = 0) = True := eq_true rfl
section RUNM
variable {N : Nat} {people law counters : Int32} {kind father comes wants cost coins debts st : Nat → Int32}
abbrev frm (st st' : Nat → Int32) : Prop := ∀ k, k < 282 → st' k = st k
theorem runUntil_sim {last : Nat} (hlast : last ≤ 130) (hR : RT N people law counters kind father comes wants cost coins debts st 0) (k1 k2 k3 k4 k5 k6 k7 fr ones served queue busy servedIn : Nat → Int32) :
    ∃ (L : Nat) (paid : Int32) (coins' debts' ones' served' free' st' queue' busy' servedIn' : Nat → Int32),
      Let_runUntil (nI last) people law counters kind father comes wants cost coins debts k1 k2 k3 k4 k5 k6 k7 ones served fr = some (paid, people, law, counters, va_cpy kind k1 0 0 7, va_cpy father k2 0 0 7, va_cpy comes k3 0 0 7, va_cpy wants k4 0 0 7, va_cpy cost k5 0 0 7, coins', debts', nI L, ones', served', free') ∧
      Mod_copies 0 282 st = some (cpp st 0 282 94) ∧ Mod_runsTo (nI last) (cpp st 0 282 94) queue busy servedIn = some (nI L, paid, st', queue', busy', servedIn') ∧
      L ≤ N ∧ RT N (nI N) law counters (va_cpy kind k1 0 0 7) (va_cpy father k2 0 0 7) (va_cpy comes k3 0 0 7) (va_cpy wants k4 0 0 7) (va_cpy cost k5 0 0 7) coins' debts' st' 282 ∧ (∀ i, i < L → queue' i = ones' i) ∧ (∀ i, i < L → ∃ j, j < N ∧ ones' i = nI j) ∧ (∀ k, (k < 282 ∨ 376 ≤ k) → st' k = st k) ∧
      (last = 130 → ∀ j, j < N → ∃ v, v ≤ 130 ∧ (comes j).toNatClampNeg ≤ v ∧ served' j = nI v ∧ servedIn' j = nI v) := by
  obtain ⟨L, paid, coins', debts', ones', served', free', st', queue', busy', servedIn', r1, r2, r3, r4, r5, r6, r7, r8⟩ := loadrun hlast hR k1 k2 k3 k4 k5 k6 k7 fr ones served queue busy servedIn
  refine ⟨L, paid, coins', debts', ones', served', free', st', queue', busy', servedIn', ?_, E_copies (a := 0) (b := 282) (by omega) (by omega) (by omega) st, r2, r3, r4, r5, r6, r7, r8⟩
  unfold Let_runUntil
  rw [E_load]
  simp only [Option.bind_some]
  rw [hR.ppl, r1]
  rfl
theorem P_served (hR : RT N people law counters kind father comes wants cost coins debts st 0) (p a0 a1 a2 a3 a4 : Int32) (k1 k2 k3 k4 k5 k6 k7 ones served fr queue busy servedIn : Nat → Int32) (b0 b1 : Int32) :
    ∃ o1 o2, Let_served p people law counters kind father comes wants cost coins debts a0 a1 a2 a3 k1 k2 k3 k4 k5 k6 k7 a4 ones served fr = some o1 ∧ Mod_served p b0 b1 st queue busy servedIn = some o2 ∧ o1.1 = o2.1 ∧ frm st o2.2.2.2.1 := by
  have hN := hR.N7
  unfold Let_served Mod_served
  rw [hR.ppl, E_isOneT, E_isOneM hN hR.many]
  simp only [Option.bind_some]
  rcases oneB_cases hN p with ⟨h1, j, hj, rfl⟩ | h1
  · rw [h1, if_neg (by decide), if_neg (by decide)]
    obtain ⟨L, paid, coins', debts', ones', served', free', st', queue', busy', servedIn', r1, r2, r3, r4, r5, r6, r7, r8, r9⟩ := runUntil_sim (last := 130) (Nat.le_refl _) hR k1 k2 k3 k4 k5 k6 k7 fr ones served queue busy servedIn
    rw [hR.ppl] at r1
    obtain ⟨v, v1, v2, v3, v4⟩ := r9 rfl j hj
    unfold Mod_runsAll
    rw [show (130 : Int32) = nI 130 from rfl, r1, r2]
    simp only [Option.bind_some]
    rw [r3]
    simp only [Option.bind_some]
    rw [rdA_nI (by omega) (by omega), rdA_nI (by omega) (by omega)]
    exact ⟨_, _, rfl, rfl, by show served' j = servedIn' j; rw [v3, v4], fun k hk => r8 k (Or.inl hk)⟩
  · rw [h1, if_pos rfl, if_pos rfl]
    exact ⟨_, _, rfl, rfl, rfl, fun _ _ => rfl⟩
theorem E_waitT {j : Nat} (hj : j < 7) (cs sv : Nat → Int32) : Run_waitOf (nI j) cs sv = some (sv j - cs j) := by
  unfold Run_waitOf
  rw [rdA_nI (by omega) (by omega), rdA_nI (by omega) (by omega)]
theorem E_waitM {j : Nat} (hj : j < 7) (st sv : Nat → Int32) : Mod_waitOf (nI j) st sv = some (sv j - st (282 + 6 * j + 1)) := by
  unfold Mod_waitOf
  rw [rdA_nI (by omega) (by omega), show (282 + 6 * nI j) + 1 = nI (282 + 6 * j + 1) by rw [nL282, nL6, nL1, pk_mul, nI_add, nI_add], rdA_nI (by omega) (by omega)]
theorem P_waits (hR : RT N people law counters kind father comes wants cost coins debts st 0) (p a0 a1 a2 a3 a4 : Int32) (k1 k2 k3 k4 k5 k6 k7 ones served fr queue busy servedIn : Nat → Int32) (b0 b1 : Int32) :
    ∃ o1 o2, Let_waits p people law counters kind father comes wants cost coins debts a0 a1 a2 a3 k1 k2 k3 k4 k5 k6 k7 a4 ones served fr = some o1 ∧ Mod_waits p b0 b1 st queue busy servedIn = some o2 ∧ o1.1 = o2.1 ∧ frm st o2.2.2.2.1 := by
  have hN := hR.N7
  unfold Let_waits Mod_waits
  rw [hR.ppl, E_isOneT, E_isOneM hN hR.many]
  simp only [Option.bind_some]
  rcases oneB_cases hN p with ⟨h1, j, hj, rfl⟩ | h1
  · rw [h1, if_neg (by decide), if_neg (by decide)]
    obtain ⟨L, paid, coins', debts', ones', served', free', st', queue', busy', servedIn', r1, r2, r3, r4, r5, r6, r7, r8, r9⟩ := runUntil_sim (last := 130) (Nat.le_refl _) hR k1 k2 k3 k4 k5 k6 k7 fr ones served queue busy servedIn
    rw [hR.ppl] at r1
    obtain ⟨v, v1, v2, v3, v4⟩ := r9 rfl j hj
    unfold Mod_runsAll
    rw [show (130 : Int32) = nI 130 from rfl, r1, r2]
    simp only [Option.bind_some]
    rw [r3]
    simp only [Option.bind_some]
    rw [E_waitT (by omega), E_waitM (by omega)]
    simp only [Option.bind_some]
    refine ⟨_, _, rfl, rfl, ?_, fun k hk => r8 k (Or.inl hk)⟩
    show served' j - va_cpy comes k3 0 0 7 j = servedIn' j - st' (282 + 6 * j + 1)
    rw [v3, v4, (r5.cel j hj).2.1]
  · rw [h1, if_pos rfl, if_pos rfl]
    exact ⟨_, _, rfl, rfl, rfl, fun _ _ => rfl⟩
/-- the first place, from i on, of d places, where f holds p; -4 -/
def fndI (f : Nat → Int32) (p : Int32) : Nat → Nat → Int32
  | _, 0 => -4
  | i, d + 1 => if f i = p then nI i else fndI f p (i + 1) d
theorem fndI_eq {f g : Nat → Int32} {p : Int32} : ∀ (d i : Nat), (∀ k, i ≤ k → k < i + d → f k = g k) → fndI f p i d = fndI g p i d := by
  intro d
  induction d with
  | zero => intro i _; rfl
  | succ d ih =>
    intro i h
    unfold fndI
    rw [h i (Nat.le_refl _) (by omega), ih (i + 1) (fun k h1 h2 => h k (by omega) (by omega))]
theorem placeOf_L {L : Nat} (hL : L ≤ 7) (f : Nat → Int32) (p : Int32) : ∀ (d i n : Nat), i + d = L → d < n → Row_placeOf_L2 (nI L) f p (fun x => some x) (some (-4)) n (nI i) = some (fndI f p i d) := by
  intro d
  induction d with
  | zero =>
    intro i n h1 h2
    obtain ⟨n, rfl⟩ : ∃ k, n = k + 1 := ⟨n - 1, by omega⟩
    rw [Row_placeOf_L2, if_pos (nI_le (by omega) (by omega))]
    rfl
  | succ d ih =>
    intro i n h1 h2
    obtain ⟨n, rfl⟩ : ∃ k, n = k + 1 := ⟨n - 1, by omega⟩
    rw [Row_placeOf_L2, if_neg (nI_ge (by omega) (by omega)), rdA_nI (by omega) (by omega)]
    unfold fndI
    by_cases h : f i = p
    · rw [if_pos h, if_pos h]
    · rw [if_neg h, if_neg h]
      simp only [nmI, nI_a1]
      exact ih (i + 1) n (by omega) (by omega)
theorem E_placeOf {L : Nat} (hL : L ≤ 7) (f : Nat → Int32) (p : Int32) : Row_placeOf p (nI L) f = some (fndI f p 0 L) := by
  unfold Row_placeOf
  exact placeOf_L hL f p L 0 FU (by omega) (by unfold FU; omega)
theorem placeM_L {L : Nat} (hL : L ≤ 7) (p : Int32) (o : Int32 × Int32 × (Nat → Int32) × (Nat → Int32) × (Nat → Int32) × (Nat → Int32)) (ho : o.1 = nI L) (F : Int32 → Option (Int32 × Int32 × Int32 × (Nat → Int32) × (Nat → Int32) × (Nat → Int32) × (Nat → Int32))) : ∀ (d i n : Nat), i + d = L → d < n → Mod_place_L37 p o F (F (-4)) n (nI i) = F (fndI o.2.2.2.1 p i d) := by
  intro d
  induction d with
  | zero =>
    intro i n h1 h2
    obtain ⟨n, rfl⟩ : ∃ k, n = k + 1 := ⟨n - 1, by omega⟩
    rw [Mod_place_L37, ho, if_pos (nI_le (by omega) (by omega))]
    rfl
  | succ d ih =>
    intro i n h1 h2
    obtain ⟨n, rfl⟩ : ∃ k, n = k + 1 := ⟨n - 1, by omega⟩
    rw [Mod_place_L37, ho, if_neg (nI_ge (by omega) (by omega)), rdA_nI (by omega) (by omega)]
    unfold fndI
    by_cases h : o.2.2.2.1 i = p
    · rw [if_pos h, if_pos h]
    · rw [if_neg h, if_neg h]
      simp only [nmI, nI_a1]
      exact ih (i + 1) n (by omega) (by omega)
/-- lo to hi: both ways to ask -/
theorem E_isMinute (t : Int32) : Let_isMinute t = some (if 0 ≤ t ∧ t ≤ 130 then 1 else 0) := by
  unfold Let_isMinute
  by_cases h1 : t < 0
  · rw [if_pos h1, if_neg (fun h => i32_nle.mpr h1 h.1)]
  · rw [if_neg h1]
    by_cases h2 : 130 < t
    · rw [if_pos h2, if_neg (fun h => i32_nle.mpr h2 h.2)]
    · rw [if_neg h2, if_pos ⟨i32_nlt.mp h1, i32_nlt.mp h2⟩]
theorem rng_cases {t hi : Int32} {n : Nat} (hh : hi = nI n) (hn : n < 2 ^ 31) : (0 ≤ t ∧ t ≤ hi ∧ ∃ k, k ≤ n ∧ t = nI k) ∨ ¬ (0 ≤ t ∧ t ≤ hi) := by
  by_cases h : 0 ≤ t ∧ t ≤ hi
  · left
    refine ⟨h.1, h.2, ?_⟩
    obtain ⟨j, hj, rfl⟩ := nI_of (x := t) (i32_nlt.mpr h.1)
    refine ⟨j, ?_, rfl⟩
    have := h.2
    rw [hh, nI_leI hj hn] at this
    exact this
  · exact Or.inr h
theorem P_place (hR : RT N people law counters kind father comes wants cost coins debts st 0) (p t a0 a1 a2 a3 a4 : Int32) (k1 k2 k3 k4 k5 k6 k7 ones served fr queue busy servedIn : Nat → Int32) (b0 b1 : Int32) :
    ∃ o1 o2, Let_place p t people law counters kind father comes wants cost coins debts a0 a1 a2 a3 k1 k2 k3 k4 k5 k6 k7 a4 ones served fr = some o1 ∧ Mod_place p t b0 b1 st queue busy servedIn = some o2 ∧ o1.1 = o2.1 ∧ frm st o2.2.2.2.1 := by
  have hN := hR.N7
  unfold Let_place Mod_place
  rw [hR.ppl, E_isOneT, E_isOneM hN hR.many, E_isMinute, show (0 : Int64) = (0 : Int32).toInt64 from rfl, show (130 : Int64) = (130 : Int32).toInt64 from rfl, E_in32]
  simp only [Option.bind_some]
  rcases oneB_cases hN p with ⟨h1, j, hj, rfl⟩ | h1
  · simp only [h1, i10, if_false]
    rcases rng_cases (t := t) (hi := 130) (n := 130) rfl (by omega) with ⟨g1, g2, k, hk, rfl⟩ | g
    · have hg := eq_true (show 0 ≤ nI k ∧ nI k ≤ 130 from ⟨g1, g2⟩)
      simp only [hg, if_true, i10, if_false]
      obtain ⟨L, paid, coins', debts', ones', served', free', st', queue', busy', servedIn', r1, r2, r3, r4, r5, r6, r7, r8, r9⟩ := runUntil_sim (last := k) hk hR k1 k2 k3 k4 k5 k6 k7 fr ones served queue busy servedIn
      rw [hR.ppl] at r1
      rw [r1, r2]
      simp only [Option.bind_some]
      rw [r3]
      simp only [Option.bind_some]
      rw [E_placeOf (by omega), show (0 : Int32) = nI 0 from rfl, placeM_L (L := L) (by omega) (nI j) (nI L, paid, st', queue', busy', servedIn') rfl (fun x => some (x, nI L, paid, st', queue', busy', servedIn')) L 0 FU (by omega) (by unfold FU; omega)]
      simp only [Option.bind_some]
      exact ⟨_, _, rfl, rfl, fndI_eq L 0 (fun k _ h2 => (r6 k (by omega)).symm), fun k hk => r8 k (Or.inl hk)⟩
    · simp only [eq_false g, if_false, i00, if_true]
      exact ⟨_, _, rfl, rfl, rfl, fun _ _ => rfl⟩
  · simp only [h1, i00, if_true]
    exact ⟨_, _, rfl, rfl, rfl, fun _ _ => rfl⟩
theorem P_row (hR : RT N people law counters kind father comes wants cost coins debts st 0) (t i a0 a1 a2 a3 a4 : Int32) (k1 k2 k3 k4 k5 k6 k7 ones served fr queue busy servedIn : Nat → Int32) (b0 b1 : Int32) :
    ∃ o1 o2, Let_row t i people law counters kind father comes wants cost coins debts a0 a1 a2 a3 k1 k2 k3 k4 k5 k6 k7 a4 ones served fr = some o1 ∧ Mod_row t i b0 b1 st queue busy servedIn = some o2 ∧ o1.1 = o2.1 ∧ frm st o2.2.2.2.1 := by
  have hN := hR.N7
  unfold Let_row Mod_row
  rw [E_isMinute, show (0 : Int64) = (0 : Int32).toInt64 from rfl, show (130 : Int64) = (130 : Int32).toInt64 from rfl, show (6 : Int64) = (6 : Int32).toInt64 from rfl, E_in32, E_in32]
  simp only [Option.bind_some]
  rcases rng_cases (t := t) (hi := 130) (n := 130) rfl (by omega) with ⟨g1, g2, k, hk, rfl⟩ | g
  · have hg := eq_true (show 0 ≤ nI k ∧ nI k ≤ 130 from ⟨g1, g2⟩)
    simp only [hg, if_true, i10, if_false]
    rcases rng_cases (t := i) (hi := 6) (n := 6) rfl (by omega) with ⟨f1, f2, m, hm, rfl⟩ | f
    · have hf := eq_true (show 0 ≤ nI m ∧ nI m ≤ 6 from ⟨f1, f2⟩)
      simp only [hf, if_true, i10, if_false, eq_false (i32_nlt.mpr f1), eq_true (show nI m < (7 : Int32) from nI_lt (b := 7) (by omega) (by omega))]
      obtain ⟨L, paid, coins', debts', ones', served', free', st', queue', busy', servedIn', r1, r2, r3, r4, r5, r6, r7, r8, r9⟩ := runUntil_sim (last := k) hk hR k1 k2 k3 k4 k5 k6 k7 fr ones served queue busy servedIn
      rw [r1, r2]
      simp only [Option.bind_some]
      rw [r3]
      simp only [Option.bind_some]
      unfold Row_oneAt
      rw [if_neg (i32_nlt.mpr f1)]
      by_cases hLm : L ≤ m
      · rw [if_pos (nI_le hLm (by omega)), if_pos (nI_le hLm (by omega))]
        exact ⟨_, _, rfl, rfl, rfl, fun k hk => r8 k (Or.inl hk)⟩
      · rw [if_neg (nI_ge (by omega) (by omega)), if_neg (nI_ge (by omega) (by omega)), rdA_nI (by omega) (by omega), rdA_nI (by omega) (by omega)]
        exact ⟨_, _, rfl, rfl, (r6 m (by omega)).symm, fun k hk => r8 k (Or.inl hk)⟩
    · simp only [eq_false f, if_false, i00, if_true]
      by_cases f1 : i < 0
      · rw [if_pos f1]
        exact ⟨_, _, rfl, rfl, rfl, fun _ _ => rfl⟩
      · rw [if_neg f1, if_neg (show ¬ i < (7 : Int32) by
          rw [i32_nlt, t32_le]
          have h1 := i32_nlt.mp f1
          rw [t32_le] at h1
          have h2 : ¬ i ≤ 6 := fun h => f ⟨i32_nlt.mp f1, h⟩
          rw [t32_le] at h2
          have e1 : (7 : Int32).toInt = 7 := rfl
          have e2 : (6 : Int32).toInt = 6 := rfl
          omega)]
        exact ⟨_, _, rfl, rfl, rfl, fun _ _ => rfl⟩
  · simp only [eq_false g, if_false, i00, if_true]
    exact ⟨_, _, rfl, rfl, rfl, fun _ _ => rfl⟩
end RUNM
