/-! the town beside its page: RT N .. st q: the town of N people is what the cells of st from q on say -/
def RT (N : Nat) (people law counters : Int32) (kind father comes wants cost coins debts st : Nat → Int32) (q : Nat) : Prop :=
  N ≤ 7 ∧ people = nI N ∧ st (q + 93) = nI N ∧ st (q + 91) = law ∧ (law = 0 ∨ law = 1) ∧ (∃ c, c < 2 ∧ counters = nI (1 + c) ∧ st (q + 92) = nI c) ∧
  (∀ p, p < N → st (q + 6 * p) = kind p ∧ st (q + 6 * p + 1) = comes p ∧ st (q + 6 * p + 2) = wants p ∧ st (q + 6 * p + 3) = cost p ∧ st (q + 6 * p + 4) = coins p) ∧
  (∀ p, p < N → kind p = 4 → ∃ f, f < N ∧ f ≠ p ∧ father p = nI f ∧ st (q + 6 * p + 5) = nI f) ∧
  (∀ p, p < N → ¬ kind p = 4 → st (q + 6 * p + 5) = -4) ∧
  (∀ p, p < N → (∃ c, c ≤ 60 ∧ comes p = nI c) ∧ (∃ w, 1 ≤ w ∧ w ≤ 9 ∧ wants p = nI w) ∧ (∃ c, c ≤ 9 ∧ cost p = nI c)) ∧
  (∀ k, k < 49 → st (q + 42 + k) = debts k) ∧ (∀ a, a < 7 → debts (7 * a + a) = 0)
section RTS
variable {N q : Nat} {people law counters : Int32} {kind father comes wants cost coins debts st : Nat → Int32}
theorem RT.N7 (h : RT N people law counters kind father comes wants cost coins debts st q) : N ≤ 7 := h.1
theorem RT.ppl (h : RT N people law counters kind father comes wants cost coins debts st q) : people = nI N := h.2.1
theorem RT.many (h : RT N people law counters kind father comes wants cost coins debts st q) : st (q + 93) = nI N := h.2.2.1
theorem RT.lw (h : RT N people law counters kind father comes wants cost coins debts st q) : st (q + 91) = law := h.2.2.2.1
theorem RT.lw01 (h : RT N people law counters kind father comes wants cost coins debts st q) : law = 0 ∨ law = 1 := h.2.2.2.2.1
theorem RT.ctr (h : RT N people law counters kind father comes wants cost coins debts st q) : ∃ c, c < 2 ∧ counters = nI (1 + c) ∧ st (q + 92) = nI c := h.2.2.2.2.2.1
theorem RT.cel (h : RT N people law counters kind father comes wants cost coins debts st q) : ∀ p, p < N → st (q + 6 * p) = kind p ∧ st (q + 6 * p + 1) = comes p ∧ st (q + 6 * p + 2) = wants p ∧ st (q + 6 * p + 3) = cost p ∧ st (q + 6 * p + 4) = coins p := h.2.2.2.2.2.2.1
theorem RT.fat (h : RT N people law counters kind father comes wants cost coins debts st q) : ∀ p, p < N → kind p = 4 → ∃ f, f < N ∧ f ≠ p ∧ father p = nI f ∧ st (q + 6 * p + 5) = nI f := h.2.2.2.2.2.2.2.1
theorem RT.nfa (h : RT N people law counters kind father comes wants cost coins debts st q) : ∀ p, p < N → ¬ kind p = 4 → st (q + 6 * p + 5) = -4 := h.2.2.2.2.2.2.2.2.1
theorem RT.rng (h : RT N people law counters kind father comes wants cost coins debts st q) : ∀ p, p < N → (∃ c, c ≤ 60 ∧ comes p = nI c) ∧ (∃ w, 1 ≤ w ∧ w ≤ 9 ∧ wants p = nI w) ∧ (∃ c, c ≤ 9 ∧ cost p = nI c) := h.2.2.2.2.2.2.2.2.2.1
theorem RT.deb (h : RT N people law counters kind father comes wants cost coins debts st q) : ∀ k, k < 49 → st (q + 42 + k) = debts k := h.2.2.2.2.2.2.2.2.2.2.1
theorem RT.dia (h : RT N people law counters kind father comes wants cost coins debts st q) : ∀ a, a < 7 → debts (7 * a + a) = 0 := h.2.2.2.2.2.2.2.2.2.2.2
/-- two answers that are 0 or 1 -/
def oneB (N : Nat) (p : Int32) : Int32 := if 0 ≤ p ∧ p < nI N then 1 else 0
def twoB (N : Nat) (a b : Int32) : Int32 := if (0 ≤ a ∧ a < nI N) ∧ (0 ≤ b ∧ b < nI N) ∧ ¬ a = b then 1 else 0
theorem i32_nlt {a b : Int32} : ¬ a < b ↔ b ≤ a := Int32.not_lt
theorem i32_nle {a b : Int32} : ¬ a ≤ b ↔ b < a := Int32.not_le
theorem E_isOneT (N : Nat) (p : Int32) : Twn_isOne p (nI N) = some (oneB N p) := by
  unfold Twn_isOne oneB
  by_cases h1 : p < 0
  · simp [h1, i32_nle.mpr h1]
  · by_cases h2 : nI N ≤ p
    · simp [h1, h2, i32_nlt.mpr h2]
    · simp [h1, h2, i32_nlt.mp h1, i32_nle.mp h2]
theorem E_manyM (h : st 93 = nI N) : Mod_many st = some (nI N) := by
  unfold Mod_many
  rw [nL93, rdA_nI (by omega) (by omega), h]
theorem nI_sub1 (hN : N ≤ 7) (p : Int32) : p ≤ nI N - 1 ↔ p < nI N := by
  rw [t32_le, t32_lt]
  have h1 : (nI N).toInt = (N : Int) := nI_toInt (by omega)
  have h2 : (nI N - 1).toInt = (N : Int) - 1 := by
    rw [t32_sub (by rw [h1]; decide +revert) (by rw [h1]; show (N : Int) - 1 < _; omega), h1]; rfl
  omega
theorem E_isOneM (hN : N ≤ 7) (h : st 93 = nI N) (p : Int32) : Mod_isOne p st = some (oneB N p) := by
  unfold Mod_isOne oneB
  rw [E_manyM h]
  simp only [Option.bind_some]
  rw [show (0 : Int64) = (0 : Int32).toInt64 from rfl, E_in32]
  simp only [Option.bind_some, nI_sub1 hN]
  by_cases hc : 0 ≤ p ∧ p < nI N
  · simp [hc]
  · simp [hc]
theorem E_areTwoT (N : Nat) (a b : Int32) : Twn_areTwo a b (nI N) = some (twoB N a b) := by
  unfold Twn_areTwo twoB
  simp only [E_isOneT, Option.bind_some]
  unfold oneB
  by_cases h1 : 0 ≤ a ∧ a < nI N
  · by_cases h2 : 0 ≤ b ∧ b < nI N
    · by_cases h3 : a = b <;> simp [h1, h2, h3]
    · simp [h1, h2]
  · simp [h1]
theorem E_areTwoM (hN : N ≤ 7) (h : st 93 = nI N) (a b : Int32) : Mod_areTwo a b st = some (twoB N a b) := by
  unfold Mod_areTwo twoB
  simp only [E_isOneM hN h, Option.bind_some]
  unfold oneB
  by_cases h1 : 0 ≤ a ∧ a < nI N
  · by_cases h2 : 0 ≤ b ∧ b < nI N
    · by_cases h3 : a = b <;> simp [h1, h2, h3]
    · simp [h1, h2]
  · simp [h1]
theorem oneB_cases (hN : N ≤ 7) (p : Int32) : (oneB N p = 1 ∧ ∃ j, j < N ∧ p = nI j) ∨ oneB N p = 0 := by
  unfold oneB
  by_cases h : 0 ≤ p ∧ p < nI N
  · left
    rw [if_pos h]
    refine ⟨rfl, ?_⟩
    rcases nI_cases (p := p) (N := N) (by omega) with h1 | h1 | h1
    · exact h1
    · exact absurd h.1 (i32_nle.mpr h1)
    · exact absurd h.2 (i32_nlt.mpr h1)
  · right; rw [if_neg h]
theorem oneB_in (hN : N ≤ 7) {j : Nat} (hj : j < N) : oneB N (nI j) = 1 := by
  unfold oneB
  rw [if_pos ⟨(nI_0le (by omega)).mpr trivial, nI_lt hj (by omega)⟩]
theorem twoB_cases (hN : N ≤ 7) (a b : Int32) : (twoB N a b = 1 ∧ ∃ i j, i < N ∧ j < N ∧ i ≠ j ∧ a = nI i ∧ b = nI j) ∨ twoB N a b = 0 := by
  unfold twoB
  by_cases h : (0 ≤ a ∧ a < nI N) ∧ (0 ≤ b ∧ b < nI N) ∧ ¬ a = b
  · left
    rw [if_pos h]
    refine ⟨rfl, ?_⟩
    rcases nI_cases (p := a) (N := N) (by omega) with ⟨i, hi, rfl⟩ | h1 | h1
    · rcases nI_cases (p := b) (N := N) (by omega) with ⟨j, hj, rfl⟩ | h1 | h1
      · exact ⟨i, j, hi, hj, fun e => h.2.2 (by rw [e]), rfl, rfl⟩
      · exact absurd h.2.1.1 (i32_nle.mpr h1)
      · exact absurd h.2.1.2 (i32_nlt.mpr h1)
    · exact absurd h.1.1 (i32_nle.mpr h1)
    · exact absurd h.1.2 (i32_nlt.mpr h1)
  · right; rw [if_neg h]
theorem E_owed {a b : Nat} (ha : a < 7) (hb : b < 7) : Twn_owed (nI a) (nI b) debts = some (debts (7 * a + b)) := by
  unfold Twn_owed
  rw [ix_owed, rdA_nI (by omega) (by omega)]
theorem E_setDebt {a b : Nat} (ha : a < 7) (hb : b < 7) (v : Int32) : Twn_setDebt (nI a) (nI b) v debts = some (upd debts (7 * a + b) v) := by
  unfold Twn_setDebt
  rw [ix_owed, wrA_nI (by omega) (by omega)]
def dueV (kind father debts : Nat → Int32) (a b : Nat) : Int32 := if kind a = 4 then debts (7 * a + b) + debts (7 * (father a).toNatClampNeg + b) else debts (7 * a + b)
def mustV (law : Int32) (kind father debts : Nat → Int32) (a b : Nat) : Int32 := if kind b = 3 then 1 else if kind b = 2 then 0 else if law = 0 then (if dueV kind father debts a b ≤ 0 then 0 else 1) else (if dueV kind father debts a b ≤ dueV kind father debts b a then 0 else 1)
/-- fathers are people: what dueOf needs -/
def FatOk (N : Nat) (kind father : Nat → Int32) : Prop := ∀ p, p < N → kind p = 4 → ∃ f, f < N ∧ f ≠ p ∧ father p = nI f
theorem RT.fok (h : RT N people law counters kind father comes wants cost coins debts st q) : FatOk N kind father := fun p hp hk => by
  obtain ⟨f, h1, h2, h3, -⟩ := h.fat p hp hk
  exact ⟨f, h1, h2, h3⟩
theorem E_dueT (hN : N ≤ 7) (hF : FatOk N kind father) {a b : Nat} (ha : a < N) (hb : b < N) : Twn_dueOf (nI a) (nI b) kind father debts = some (dueV kind father debts a b) := by
  unfold Twn_dueOf dueV
  rw [ix_owed, rdA_nI (by omega) (by omega), rdA_nI (by omega) (by omega)]
  by_cases hk : kind a = 4
  · obtain ⟨f, hf, -, he⟩ := hF a ha hk
    rw [if_pos hk, if_pos hk, rdA_nI (by omega) (by omega), he, ix_owed, rdA_nI (by omega) (by omega), nI_clamp (by omega)]
  · rw [if_neg hk, if_neg hk]
theorem E_dueM (h : RT N people law counters kind father comes wants cost coins debts st q) (hq : q ≤ 376) {a b : Nat} (ha : a < N) (hb : b < N) : Mod_due (nI q) (nI a) (nI b) st = some (dueV kind father debts a b) := by
  have hN := h.N7
  have e1 := h.deb (7 * a + b) (by omega)
  have e2 := (h.cel a ha).1
  have e3 : ∀ x y : Nat, q + (42 + 7 * x + y) = q + 42 + (7 * x + y) := fun x y => by omega
  unfold Mod_due dueV Mod_debtAt
  simp only [Option.bind_some, nL6, nL5, pk_mul, nI_add, ix_debt]
  rw [rdA_nI (by omega) (by omega), rdA_nI (by omega) (by omega), rdA_nI (by omega) (by omega), e3, e1, e2]
  by_cases hk : kind a = 4
  · obtain ⟨f, hf, hne, he, hs⟩ := h.fat a ha hk
    rw [if_pos hk, if_pos hk, hs, he, nI_clamp (by omega)]
    by_cases hfb : f = b
    · subst hfb
      rw [if_pos rfl, h.dia f (by omega)]
    · rw [if_neg (fun hc => hfb ((nI_eq (by omega) (by omega)).mp hc)), ix_debt, nI_add, rdA_nI (by omega) (by omega), e3, h.deb (7 * f + b) (by omega)]
  · rw [if_neg hk, if_neg hk, i32_add0]
theorem E_mustT (hN : N ≤ 7) (hF : FatOk N kind father) {a b : Nat} (ha : a < N) (hb : b < N) : Twn_mustLet (nI a) (nI b) law kind father debts = some (mustV law kind father debts a b) := by
  unfold Twn_mustLet mustV
  rw [rdA_nI (by omega) (by omega)]
  by_cases h3 : kind b = 3
  · rw [if_pos h3, if_pos h3]
  · rw [if_neg h3, if_neg h3, rdA_nI (by omega) (by omega)]
    by_cases h2 : kind b = 2
    · rw [if_pos h2, if_pos h2]
    · rw [if_neg h2, if_neg h2, E_dueT hN hF ha hb]
      simp only [Option.bind_some]
      by_cases h1 : law = 0
      · rw [if_pos h1, if_pos h1]
        by_cases h4 : dueV kind father debts a b ≤ 0
        · rw [if_pos h4, if_pos h4]
        · rw [if_neg h4, if_neg h4]
      · rw [if_neg h1, if_neg h1, E_dueT hN hF hb ha]
        simp only [Option.bind_some]
        by_cases h4 : dueV kind father debts a b ≤ dueV kind father debts b a
        · rw [if_pos h4, if_pos h4]
        · rw [if_neg h4, if_neg h4]
theorem E_mustM (h : RT N people law counters kind father comes wants cost coins debts st q) (hq : q ≤ 376) {a b : Nat} (ha : a < N) (hb : b < N) : Mod_mustLet (nI q) (nI a) (nI b) st = some (mustV law kind father debts a b) := by
  have hN := h.N7
  have e2 := (h.cel b hb).1
  unfold Mod_mustLet mustV
  simp only [nL6, pk_mul, nI_add]
  rw [rdA_nI (by omega) (by omega), E_dueM h hq ha hb, e2]
  simp only [Option.bind_some]
  by_cases h3 : kind b = 3
  · rw [if_pos h3, if_pos h3]
  · rw [if_neg h3, if_neg h3]
    by_cases h2 : kind b = 2
    · rw [if_pos h2, if_pos h2]
    · rw [if_neg h2, if_neg h2, nL91, nI_add, rdA_nI (by omega) (by omega), h.lw]
      by_cases h1 : law = 0
      · rw [if_pos h1, if_pos h1]
        by_cases h4 : dueV kind father debts a b ≤ 0
        · rw [if_pos h4, if_pos h4]
        · rw [if_neg h4, if_neg h4]
      · rw [if_neg h1, if_neg h1, E_dueM h hq hb ha]
        simp only [Option.bind_some]
        by_cases h4 : dueV kind father debts a b ≤ dueV kind father debts b a
        · rw [if_pos h4, if_pos h4]
        · rw [if_neg h4, if_neg h4]
/-- whether a rather pays b -/
abbrev rpays (kind coins debts : Nat → Int32) (a b : Nat) : Prop := kind a = 1 ∧ ¬ kind b = 3 ∧ 0 < debts (7 * a + b) ∧ debts (7 * a + b) ≤ coins a
theorem E_rathT {a b : Nat} (ha : a < 7) (hb : b < 7) : Twn_ratherPays (nI a) (nI b) kind coins debts = some (if rpays kind coins debts a b then 1 else 0) := by
  unfold Twn_ratherPays
  rw [E_owed ha hb]
  simp only [Option.bind_some]
  rw [rdA_nI (by omega) (by omega)]
  by_cases h1 : kind a = 1
  · rw [if_pos h1, rdA_nI (by omega) (by omega)]
    by_cases h3 : kind b = 3
    · rw [if_pos h3, if_neg (fun hc => hc.2.1 h3)]
    · rw [if_neg h3]
      by_cases h4 : debts (7 * a + b) ≤ 0
      · rw [if_pos h4, if_neg (fun hc => i32_nle.mpr hc.2.2.1 h4)]
      · rw [if_neg h4, rdA_nI (by omega) (by omega)]
        by_cases h5 : coins a < debts (7 * a + b)
        · rw [if_pos h5, if_neg (fun hc => i32_nlt.mpr hc.2.2.2 h5)]
        · rw [if_neg h5, if_pos ⟨h1, h3, i32_nle.mp h4, i32_nlt.mp h5⟩]
  · rw [if_neg h1, if_neg (fun hc => h1 hc.1)]
def payC (coins debts : Nat → Int32) (a b : Nat) : Nat → Int32 := upd (upd coins a (coins a - debts (7 * a + b))) b (upd coins a (coins a - debts (7 * a + b)) b + debts (7 * a + b))
theorem E_payOff {a b : Nat} (ha : a < 7) (hb : b < 7) : Twn_payOff (nI a) (nI b) coins debts = some (debts (7 * a + b), payC coins debts a b, upd debts (7 * a + b) 0) := by
  unfold Twn_payOff payC
  rw [E_owed ha hb]
  simp only [Option.bind_some]
  rw [rdA_nI (by omega) (by omega), wrA_nI (by omega) (by omega), rdA_nI (by omega) (by omega), wrA_nI (by omega) (by omega), E_setDebt ha hb]
  rfl
def giveM (st : Nat → Int32) (q a b : Nat) (v : Int32) : Nat → Int32 := upd (upd st (q + 6 * a + 4) (st (q + 6 * a + 4) - v)) (q + 6 * b + 4) (upd st (q + 6 * a + 4) (st (q + 6 * a + 4) - v) (q + 6 * b + 4) + v)
theorem E_gives {a b : Nat} (ha : a < 7) (hb : b < 7) (hq : q ≤ 376) (v : Int32) : Mod_gives (nI q) (nI a) (nI b) v st = some (giveM st q a b v) := by
  unfold Mod_gives giveM nmI
  simp only [nL6, nL4, pk_mul, nI_add]
  rw [rdA_nI (by omega) (by omega), wrA_nI (by omega) (by omega), rdA_nI (by omega) (by omega), wrA_nI (by omega) (by omega)]
def payM (st : Nat → Int32) (q a b : Nat) : Nat → Int32 := upd (giveM st q a b (st (q + (42 + 7 * a + b)))) (q + (42 + 7 * a + b)) 0
theorem E_paysAll {a b : Nat} (ha : a < 7) (hb : b < 7) (hq : q ≤ 376) : Mod_paysAll (nI q) (nI a) (nI b) st = some (st (q + (42 + 7 * a + b)), payM st q a b) := by
  unfold Mod_paysAll Mod_debtAt payM
  simp only [Option.bind_some, ix_debt, nI_add]
  rw [rdA_nI (by omega) (by omega), E_gives ha hb hq]
  simp only [Option.bind_some]
  rw [wrA_nI (by omega) (by omega)]
end RTS
