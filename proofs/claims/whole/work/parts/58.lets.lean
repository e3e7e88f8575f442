/-! ORDERS: whom each must let in, as sets -/
theorem bt_nI {s i : Nat} (hi : i < 32) : bt (nI s) i = s.testBit i := by
  show (BitVec.ofNat 32 s).getLsbD i = s.testBit i
  rw [BitVec.getLsbD_ofNat]
  simp [hi]
theorem sb_and : ∀ a, a < 128 → ∀ s, s < 128 → ((nI a &&& (nI s ^^^ (-1)) = 0) ↔ a &&& s = a) := by decide +kernel
def cfB (A : Nat → Nat) (p s : Nat) : Bool := !s.testBit p && (A p &&& s == A p)
theorem E_canF {A : Nat → Nat} {lets : Nat → Int32} {p s : Nat} (hp : p < 7) (hA : A p < 128) (hs : s < 128) (hl : lets p = nI (A p)) : Ord_canFollow (nI p) (nI s) lets = some (if cfB A p s = true then 1 else 0) := by
  unfold Ord_canFollow cfB
  rw [rdA_nI hp (by omega), hl]
  by_cases h : s.testBit p = true
  · rw [if_neg (fun hh => by rw [b_tst0 (by omega), bt_nI (by omega), h] at hh; cases hh), if_neg (by rw [h]; simp)]
  · have h0 : s.testBit p = false := by cases hh : s.testBit p <;> simp_all
    rw [if_pos ((b_tst0 (by omega)).mpr (by rw [bt_nI (by omega)]; exact h0))]
    by_cases g : A p &&& s = A p
    · rw [if_pos ((sb_and _ hA _ hs).mpr g), if_pos (by rw [h0, g]; simp)]
    · rw [if_neg (fun hh => g ((sb_and _ hA _ hs).mp hh)), if_neg (by rw [h0]; simp [g])]
theorem E_canM {A : Nat → Nat} {lets : Nat → Int32} {p s : Nat} (hp : p < 7) (hA : A p < 128) (hs : s < 128) (hl : lets p = nI (A p)) : Mod_canNext (nI p) (nI s) lets = some (if cfB A p s = true then 1 else 0) := E_canF hp hA hs hl
def aS (M : Nat → Nat → Int32) (a : Nat) : Nat → Nat
  | 0 => 0
  | b + 1 => if b = a ∨ M a b = 0 then aS M a b else aS M a b ||| 2 ^ b
theorem aS_lt (M : Nat → Nat → Int32) (a : Nat) : ∀ n, aS M a n < 2 ^ n := by
  intro n
  induction n with
  | zero => exact Nat.one_pos
  | succ n ih =>
    have hp2 : 2 ^ (n + 1) = 2 * 2 ^ n := by rw [Nat.pow_succ]; omega
    unfold aS
    by_cases h : n = a ∨ M a n = 0
    · rw [if_pos h]; omega
    · rw [if_neg h]
      exact Nat.or_lt_two_pow (by omega) (by omega)
theorem p128 {N : Nat} (hN : N ≤ 7) : 2 ^ N ≤ 128 := by
  have := Nat.pow_le_pow_right (show 0 < 2 by omega) hN
  omega
section LETS
variable {N : Nat} {people law counters : Int32} {kind father comes wants cost coins debts st : Nat → Int32}
theorem ask_in (hN : N ≤ 7) (hF : FatOk N kind father) {a : Nat} (ha : a < N) (K : (Nat → Int32) → Option (Int32 × (Nat → Int32))) : ∀ (d b n : Nat) (lets : Nat → Int32), b + d = N → d < n → lets a = nI (aS (mustV law kind father debts) a b) →
    ∃ lets', Ord_ask_L27 (nI N) law kind father debts (nI a) K n (nI b) lets = K lets' ∧ lets' a = nI (aS (mustV law kind father debts) a N) ∧ ∀ j, j ≠ a → lets' j = lets j := by
  intro d
  induction d with
  | zero =>
    intro b n lets hb hn hl
    obtain ⟨n, rfl⟩ : ∃ k, n = k + 1 := ⟨n - 1, by omega⟩
    obtain rfl : b = N := by omega
    exact ⟨lets, by rw [Ord_ask_L27, if_pos (nI_le (by omega) (by omega))], hl, fun _ _ => rfl⟩
  | succ d ih =>
    intro b n lets hb hn hl
    obtain ⟨n, rfl⟩ : ∃ k, n = k + 1 := ⟨n - 1, by omega⟩
    rw [Ord_ask_L27, if_neg (nI_ge (by omega) (by omega))]
    simp only [nmI, nI_a1]
    by_cases hab : a = b
    · rw [if_pos (by rw [hab])]
      exact ih (b + 1) n lets (by omega) (by omega) (by rw [hl, aS, if_pos (Or.inl hab.symm)])
    · rw [if_neg (fun hh => hab ((nI_eq (by omega) (by omega)).mp hh)), E_mustT hN hF ha (by omega)]
      simp only [bindS]
      by_cases hm : mustV law kind father debts a b = 0
      · rw [if_pos hm]
        exact ih (b + 1) n lets (by omega) (by omega) (by rw [hl, aS, if_pos (Or.inr hm)])
      · rw [if_neg hm, rdA_nI (by omega) (by omega), wrA_nI (by omega) (by omega), hl, one_sh b (by omega), nx_or]
        obtain ⟨l', e1, e2, e3⟩ := ih (b + 1) n (upd lets a (nI (aS (mustV law kind father debts) a b ||| 2 ^ b))) (by omega) (by omega) (by rw [upd_s, aS, if_neg (fun hh => hh.elim (fun e => hab e.symm) hm)])
        exact ⟨l', e1, e2, fun j hj => by rw [e3 j hj, upd_n hj]⟩
theorem ask_out (hN : N ≤ 7) (hF : FatOk N kind father) (K : (Nat → Int32) → Option (Int32 × (Nat → Int32))) : ∀ (d a n : Nat) (lets : Nat → Int32), a + d = N → d < n → (∀ j, j < a → lets j = nI (aS (mustV law kind father debts) j N)) →
    ∃ lets', Ord_ask_L10 (nI N) law kind father debts K n (nI a) lets = K lets' ∧ ∀ j, j < N → lets' j = nI (aS (mustV law kind father debts) j N) := by
  intro d
  induction d with
  | zero =>
    intro a n lets hb hn hl
    obtain ⟨n, rfl⟩ : ∃ k, n = k + 1 := ⟨n - 1, by omega⟩
    obtain rfl : a = N := by omega
    exact ⟨lets, by rw [Ord_ask_L10, if_pos (nI_le (by omega) (by omega))], hl⟩
  | succ d ih =>
    intro a n lets hb hn hl
    obtain ⟨n, rfl⟩ : ∃ k, n = k + 1 := ⟨n - 1, by omega⟩
    rw [Ord_ask_L10, if_neg (nI_ge (by omega) (by omega)), wrA_nI (by omega) (by omega)]
    obtain ⟨l1, e1, e2, e3⟩ := ask_in (law := law) (debts := debts) hN hF (show a < N by omega) (fun t => nmI (nI a + 1) (fun x2 => Ord_ask_L10 (nI N) law kind father debts K n x2 t)) N 0 FU (upd lets a 0) (by omega) (by unfold FU; omega) (by rw [upd_s]; rfl)
    obtain ⟨l2, g1, g2⟩ := ih (a + 1) n l1 (by omega) (by omega) (fun j hj => by
      by_cases e : j = a
      · rw [e]; exact e2
      · rw [e3 j e, upd_n e]; exact hl j (by omega))
    refine ⟨l2, Eq.trans e1 ?_, g2⟩
    simp only [nmI, nI_a1]
    exact g1
theorem E_ask (hN : N ≤ 7) (hF : FatOk N kind father) (lets : Nat → Int32) : ∃ lets', Ord_ask lets (nI N) law kind father debts = some (nI N, lets') ∧ ∀ j, j < N → lets' j = nI (aS (mustV law kind father debts) j N) := by
  obtain ⟨l, e1, e2⟩ := ask_out (law := law) (debts := debts) hN hF (fun t => some (nI N, t)) N 0 FU lets (by omega) (by unfold FU; omega) (fun j hj => by omega)
  exact ⟨l, e1, e2⟩
theorem letsM_L (hR : RT N people law counters kind father comes wants cost coins debts st 0) {a : Nat} (ha : a < N) : ∀ (d b n : Nat), b + d = N → d < n → Mod_letsIn_L4 st (nI a) (fun x => some x) n (nI (aS (mustV law kind father debts) a b)) (nI b) = some (nI (aS (mustV law kind father debts) a N)) := by
  have hN := hR.N7
  have hm : st 93 = nI N := hR.many
  intro d
  induction d with
  | zero =>
    intro b n hb hn
    obtain ⟨n, rfl⟩ : ∃ k, n = k + 1 := ⟨n - 1, by omega⟩
    obtain rfl : b = N := by omega
    rw [Mod_letsIn_L4, E_manyM hm]
    simp only [bindS]
    rw [if_pos (nI_le (by omega) (by omega))]
  | succ d ih =>
    intro b n hb hn
    obtain ⟨n, rfl⟩ : ∃ k, n = k + 1 := ⟨n - 1, by omega⟩
    have e0 : ∀ X : Nat, nI X ||| 0 = nI X := fun X => by rw [nL0, nx_or, Nat.or_zero]
    rw [Mod_letsIn_L4, E_manyM hm]
    simp only [bindS]
    rw [if_neg (nI_ge (by omega) (by omega))]
    have em := E_mustM hR (by omega) (a := a) (b := b) ha (by omega)
    rw [show nI 0 = (0 : Int32) from rfl] at em
    rw [em]
    simp only [bindS, jn, nmI, nI_a1, e0]
    have hih := ih (b + 1) n (by omega) (by omega)
    by_cases hab : b = a
    · rw [if_pos (by rw [hab])]
      rw [aS, if_pos (Or.inl hab)] at hih
      exact hih
    · rw [if_neg (fun hh => hab ((nI_eq (by omega) (by omega)).mp hh))]
      by_cases hm : mustV law kind father debts a b = 0
      · rw [if_pos hm]
        rw [aS, if_pos (Or.inr hm)] at hih
        exact hih
      · rw [if_neg hm, one_sh b (by omega), nx_or]
        rw [aS, if_neg (fun hh => hh.elim hab hm)] at hih
        exact hih
theorem E_letsM (hR : RT N people law counters kind father comes wants cost coins debts st 0) {a : Nat} (ha : a < N) : Mod_letsIn (nI a) st = some (nI (aS (mustV law kind father debts) a N)) := by
  have hN := hR.N7
  exact letsM_L hR ha N 0 FU (by omega) (by unfold FU; omega)
theorem layA (hR : RT N people law counters kind father comes wants cost coins debts st 0) (K : (Nat → Int32) → Option ((Nat → Int32) × (Nat → Int32) × (Nat → Int32))) : ∀ (d a n : Nat) (ah : Nat → Int32), a + d = N → d < n → (∀ j, j < a → ah j = nI (aS (mustV law kind father debts) j N)) →
    ∃ ah', Mod_layOrders_L11 st K n (nI a) ah = K ah' ∧ ∀ j, j < N → ah' j = nI (aS (mustV law kind father debts) j N) := by
  have hN := hR.N7
  have hm : st 93 = nI N := hR.many
  intro d
  induction d with
  | zero =>
    intro a n ah hb hn hl
    obtain ⟨n, rfl⟩ : ∃ k, n = k + 1 := ⟨n - 1, by omega⟩
    obtain rfl : a = N := by omega
    refine ⟨ah, ?_, hl⟩
    rw [Mod_layOrders_L11, E_manyM hm]
    simp only [bindS]
    rw [if_pos (nI_le (by omega) (by omega))]
  | succ d ih =>
    intro a n ah hb hn hl
    obtain ⟨n, rfl⟩ : ∃ k, n = k + 1 := ⟨n - 1, by omega⟩
    rw [Mod_layOrders_L11, E_manyM hm]
    simp only [bindS]
    rw [if_neg (nI_ge (by omega) (by omega)), E_letsM hR (by omega)]
    simp only [bindS, nmI, nI_a1]
    rw [wrA_nI (by omega) (by omega)]
    exact ih (a + 1) n _ (by omega) (by omega) (fun j hj => by
      by_cases e : j = a
      · rw [e, upd_s]
      · rw [upd_n e]; exact hl j (by omega))
end LETS
