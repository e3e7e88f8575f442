/-! copies of towns and of pages -/
section CPY
variable {N q : Nat} {people law counters : Int32} {kind father comes wants cost coins debts st : Nat → Int32}
theorem RT.pages (h : RT N people law counters kind father comes wants cost coins debts st q) {st' : Nat → Int32} {q' : Nat} (he : ∀ k, k < 94 → st' (q' + k) = st (q + k)) : RT N people law counters kind father comes wants cost coins debts st' q' := by
  have hN := h.N7
  have e : ∀ k, k < 94 → ∀ x, st (q + k) = x → st' (q' + k) = x := fun k hk x hx => by rw [he k hk]; exact hx
  obtain ⟨c, hc, hc1, hc2⟩ := h.ctr
  refine ⟨hN, h.ppl, e 93 (by omega) _ h.many, e 91 (by omega) _ h.lw, h.lw01, ⟨c, hc, hc1, e 92 (by omega) _ hc2⟩, fun p hp => ?_, fun p hp hk => ?_, fun p hp hk => ?_, h.rng, fun k hk => ?_, h.dia⟩
  · obtain ⟨e0, e1, e2, e3, e4⟩ := h.cel p hp
    rw [Nat.add_assoc] at e1 e2 e3 e4
    refine ⟨e _ (by omega) _ e0, ?_, ?_, ?_, ?_⟩
    · rw [Nat.add_assoc]; exact e _ (by omega) _ e1
    · rw [Nat.add_assoc]; exact e _ (by omega) _ e2
    · rw [Nat.add_assoc]; exact e _ (by omega) _ e3
    · rw [Nat.add_assoc]; exact e _ (by omega) _ e4
  · obtain ⟨f, h1, h2, h3, h4⟩ := h.fat p hp hk
    rw [Nat.add_assoc] at h4
    exact ⟨f, h1, h2, h3, by rw [Nat.add_assoc]; exact e _ (by omega) _ h4⟩
  · have h4 := h.nfa p hp hk
    rw [Nat.add_assoc] at h4 ⊢
    exact e _ (by omega) _ h4
  · have h4 := h.deb k hk
    rw [Nat.add_assoc] at h4 ⊢
    exact e _ (by omega) _ h4
theorem RT.funs (h : RT N people law counters kind father comes wants cost coins debts st q) {kind' father' comes' wants' cost' coins' debts' : Nat → Int32} (h1 : ∀ p, p < 7 → kind' p = kind p) (h2 : ∀ p, p < 7 → father' p = father p) (h3 : ∀ p, p < 7 → comes' p = comes p) (h4 : ∀ p, p < 7 → wants' p = wants p) (h5 : ∀ p, p < 7 → cost' p = cost p) (h6 : ∀ p, p < 7 → coins' p = coins p) (h7 : ∀ k, k < 49 → debts' k = debts k) : RT N people law counters kind' father' comes' wants' cost' coins' debts' st q := by
  have hN := h.N7
  refine ⟨hN, h.ppl, h.many, h.lw, h.lw01, h.ctr, fun p hp => ?_, fun p hp hk => ?_, fun p hp hk => ?_, fun p hp => ?_, fun k hk => ?_, fun a ha => ?_⟩
  · rw [h1 p (by omega), h3 p (by omega), h4 p (by omega), h5 p (by omega), h6 p (by omega)]
    exact h.cel p hp
  · rw [h1 p (by omega)] at hk
    rw [h2 p (by omega)]
    exact h.fat p hp hk
  · rw [h1 p (by omega)] at hk
    exact h.nfa p hp hk
  · rw [h3 p (by omega), h4 p (by omega), h5 p (by omega)]
    exact h.rng p hp
  · rw [h7 k hk]; exact h.deb k hk
  · rw [h7 _ (by omega)]; exact h.dia a ha
theorem cpy_in {f g : Nat → Int32} {n j : Nat} (h : j < n) : va_cpy f g 0 0 n j = f j := by
  rw [pk_cpy_in (Nat.zero_le j) (by omega)]
  congr 1
  omega
theorem RT.load (h : RT N people law counters kind father comes wants cost coins debts st q) (k1 k2 k3 k4 k5 k6 k7 : Nat → Int32) : RT N people law counters (va_cpy kind k1 0 0 7) (va_cpy father k2 0 0 7) (va_cpy comes k3 0 0 7) (va_cpy wants k4 0 0 7) (va_cpy cost k5 0 0 7) (va_cpy coins k6 0 0 7) (va_cpy debts k7 0 0 49) st q :=
  h.funs (fun _ h => cpy_in h) (fun _ h => cpy_in h) (fun _ h => cpy_in h) (fun _ h => cpy_in h) (fun _ h => cpy_in h) (fun _ h => cpy_in h) (fun _ h => cpy_in h)
/-- a page over another -/
def cpp (st : Nat → Int32) (a b n : Nat) : Nat → Int32 := fun j => if b ≤ j ∧ j < b + n then st (a + (j - b)) else st j
theorem cpp_0 (st : Nat → Int32) (a b : Nat) : cpp st a b 0 = st := by
  funext j
  unfold cpp
  rw [if_neg (by omega)]
theorem cpp_in {st : Nat → Int32} {a b n k : Nat} (h : k < n) : cpp st a b n (b + k) = st (a + k) := by
  unfold cpp
  rw [if_pos (by omega)]
  congr 1
  omega
theorem cpp_out {st : Nat → Int32} {a b n j : Nat} (h : j < b ∨ b + n ≤ j) : cpp st a b n j = st j := by
  unfold cpp
  rw [if_neg (by omega)]
theorem cpp_s {st : Nat → Int32} {a b n : Nat} (h : a + 94 ≤ b ∨ b + 94 ≤ a) (hn : n < 94) : upd (cpp st a b n) (b + n) (cpp st a b n (a + n)) = cpp st a b (n + 1) := by
  rw [cpp_out (by omega)]
  funext j
  by_cases e : j = b + n
  · subst e
    rw [upd_s, cpp_in (by omega)]
  · rw [upd_n e]
    unfold cpp
    by_cases e2 : b ≤ j ∧ j < b + n
    · rw [if_pos e2, if_pos (by omega)]
    · rw [if_neg e2, if_neg (by omega)]
theorem copies_L {a b : Nat} (h : a + 94 ≤ b ∨ b + 94 ≤ a) (ha : a ≤ 376) (hb : b ≤ 376) (st : Nat → Int32) (K : (Nat → Int32) → Option (Nat → Int32)) : ∀ (d i n : Nat), i + d = 94 → d < n → Mod_copies_L2 (nI a) (nI b) K n (nI i) (cpp st a b i) = K (cpp st a b 94) := by
  intro d
  induction d with
  | zero =>
    intro i n h1 h2
    obtain ⟨n, rfl⟩ : ∃ k, n = k + 1 := ⟨n - 1, by omega⟩
    rw [Mod_copies_L2, if_pos (show (94 : Int32) ≤ nI i from nI_le (a := 94) (by omega) (by omega)), show i = 94 by omega]
  | succ d ih =>
    intro i n h1 h2
    obtain ⟨n, rfl⟩ : ∃ k, n = k + 1 := ⟨n - 1, by omega⟩
    rw [Mod_copies_L2, if_neg (show ¬ (94 : Int32) ≤ nI i from nI_ge (b := 94) (by omega) (by omega)), nI_add, nI_add, rdA_nI (by omega) (by omega), wrA_nI (by omega) (by omega), cpp_s h (by omega)]
    simp only [nmI, nI_a1]
    exact ih (i + 1) n (by omega) (by omega)
theorem E_copies {a b : Nat} (h : a + 94 ≤ b ∨ b + 94 ≤ a) (ha : a ≤ 376) (hb : b ≤ 376) (st : Nat → Int32) : Mod_copies (nI a) (nI b) st = some (cpp st a b 94) := by
  unfold Mod_copies
  have := copies_L h ha hb st (fun x => some x) 94 0 FU (by omega) (by unfold FU; omega)
  rw [cpp_0] at this
  exact this
theorem RT.copied (h : RT N people law counters kind father comes wants cost coins debts st q) (b : Nat) : RT N people law counters kind father comes wants cost coins debts (cpp st q b 94) b := h.pages (fun _ hk => cpp_in hk)
theorem E_copyOf (k1 k2 k3 k4 k5 k6 k7 : Nat → Int32) : Twn_copyOf k1 k2 k3 k4 k5 k6 k7 people law counters kind father comes wants cost coins debts = some (people, law, counters, va_cpy kind k1 0 0 7, va_cpy father k2 0 0 7, va_cpy comes k3 0 0 7, va_cpy wants k4 0 0 7, va_cpy cost k5 0 0 7, va_cpy coins k6 0 0 7, va_cpy debts k7 0 0 49) := rfl
theorem E_load (k1 k2 k3 k4 k5 k6 k7 fr : Nat → Int32) : Run_load k1 k2 k3 k4 k5 k6 k7 fr people law counters kind father comes wants cost coins debts = some (0, people, law, counters, va_cpy kind k1 0 0 7, va_cpy father k2 0 0 7, va_cpy comes k3 0 0 7, va_cpy wants k4 0 0 7, va_cpy cost k5 0 0 7, va_cpy coins k6 0 0 7, va_cpy debts k7 0 0 49, 0, upd (upd fr 0 0) 1 0) := by
  unfold Run_load
  rw [E_copyOf]
  simp only [Option.bind_some]
  rw [nL0, nL1, wrA_nI (by omega) (by omega), wrA_nI (by omega) (by omega)]
/-- a town loaded into the run beside its page copied to the trial's: the run up to a minute -/
theorem loadrun {last : Nat} (hlast : last ≤ 130) (hR : RT N people law counters kind father comes wants cost coins debts st 0) (k1 k2 k3 k4 k5 k6 k7 fr ones served queue busy servedIn : Nat → Int32) :
    ∃ (L : Nat) (paid : Int32) (coins' debts' ones' served' free' st' queue' busy' servedIn' : Nat → Int32),
      Run_go (nI last) 0 (nI N) law counters (va_cpy kind k1 0 0 7) (va_cpy father k2 0 0 7) (va_cpy comes k3 0 0 7) (va_cpy wants k4 0 0 7) (va_cpy coins k6 0 0 7) (va_cpy debts k7 0 0 49) 0 ones served (upd (upd fr 0 0) 1 0) = some (paid, coins', debts', nI L, ones', served', free') ∧
      Mod_runsTo (nI last) (cpp st 0 282 94) queue busy servedIn = some (nI L, paid, st', queue', busy', servedIn') ∧
      L ≤ N ∧ RT N (nI N) law counters (va_cpy kind k1 0 0 7) (va_cpy father k2 0 0 7) (va_cpy comes k3 0 0 7) (va_cpy wants k4 0 0 7) (va_cpy cost k5 0 0 7) coins' debts' st' 282 ∧ (∀ i, i < L → queue' i = ones' i) ∧ (∀ i, i < L → ∃ j, j < N ∧ ones' i = nI j) ∧ (∀ k, (k < 282 ∨ 376 ≤ k) → st' k = st k) ∧
      (last = 130 → ∀ j, j < N → ∃ v, v ≤ 130 ∧ (comes j).toNatClampNeg ≤ v ∧ served' j = nI v ∧ servedIn' j = nI v) := by
  have hN := hR.N7
  have hp := hR.ppl
  subst hp
  obtain ⟨L, paid, coins', debts', ones', served', free', st', queue', busy', servedIn', r1, r2, r3, r4, r5, r6, r7, r8⟩ := run_sim (N := N) (ones := ones) (served := served) (queue := queue) (busy := busy) (servedIn := servedIn) (free := upd (upd fr 0 0) 1 0) hlast ((hR.copied 282).load k1 k2 k3 k4 k5 k6 k7) (by rw [upd_n (by omega), upd_s]) upd_s
  refine ⟨L, paid, coins', debts', ones', served', free', st', queue', busy', servedIn', r1, r2, r3, r4, r5, r6, fun k hk => by rw [r7 k hk, cpp_out (by omega)], fun hl j hj => ?_⟩
  have := r8 hl j hj
  rw [cpy_in (by omega)] at this
  exact this
end CPY
