/-! IMAGES: keep, back; end, fault, torn, count -/
/-- IMAGE k beside its page; nothing is said of one that isn't kept -/
def RIm (N B : Nat) (k : Nat) (people law counters : Int32) (kind father comes wants cost coins debts kept st isKept : Nat → Int32) : Prop :=
  (kept k = 0 ∧ isKept k = 0) ∨ (kept k = 1 ∧ isKept k = 1 ∧ RT N people law counters kind father comes wants cost coins debts st (94 * (k + 1)) ∧ TOK N B coins debts)
section IMG
variable {N B : Nat} {people law counters : Int32} {kind father comes wants cost coins debts st kept isKept : Nat → Int32}
theorem TOK.load (h : TOK N B coins debts) (hN : N ≤ 7) (k6 k7 : Nat → Int32) : TOK N B (va_cpy coins k6 0 0 7) (va_cpy debts k7 0 0 49) := ⟨fun p hp => by rw [cpy_in (by omega)]; exact h.1 p hp, fun k hk => by rw [cpy_in hk]; exact h.2 k hk⟩
theorem RIm.mono {k B' : Nat} (h : RIm N B k people law counters kind father comes wants cost coins debts kept st isKept) (hB : B ≤ B') : RIm N B' k people law counters kind father comes wants cost coins debts kept st isKept := by
  rcases h with h | ⟨h1, h2, h3, h4⟩
  · exact Or.inl h
  · exact Or.inr ⟨h1, h2, h3, h4.mono hB⟩
theorem RIm.pages {k : Nat} (h : RIm N B k people law counters kind father comes wants cost coins debts kept st isKept) {st' : Nat → Int32} (hs : ∀ j, 94 * (k + 1) ≤ j → j < 94 * (k + 2) → st' j = st j) : RIm N B k people law counters kind father comes wants cost coins debts kept st' isKept := by
  rcases h with h | ⟨h1, h2, h3, h4⟩
  · exact Or.inl h
  · exact Or.inr ⟨h1, h2, h3.pages (fun j hj => hs _ (by omega) (by omega)), h4⟩
theorem RIm.bits {k : Nat} (h : RIm N B k people law counters kind father comes wants cost coins debts kept st isKept) {kept' isKept' : Nat → Int32} (h1 : kept' k = kept k) (h2 : isKept' k = isKept k) : RIm N B k people law counters kind father comes wants cost coins debts kept' st isKept' := by
  unfold RIm at h ⊢
  rw [h1, h2]
  exact h
theorem nar1 : vp_nar .boolean 1 = 1 := by decide
end IMG
section IMG2
variable {N B : Nat} {people law counters : Int32} {kind father comes wants cost coins debts st kept isKept : Nat → Int32} {p0 l0 c0 p1 l1 c1 : Int32} {a1 a2 a3 a4 a5 a6 a7 b1 b2 b3 b4 b5 b6 b7 : Nat → Int32}
theorem P_keep (hR : RT N people law counters kind father comes wants cost coins debts st 0) (hT : TOK N B coins debts) (h0 : RIm N B 0 p0 l0 c0 a1 a2 a3 a4 a5 a6 a7 kept st isKept) (h1 : RIm N B 1 p1 l1 c1 b1 b2 b3 b4 b5 b6 b7 kept st isKept) (k : Int32) :
    ∃ o1 o2, Let_keep k people law counters kind father comes wants cost coins debts p0 l0 c0 a1 a2 a3 a4 a5 a6 a7 p1 l1 c1 b1 b2 b3 b4 b5 b6 b7 kept = some o1 ∧ Mod_keep k st isKept = some o2 ∧ o1.1 = o2.1 ∧ (∀ j, j < 94 → o2.2.1 j = st j) ∧
      RIm N B 0 o1.2.1 o1.2.2.1 o1.2.2.2.1 o1.2.2.2.2.1 o1.2.2.2.2.2.1 o1.2.2.2.2.2.2.1 o1.2.2.2.2.2.2.2.1 o1.2.2.2.2.2.2.2.2.1 o1.2.2.2.2.2.2.2.2.2.1 o1.2.2.2.2.2.2.2.2.2.2.1 o1.2.2.2.2.2.2.2.2.2.2.2.2.2.2.2.2.2.2.2.2.2 o2.2.1 o2.2.2 ∧
      RIm N B 1 o1.2.2.2.2.2.2.2.2.2.2.2.1 o1.2.2.2.2.2.2.2.2.2.2.2.2.1 o1.2.2.2.2.2.2.2.2.2.2.2.2.2.1 o1.2.2.2.2.2.2.2.2.2.2.2.2.2.2.1 o1.2.2.2.2.2.2.2.2.2.2.2.2.2.2.2.1 o1.2.2.2.2.2.2.2.2.2.2.2.2.2.2.2.2.1 o1.2.2.2.2.2.2.2.2.2.2.2.2.2.2.2.2.2.1 o1.2.2.2.2.2.2.2.2.2.2.2.2.2.2.2.2.2.2.1 o1.2.2.2.2.2.2.2.2.2.2.2.2.2.2.2.2.2.2.2.1 o1.2.2.2.2.2.2.2.2.2.2.2.2.2.2.2.2.2.2.2.2.1 o1.2.2.2.2.2.2.2.2.2.2.2.2.2.2.2.2.2.2.2.2.2 o2.2.1 o2.2.2 := by
  have hN := hR.N7
  unfold Let_keep Mod_keep
  rw [E_in32c k (lo := 0) (hi := 1) (a := 0) (b := 1) rfl rfl, nar1]
  simp only [bindS, jn]
  rcases rng_cases (t := k) (hi := 1) (n := 1) rfl (by omega) with ⟨f1, f2, m, hm, rfl⟩ | f
  · simp only [eq_true (show 0 ≤ nI m ∧ nI m ≤ 1 from ⟨f1, f2⟩), if_true, i10, if_false]
    simp only [eq_false (i32_nlt.mpr f1), if_false, eq_true (show nI m < 2 from nI_lt (b := 2) (by omega) (by omega)), if_true]
    rw [show (94 : Int32) * (nI m + 1) = nI (94 * (m + 1)) by rw [nI_a1, show (94 : Int32) = nI 94 from rfl, pk_mul], show (0 : Int32) = nI 0 from rfl, E_copies (a := 0) (b := 94 * (m + 1)) (by omega) (by omega) (by omega)]
    simp only [bindS]
    rw [show nI 0 = (0 : Int32) from rfl]
    rw [rdA_nI (f := kept) (n := 2) (j := m) (by omega) (by omega), rdA_nI (f := isKept) (n := 2) (j := m) (by omega) (by omega)]
    rw [E_copyOf, E_copyOf]
    simp only [bindS]
    rw [wrA_nI (f := isKept) (n := 2) (j := m) (by omega) (by omega)]
    rw [wrA_nI (f := kept) (n := 2) (j := m) (by omega) (by omega)]
    rcases (show m = 0 ∨ m = 1 by omega) with rfl | rfl
    · have hkk : kept 0 = isKept 0 := by rcases h0 with ⟨u, v⟩ | ⟨u, v, -⟩ <;> rw [u, v]
      rw [if_pos (show nI 0 = (0 : Int32) from rfl), hkk]
      have g1 : RIm N B 1 p1 l1 c1 b1 b2 b3 b4 b5 b6 b7 (upd kept 0 1) (cpp st 0 94 94) (upd isKept 0 1) := (h1.pages (fun j q1 q2 => cpp_out (by omega))).bits (upd_n (by omega)) (upd_n (by omega))
      have g0 : RIm N B 0 people law counters (va_cpy kind a1 0 0 7) (va_cpy father a2 0 0 7) (va_cpy comes a3 0 0 7) (va_cpy wants a4 0 0 7) (va_cpy cost a5 0 0 7) (va_cpy coins a6 0 0 7) (va_cpy debts a7 0 0 49) (upd kept 0 1) (cpp st 0 94 94) (upd isKept 0 1) := Or.inr ⟨upd_s, upd_s, (hR.copied 94).load _ _ _ _ _ _ _, hT.load hN _ _⟩
      by_cases hz : isKept 0 = 0
      · rw [if_pos hz, if_pos hz]
        exact ⟨_, _, rfl, rfl, rfl, fun j hj => cpp_out (by omega), g0, g1⟩
      · rw [if_neg hz, if_neg hz]
        exact ⟨_, _, rfl, rfl, rfl, fun j hj => cpp_out (by omega), g0, g1⟩
    · have hkk : kept 1 = isKept 1 := by rcases h1 with ⟨u, v⟩ | ⟨u, v, -⟩ <;> rw [u, v]
      rw [if_neg (show ¬ nI 1 = (0 : Int32) by decide), if_pos (show nI 1 = (1 : Int32) from rfl), hkk]
      have g0 : RIm N B 0 p0 l0 c0 a1 a2 a3 a4 a5 a6 a7 (upd kept 1 1) (cpp st 0 188 94) (upd isKept 1 1) := (h0.pages (fun j q1 q2 => cpp_out (by omega))).bits (upd_n (by omega)) (upd_n (by omega))
      have g1 : RIm N B 1 people law counters (va_cpy kind b1 0 0 7) (va_cpy father b2 0 0 7) (va_cpy comes b3 0 0 7) (va_cpy wants b4 0 0 7) (va_cpy cost b5 0 0 7) (va_cpy coins b6 0 0 7) (va_cpy debts b7 0 0 49) (upd kept 1 1) (cpp st 0 188 94) (upd isKept 1 1) := Or.inr ⟨upd_s, upd_s, (hR.copied 188).load _ _ _ _ _ _ _, hT.load hN _ _⟩
      by_cases hz : isKept 1 = 0
      · rw [if_pos hz, if_pos hz]
        exact ⟨_, _, rfl, rfl, rfl, fun j hj => cpp_out (by omega), g0, g1⟩
      · rw [if_neg hz, if_neg hz]
        exact ⟨_, _, rfl, rfl, rfl, fun j hj => cpp_out (by omega), g0, g1⟩
  · simp only [eq_false f, if_false, i00, if_true]
    by_cases h : k < 0
    · rw [if_pos h]
      exact ⟨_, _, rfl, rfl, rfl, fun _ _ => rfl, h0, h1⟩
    · rw [if_neg h, if_neg (show ¬ k < 2 from fun hh => f ⟨i32_nlt.mp h, by
        rw [t32_le]
        rw [t32_lt] at hh
        have e1 : (2 : Int32).toInt = 2 := rfl
        have e0 : (1 : Int32).toInt = 1 := rfl
        omega⟩)]
      exact ⟨_, _, rfl, rfl, rfl, fun _ _ => rfl, h0, h1⟩
theorem P_back (hR : RT N people law counters kind father comes wants cost coins debts st 0) (hT : TOK N B coins debts) (h0 : RIm N B 0 p0 l0 c0 a1 a2 a3 a4 a5 a6 a7 kept st isKept) (h1 : RIm N B 1 p1 l1 c1 b1 b2 b3 b4 b5 b6 b7 kept st isKept) (k : Int32) :
    ∃ o1 o2, Let_back k people law counters kind father comes wants cost coins debts p0 l0 c0 a1 a2 a3 a4 a5 a6 a7 p1 l1 c1 b1 b2 b3 b4 b5 b6 b7 kept = some o1 ∧ Mod_back k st isKept = some o2 ∧ o1.1 = o2.1 ∧ frI st o2.2 ∧
      RT N o1.2.1 o1.2.2.1 o1.2.2.2.1 o1.2.2.2.2.1 o1.2.2.2.2.2.1 o1.2.2.2.2.2.2.1 o1.2.2.2.2.2.2.2.1 o1.2.2.2.2.2.2.2.2.1 o1.2.2.2.2.2.2.2.2.2.1 o1.2.2.2.2.2.2.2.2.2.2 o2.2 0 ∧ TOK N B o1.2.2.2.2.2.2.2.2.2.1 o1.2.2.2.2.2.2.2.2.2.2 := by
  have hN := hR.N7
  unfold Let_back Mod_back
  rw [E_in32c k (lo := 0) (hi := 1) (a := 0) (b := 1) rfl rfl]
  simp only [bindS]
  rcases rng_cases (t := k) (hi := 1) (n := 1) rfl (by omega) with ⟨f1, f2, m, hm, rfl⟩ | f
  · simp only [eq_true (show 0 ≤ nI m ∧ nI m ≤ 1 from ⟨f1, f2⟩), if_true, i10, if_false]
    simp only [eq_false (i32_nlt.mpr f1), if_false, eq_true (show nI m < 2 from nI_lt (b := 2) (by omega) (by omega)), if_true]
    have ec : Mod_copies ((94 : Int32) * (nI m + 1)) 0 st = some (cpp st (94 * (m + 1)) 0 94) := by
      rw [show (94 : Int32) * (nI m + 1) = nI (94 * (m + 1)) by rw [nI_a1, show (94 : Int32) = nI 94 from rfl, pk_mul]]
      exact E_copies (a := 94 * (m + 1)) (b := 0) (by omega) (by omega) (by omega) st
    rw [ec, E_copyOf, E_copyOf]
    simp only [bindS]
    rw [rdA_nI (f := kept) (n := 2) (j := m) (by omega) (by omega), rdA_nI (f := isKept) (n := 2) (j := m) (by omega) (by omega)]
    have fr : frI st (cpp st (94 * (m + 1)) 0 94) := fun j hj => cpp_out (by omega)
    rcases (show m = 0 ∨ m = 1 by omega) with rfl | rfl
    · rcases h0 with ⟨u, v⟩ | ⟨u, v, r, t⟩
      · rw [u, v, if_pos rfl, if_pos rfl]
        exact ⟨_, _, rfl, rfl, rfl, fun _ _ => rfl, hR, hT⟩
      · rw [u, v, if_neg (show ¬ (1 : Int32) = 0 by decide), if_neg (show ¬ (1 : Int32) = 0 by decide), if_pos (show nI 0 = (0 : Int32) from rfl)]
        have r2 := (r.copied 0).load kind father comes wants cost coins debts
        rw [E_manyM r2.many]
        simp only [bindS]
        exact ⟨_, _, rfl, rfl, r.ppl, fr, r2, t.load hN _ _⟩
    · rcases h1 with ⟨u, v⟩ | ⟨u, v, r, t⟩
      · rw [u, v, if_pos rfl, if_pos rfl]
        exact ⟨_, _, rfl, rfl, rfl, fun _ _ => rfl, hR, hT⟩
      · rw [u, v, if_neg (show ¬ (1 : Int32) = 0 by decide), if_neg (show ¬ (1 : Int32) = 0 by decide), if_neg (show ¬ nI 1 = (0 : Int32) by decide), if_pos (show nI 1 = (1 : Int32) from rfl)]
        have r2 := (r.copied 0).load kind father comes wants cost coins debts
        rw [E_manyM r2.many]
        simp only [bindS]
        exact ⟨_, _, rfl, rfl, r.ppl, fr, r2, t.load hN _ _⟩
  · simp only [eq_false f, if_false, i00, if_true]
    by_cases h : k < 0
    · rw [if_pos h]
      exact ⟨_, _, rfl, rfl, rfl, fun _ _ => rfl, hR, hT⟩
    · rw [if_neg h, if_neg (show ¬ k < 2 from fun hh => f ⟨i32_nlt.mp h, by
        rw [t32_le]
        rw [t32_lt] at hh
        have e1 : (2 : Int32).toInt = 2 := rfl
        have e0 : (1 : Int32).toInt = 1 := rfl
        omega⟩)]
      exact ⟨_, _, rfl, rfl, rfl, fun _ _ => rfl, hR, hT⟩
end IMG2
