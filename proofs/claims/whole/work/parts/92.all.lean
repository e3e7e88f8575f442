section ALL
variable {N : Nat} {kind father debts : Nat → Int32}
def bdD (N : Nat) (debts : Nat → Int32) (a b : Nat) : Prop := ¬ debts (7 * a + b) = 0 ∧ (N ≤ a ∨ N ≤ b)
def bdF (N : Nat) (kind father : Nat → Int32) (a : Nat) : Prop := a < N ∧ kind a = 4 ∧ ∃ f, f < 7 ∧ father a = nI f ∧ N ≤ f
theorem two_in {a b : Nat} (hN : N ≤ 7) (ha : a < 7) (hb : b < 7) (hab : a ≠ b) : twoB N (nI a) (nI b) = if a < N ∧ b < N then 1 else 0 := by
  unfold twoB
  have e1 : (0 ≤ nI a) := nI_le (a := 0) (by omega) (by omega)
  have e2 : (0 ≤ nI b) := nI_le (a := 0) (by omega) (by omega)
  have e3 : nI a < nI N ↔ a < N := nI_ltI (by omega) (by omega)
  have e4 : nI b < nI N ↔ b < N := nI_ltI (by omega) (by omega)
  have e5 : ¬ nI a = nI b := fun hh => hab ((nI_eq (by omega) (by omega)).mp hh)
  by_cases h : a < N ∧ b < N
  · rw [if_pos h, if_pos ⟨⟨e1, e3.mpr h.1⟩, ⟨e2, e4.mpr h.2⟩, e5⟩]
  · rw [if_neg h, if_neg (fun hh => h ⟨e3.mp hh.1.2, e4.mp hh.2.1.2⟩)]
theorem one_in {a : Nat} (hN : N ≤ 7) (ha : a < 7) : oneB N (nI a) = if a < N then 1 else 0 := by
  unfold oneB
  have e1 : (0 ≤ nI a) := nI_le (a := 0) (by omega) (by omega)
  have e3 : nI a < nI N ↔ a < N := nI_ltI (by omega) (by omega)
  by_cases h : a < N
  · rw [if_pos h, if_pos ⟨e1, e3.mpr h⟩]
  · rw [if_neg h, if_neg (fun hh => h (e3.mp hh.2))]
theorem al_in0 (hN : N ≤ 7) (hd : ∀ a, a < 7 → debts (7 * a + a) = 0) (hv : ∀ a b, a < 7 → b < 7 → ∃ d, d ≤ 99 ∧ debts (7 * a + b) = nI d) {a : Nat} (ha : a < 7) (K90 K103 : Option (Int32 × Int32)) : ∀ (d b f : Nat), b + d = 7 → d < f → ((∀ b', b ≤ b' → b' < 7 → ¬ bdD N debts a b') → Rdr_allAreThere_L60 (nI N) debts (nI a) K90 K103 f (nI b) = K103) ∧ ((∃ b', b ≤ b' ∧ b' < 7 ∧ bdD N debts a b') → Rdr_allAreThere_L60 (nI N) debts (nI a) K90 K103 f (nI b) = K90) := by
  intro d
  induction d with
  | zero =>
    intro b f hb hf
    obtain ⟨f, rfl⟩ : ∃ m, f = m + 1 := ⟨f - 1, by omega⟩
    refine ⟨fun _ => ?_, fun ⟨b', h1, h2, _⟩ => by omega⟩
    rw [Rdr_allAreThere_L60, if_pos (show (7 : Int32) ≤ nI b from nI_le (a := 7) (by omega) (by omega))]
  | succ d ih =>
    intro b f hb hf
    obtain ⟨f, rfl⟩ : ∃ m, f = m + 1 := ⟨f - 1, by omega⟩
    obtain ⟨i1, i2⟩ := ih (b + 1) f (by omega) (by omega)
    obtain ⟨x, x1, x2⟩ := hv a b ha (by omega)
    have e : Rdr_allAreThere_L60 (nI N) debts (nI a) K90 K103 (f + 1) (nI b) = if x = 0 then Rdr_allAreThere_L60 (nI N) debts (nI a) K90 K103 f (nI (b + 1)) else if a < N ∧ b < N then Rdr_allAreThere_L60 (nI N) debts (nI a) K90 K103 f (nI (b + 1)) else K90 := by
      rw [Rdr_allAreThere_L60, if_neg (show ¬ (7 : Int32) ≤ nI b from nI_ge (b := 7) (by omega) (by omega)), E_owed (by omega) (by omega), E_areTwoT]
      simp only [bindS, nmI_e, nI_a1]
      rw [x2]
      by_cases h0 : x = 0
      · rw [if_pos ((nI_le0 (by omega)).mpr h0), if_pos h0]
      · have hab : a ≠ b := fun hh => h0 (by
          rw [← hh, hd a ha] at x2
          exact ((nI_eq (a := 0) (by omega) (by omega)).mp x2).symm)
        rw [if_neg (fun hh => h0 ((nI_le0 (by omega)).mp hh)), if_neg h0, two_in hN ha (by omega) hab]
        by_cases hl : a < N ∧ b < N
        · rw [if_pos hl, if_pos hl, if_neg (by decide)]
        · rw [if_neg hl, if_neg hl, if_pos rfl]
    have hx0 : debts (7 * a + b) = 0 ↔ x = 0 := by rw [x2]; exact nI_eq (b := 0) (by omega) (by omega)
    rw [e]
    by_cases hbd : bdD N debts a b
    · have h0 : ¬ x = 0 := fun hh => hbd.1 (hx0.mpr hh)
      rw [if_neg h0, if_neg (show ¬ (a < N ∧ b < N) from fun hh => by have := hbd.2; omega)]
      exact ⟨fun hall => absurd hbd (hall b (Nat.le_refl _) (by omega)), fun _ => rfl⟩
    · have hstep : (if x = 0 then Rdr_allAreThere_L60 (nI N) debts (nI a) K90 K103 f (nI (b + 1)) else if a < N ∧ b < N then Rdr_allAreThere_L60 (nI N) debts (nI a) K90 K103 f (nI (b + 1)) else K90) = Rdr_allAreThere_L60 (nI N) debts (nI a) K90 K103 f (nI (b + 1)) := by
        by_cases h0 : x = 0
        · rw [if_pos h0]
        · rw [if_neg h0, if_pos]
          by_cases hl : a < N ∧ b < N
          · exact hl
          · exact absurd ⟨fun hh => h0 (hx0.mp hh), by omega⟩ hbd
      rw [hstep]
      refine ⟨fun hall => i1 (fun b' h1 h2 => hall b' (by omega) h2), fun ⟨b', h1, h2, h3⟩ => i2 ⟨b', ?_, h2, h3⟩⟩
      by_cases hbb : b' = b
      · subst hbb; exact absurd h3 hbd
      · omega
theorem al_in1 (hN : N ≤ 7) (hd : ∀ a, a < 7 → debts (7 * a + a) = 0) (hv : ∀ a b, a < 7 → b < 7 → ∃ d, d ≤ 99 ∧ debts (7 * a + b) = nI d) {a : Nat} (ha : a < 7) (K90 K103 : Option (Int32 × Int32)) : ∀ (d b f : Nat), b + d = 7 → d < f → ((∀ b', b ≤ b' → b' < 7 → ¬ bdD N debts a b') → Rdr_allAreThere_L60' (nI N) debts (nI a) K90 K103 f (nI b) = K103) ∧ ((∃ b', b ≤ b' ∧ b' < 7 ∧ bdD N debts a b') → Rdr_allAreThere_L60' (nI N) debts (nI a) K90 K103 f (nI b) = K90) := by
  intro d
  induction d with
  | zero =>
    intro b f hb hf
    obtain ⟨f, rfl⟩ : ∃ m, f = m + 1 := ⟨f - 1, by omega⟩
    refine ⟨fun _ => ?_, fun ⟨b', h1, h2, _⟩ => by omega⟩
    rw [Rdr_allAreThere_L60', if_pos (show (7 : Int32) ≤ nI b from nI_le (a := 7) (by omega) (by omega))]
  | succ d ih =>
    intro b f hb hf
    obtain ⟨f, rfl⟩ : ∃ m, f = m + 1 := ⟨f - 1, by omega⟩
    obtain ⟨i1, i2⟩ := ih (b + 1) f (by omega) (by omega)
    obtain ⟨x, x1, x2⟩ := hv a b ha (by omega)
    have e : Rdr_allAreThere_L60' (nI N) debts (nI a) K90 K103 (f + 1) (nI b) = if x = 0 then Rdr_allAreThere_L60' (nI N) debts (nI a) K90 K103 f (nI (b + 1)) else if a < N ∧ b < N then Rdr_allAreThere_L60' (nI N) debts (nI a) K90 K103 f (nI (b + 1)) else K90 := by
      rw [Rdr_allAreThere_L60', if_neg (show ¬ (7 : Int32) ≤ nI b from nI_ge (b := 7) (by omega) (by omega)), E_owed (by omega) (by omega), E_areTwoT]
      simp only [bindS, nmI_e, nI_a1]
      rw [x2]
      by_cases h0 : x = 0
      · rw [if_pos ((nI_le0 (by omega)).mpr h0), if_pos h0]
      · have hab : a ≠ b := fun hh => h0 (by
          rw [← hh, hd a ha] at x2
          exact ((nI_eq (a := 0) (by omega) (by omega)).mp x2).symm)
        rw [if_neg (fun hh => h0 ((nI_le0 (by omega)).mp hh)), if_neg h0, two_in hN ha (by omega) hab]
        by_cases hl : a < N ∧ b < N
        · rw [if_pos hl, if_pos hl, if_neg (by decide)]
        · rw [if_neg hl, if_neg hl, if_pos rfl]
    have hx0 : debts (7 * a + b) = 0 ↔ x = 0 := by rw [x2]; exact nI_eq (b := 0) (by omega) (by omega)
    rw [e]
    by_cases hbd : bdD N debts a b
    · have h0 : ¬ x = 0 := fun hh => hbd.1 (hx0.mpr hh)
      rw [if_neg h0, if_neg (show ¬ (a < N ∧ b < N) from fun hh => by have := hbd.2; omega)]
      exact ⟨fun hall => absurd hbd (hall b (Nat.le_refl _) (by omega)), fun _ => rfl⟩
    · have hstep : (if x = 0 then Rdr_allAreThere_L60' (nI N) debts (nI a) K90 K103 f (nI (b + 1)) else if a < N ∧ b < N then Rdr_allAreThere_L60' (nI N) debts (nI a) K90 K103 f (nI (b + 1)) else K90) = Rdr_allAreThere_L60' (nI N) debts (nI a) K90 K103 f (nI (b + 1)) := by
        by_cases h0 : x = 0
        · rw [if_pos h0]
        · rw [if_neg h0, if_pos]
          by_cases hl : a < N ∧ b < N
          · exact hl
          · exact absurd ⟨fun hh => h0 (hx0.mp hh), by omega⟩ hbd
      rw [hstep]
      refine ⟨fun hall => i1 (fun b' h1 h2 => hall b' (by omega) h2), fun ⟨b', h1, h2, h3⟩ => i2 ⟨b', ?_, h2, h3⟩⟩
      by_cases hbb : b' = b
      · subst hbb; exact absurd h3 hbd
      · omega
theorem al_in2 (hN : N ≤ 7) (hd : ∀ a, a < 7 → debts (7 * a + a) = 0) (hv : ∀ a b, a < 7 → b < 7 → ∃ d, d ≤ 99 ∧ debts (7 * a + b) = nI d) {a : Nat} (ha : a < 7) (K90 K103 : Option (Int32 × Int32)) : ∀ (d b f : Nat), b + d = 7 → d < f → ((∀ b', b ≤ b' → b' < 7 → ¬ bdD N debts a b') → Rdr_allAreThere_L60'' (nI N) debts (nI a) K90 K103 f (nI b) = K103) ∧ ((∃ b', b ≤ b' ∧ b' < 7 ∧ bdD N debts a b') → Rdr_allAreThere_L60'' (nI N) debts (nI a) K90 K103 f (nI b) = K90) := by
  intro d
  induction d with
  | zero =>
    intro b f hb hf
    obtain ⟨f, rfl⟩ : ∃ m, f = m + 1 := ⟨f - 1, by omega⟩
    refine ⟨fun _ => ?_, fun ⟨b', h1, h2, _⟩ => by omega⟩
    rw [Rdr_allAreThere_L60'', if_pos (show (7 : Int32) ≤ nI b from nI_le (a := 7) (by omega) (by omega))]
  | succ d ih =>
    intro b f hb hf
    obtain ⟨f, rfl⟩ : ∃ m, f = m + 1 := ⟨f - 1, by omega⟩
    obtain ⟨i1, i2⟩ := ih (b + 1) f (by omega) (by omega)
    obtain ⟨x, x1, x2⟩ := hv a b ha (by omega)
    have e : Rdr_allAreThere_L60'' (nI N) debts (nI a) K90 K103 (f + 1) (nI b) = if x = 0 then Rdr_allAreThere_L60'' (nI N) debts (nI a) K90 K103 f (nI (b + 1)) else if a < N ∧ b < N then Rdr_allAreThere_L60'' (nI N) debts (nI a) K90 K103 f (nI (b + 1)) else K90 := by
      rw [Rdr_allAreThere_L60'', if_neg (show ¬ (7 : Int32) ≤ nI b from nI_ge (b := 7) (by omega) (by omega)), E_owed (by omega) (by omega), E_areTwoT]
      simp only [bindS, nmI_e, nI_a1]
      rw [x2]
      by_cases h0 : x = 0
      · rw [if_pos ((nI_le0 (by omega)).mpr h0), if_pos h0]
      · have hab : a ≠ b := fun hh => h0 (by
          rw [← hh, hd a ha] at x2
          exact ((nI_eq (a := 0) (by omega) (by omega)).mp x2).symm)
        rw [if_neg (fun hh => h0 ((nI_le0 (by omega)).mp hh)), if_neg h0, two_in hN ha (by omega) hab]
        by_cases hl : a < N ∧ b < N
        · rw [if_pos hl, if_pos hl, if_neg (by decide)]
        · rw [if_neg hl, if_neg hl, if_pos rfl]
    have hx0 : debts (7 * a + b) = 0 ↔ x = 0 := by rw [x2]; exact nI_eq (b := 0) (by omega) (by omega)
    rw [e]
    by_cases hbd : bdD N debts a b
    · have h0 : ¬ x = 0 := fun hh => hbd.1 (hx0.mpr hh)
      rw [if_neg h0, if_neg (show ¬ (a < N ∧ b < N) from fun hh => by have := hbd.2; omega)]
      exact ⟨fun hall => absurd hbd (hall b (Nat.le_refl _) (by omega)), fun _ => rfl⟩
    · have hstep : (if x = 0 then Rdr_allAreThere_L60'' (nI N) debts (nI a) K90 K103 f (nI (b + 1)) else if a < N ∧ b < N then Rdr_allAreThere_L60'' (nI N) debts (nI a) K90 K103 f (nI (b + 1)) else K90) = Rdr_allAreThere_L60'' (nI N) debts (nI a) K90 K103 f (nI (b + 1)) := by
        by_cases h0 : x = 0
        · rw [if_pos h0]
        · rw [if_neg h0, if_pos]
          by_cases hl : a < N ∧ b < N
          · exact hl
          · exact absurd ⟨fun hh => h0 (hx0.mp hh), by omega⟩ hbd
      rw [hstep]
      refine ⟨fun hall => i1 (fun b' h1 h2 => hall b' (by omega) h2), fun ⟨b', h1, h2, h3⟩ => i2 ⟨b', ?_, h2, h3⟩⟩
      by_cases hbb : b' = b
      · subst hbb; exact absurd h3 hbd
      · omega
theorem al_out (hN : N ≤ 7) (hd : ∀ a, a < 7 → debts (7 * a + a) = 0) (hv : ∀ a b, a < 7 → b < 7 → ∃ d, d ≤ 99 ∧ debts (7 * a + b) = nI d) (hf : ∀ p, p < N → kind p = 4 → ∃ f, f < 7 ∧ father p = nI f) (X K : Option (Int32 × Int32)) : ∀ (d a f : Nat), a + d = 7 → d < f → ((∀ a', a ≤ a' → a' < 7 → ¬ bdF N kind father a' ∧ ∀ b, b < 7 → ¬ bdD N debts a' b) → Rdr_allAreThere_L2 (nI N) kind father debts X X K f (nI a) = K) ∧ ((∃ a', a ≤ a' ∧ a' < 7 ∧ (bdF N kind father a' ∨ ∃ b, b < 7 ∧ bdD N debts a' b)) → Rdr_allAreThere_L2 (nI N) kind father debts X X K f (nI a) = X) := by
  intro d
  induction d with
  | zero =>
    intro a f ha hf'
    obtain ⟨f, rfl⟩ : ∃ m, f = m + 1 := ⟨f - 1, by omega⟩
    refine ⟨fun _ => ?_, fun ⟨b', h1, h2, _⟩ => by omega⟩
    rw [Rdr_allAreThere_L2, if_pos (show (7 : Int32) ≤ nI a from nI_le (a := 7) (by omega) (by omega))]
  | succ d ih =>
    intro a f ha hf'
    obtain ⟨f, rfl⟩ : ∃ m, f = m + 1 := ⟨f - 1, by omega⟩
    have ha7 : a < 7 := by omega
    obtain ⟨i1, i2⟩ := ih (a + 1) f (by omega) (by omega)
    have e : (bdF N kind father a ∧ Rdr_allAreThere_L2 (nI N) kind father debts X X K (f + 1) (nI a) = X) ∨ (¬ bdF N kind father a ∧ ((∀ b, b < 7 → ¬ bdD N debts a b) → Rdr_allAreThere_L2 (nI N) kind father debts X X K (f + 1) (nI a) = Rdr_allAreThere_L2 (nI N) kind father debts X X K f (nI (a + 1))) ∧ ((∃ b, b < 7 ∧ bdD N debts a b) → Rdr_allAreThere_L2 (nI N) kind father debts X X K (f + 1) (nI a) = X)) := by
      rw [Rdr_allAreThere_L2, if_neg (show ¬ (7 : Int32) ≤ nI a from nI_ge (b := 7) ha7 (by omega)), E_isOneT, one_in hN ha7]
      simp only [bindS, nmI_e, nI_a1]
      have z0 : nI 0 = (0 : Int32) := rfl
      by_cases haN : a < N
      · rw [if_pos haN, if_neg (by decide), rdA_nI (by omega) (by omega), rdA_nI (by omega) (by omega)]
        by_cases h4 : kind a = 4
        · obtain ⟨g, g1, g2⟩ := hf a haN h4
          rw [if_pos h4, g2, E_isOneT, one_in hN g1]
          simp only [bindS]
          by_cases hg : g < N
          · right
            rw [if_pos hg, if_neg (by decide)]
            obtain ⟨q1, q2⟩ := al_in2 hN hd hv ha7 X (Rdr_allAreThere_L2 (nI N) kind father debts X X K f (nI (a + 1))) 7 0 FU (by omega) (by unfold FU; omega)
            rw [z0] at q1 q2
            refine ⟨fun ⟨_, _, g', k1, k2, k3⟩ => ?_, fun hall => q1 (fun b' _ hb' => hall b' hb'), fun ⟨b, hb, hbd⟩ => q2 ⟨b, by omega, hb, hbd⟩⟩
            rw [g2] at k2
            have := (nI_eq (by omega) (by omega)).mp k2
            omega
          · left
            rw [if_neg hg, if_pos rfl]
            exact ⟨⟨haN, h4, g, g1, g2, by omega⟩, rfl⟩
        · right
          rw [if_neg h4]
          obtain ⟨q1, q2⟩ := al_in1 hN hd hv ha7 X (Rdr_allAreThere_L2 (nI N) kind father debts X X K f (nI (a + 1))) 7 0 FU (by omega) (by unfold FU; omega)
          rw [z0] at q1 q2
          exact ⟨fun hh => h4 hh.2.1, fun hall => q1 (fun b' _ hb' => hall b' hb'), fun ⟨b, hb, hbd⟩ => q2 ⟨b, by omega, hb, hbd⟩⟩
      · right
        rw [if_neg haN, if_pos rfl]
        obtain ⟨q1, q2⟩ := al_in0 hN hd hv ha7 X (Rdr_allAreThere_L2 (nI N) kind father debts X X K f (nI (a + 1))) 7 0 FU (by omega) (by unfold FU; omega)
        rw [z0] at q1 q2
        exact ⟨fun hh => haN hh.1, fun hall => q1 (fun b' _ hb' => hall b' hb'), fun ⟨b, hb, hbd⟩ => q2 ⟨b, by omega, hb, hbd⟩⟩
    rcases e with ⟨e1, e2⟩ | ⟨e1, e2, e3⟩
    · exact ⟨fun hall => absurd e1 (hall a (Nat.le_refl _) ha7).1, fun _ => e2⟩
    · refine ⟨fun hall => ?_, fun ⟨a', h1, h2, h3⟩ => ?_⟩
      · rw [e2 (hall a (Nat.le_refl _) ha7).2]
        exact i1 (fun a' h1 h2 => hall a' (by omega) h2)
      · by_cases hex : ∃ b, b < 7 ∧ bdD N debts a b
        · exact e3 hex
        · rw [e2 (fun b hb hbd => hex ⟨b, hb, hbd⟩)]
          refine i2 ⟨a', ?_, h2, h3⟩
          by_cases haa : a' = a
          · subst haa
            rcases h3 with h3 | h3
            · exact absurd h3 e1
            · exact absurd h3 hex
          · omega
theorem E_all {H : Nat} {people law counters : Int32} {comes wants cost coins rp : Nat → Int32} {hi : Int32} (hR : RD N H people law counters kind father comes wants cost coins debts rp hi) (f : Int32) : Rdr_allAreThere f (nI N) kind father debts = some (if H ≤ N then (1, f) else (0, 6)) := by
  obtain ⟨⟨a1, a2, a3, a4, a5, c, a6, a7, a8⟩, b1, b2, b3, b4, ⟨c1, c2, c3⟩, d1, d2, d3⟩ := hR
  obtain ⟨q1, q2⟩ := al_out (kind := kind) (father := father) a1 c2 (fun a b ha hb => by obtain ⟨d, g1, g2, -⟩ := c3 a b ha hb; exact ⟨d, g1, g2⟩) (fun p hp hk => by obtain ⟨g, -, g1, -, g2, -⟩ := b2 p hp hk; exact ⟨g, g1, g2⟩) (some (0, 6)) (some (1, f)) 7 0 FU (by omega) (by unfold FU; omega)
  rw [show nI 0 = (0 : Int32) from rfl] at q1 q2
  unfold Rdr_allAreThere Rdr_isFaulty
  simp only [bindS, true_or, if_true]
  by_cases hH : H ≤ N
  · rw [if_pos hH]
    refine q1 (fun a' _ ha' => ⟨fun ⟨k1, k2, g, k3, k4, k5⟩ => ?_, fun b hb ⟨k1, k2⟩ => ?_⟩)
    · obtain ⟨g', h1, h2, h3, h4, h5⟩ := b2 a' k1 k2
      rw [k4] at h4
      have := (nI_eq (by omega) (by omega)).mp h4
      omega
    · obtain ⟨d, g1, g2, g3⟩ := c3 a' b ha' hb
      have := g3 (fun hh => k1 (by rw [g2, hh]; rfl))
      omega
  · rw [if_neg hH]
    refine q2 ?_
    rcases d3 (by omega) with ⟨p, g1, g2, g3⟩ | ⟨a, b, g1, g2, g3, g4⟩
    · exact ⟨p, by omega, by omega, Or.inl ⟨g1, g2, H - 1, by omega, g3, by omega⟩⟩
    · exact ⟨a, by omega, g1, Or.inr ⟨b, g2, g3, by omega⟩⟩
end ALL
