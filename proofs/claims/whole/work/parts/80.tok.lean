/-! TOKENS: the two lexers over one tape -/
def CH (n : Nat) (c : Nat → Nat) (tb tp : Nat → Int32) : Prop := n ≤ 400 ∧ ∀ i, i < n → c i < 256 ∧ tp i = nI (c i) ∧ tb i = (nI (c i)).toInt8.toInt32
def ltB (b : Nat) : Bool := decide (97 ≤ b ∧ b ≤ 122)
def fgB (b : Nat) : Bool := decide (48 ≤ b ∧ b ≤ 57)
theorem by_bl : ∀ b, b < 256 → (((nI b).toInt8.toInt32 = 32) = (b = 32)) := fun b hb => propext ((by decide +kernel : ∀ b, b < 256 → ((nI b).toInt8.toInt32 = 32 ↔ b = 32)) b hb)
theorem by_b2 : ∀ b, b < 256 → ((nI b = 32) = (b = 32)) := fun b hb => propext ((by decide +kernel : ∀ b, b < 256 → (nI b = 32 ↔ b = 32)) b hb)
theorem by_sc : ∀ b, b < 256 → (((nI b).toInt8.toInt32 = 59) = (b = 59)) := fun b hb => propext ((by decide +kernel : ∀ b, b < 256 → ((nI b).toInt8.toInt32 = 59 ↔ b = 59)) b hb)
theorem by_s2 : ∀ b, b < 256 → ((nI b = 59) = (b = 59)) := fun b hb => propext ((by decide +kernel : ∀ b, b < 256 → (nI b = 59 ↔ b = 59)) b hb)
theorem by_n4 : ∀ b, b < 256 → ((nI b = -4) = False) := fun b hb => eq_false ((by decide +kernel : ∀ b, b < 256 → ¬ (nI b = -4)) b hb)
theorem by_lt : ∀ b, b < 256 → (if (nI b).toInt8.toInt32 < 97 then (some 0 : Option Int32) else if 122 < (nI b).toInt8.toInt32 then some 0 else some 1) = some (if ltB b = true then 1 else 0) := by decide +kernel
theorem by_fg : ∀ b, b < 256 → (if (nI b).toInt8.toInt32 < 48 then (some 0 : Option Int32) else if 57 < (nI b).toInt8.toInt32 then some 0 else some 1) = some (if fgB b = true then 1 else 0) := by decide +kernel
theorem by_l2 : ∀ b, b < 256 → (if (97 : Int32) ≤ nI b ∧ nI b ≤ 122 then (1 : Int32) else 0) = if ltB b = true then 1 else 0 := by decide +kernel
theorem by_f2 : ∀ b, b < 256 → (if (48 : Int32) ≤ nI b ∧ nI b ≤ 57 then (1 : Int32) else 0) = if fgB b = true then 1 else 0 := by decide +kernel
theorem by_fv : ∀ b, b < 256 → fgB b = true → (nI b).toInt8.toInt32 = nI b ∧ 48 ≤ b ∧ b ≤ 57 := by decide +kernel
section TOK
variable {n : Nat} {c : Nat → Nat} {tb tp : Nat → Int32}
theorem E_isBlank (h : CH n c tb tp) {q : Nat} (hq : q < n) : Tap_isBlank (nI q) tb = some (if c q = 32 then 1 else 0) := by
  have h4 := h.1
  obtain ⟨h1, h2, h3⟩ := h.2 q hq
  unfold Tap_isBlank
  rw [rdA_nI (by omega) (by omega), h3]
  simp only [by_bl _ h1]
  by_cases e : c q = 32
  · rw [if_pos e, if_pos e]
  · rw [if_neg e, if_neg e]
theorem E_isLetter (h : CH n c tb tp) {q : Nat} (hq : q < n) : Tap_isLetter (nI q) tb = some (if ltB (c q) = true then 1 else 0) := by
  have h4 := h.1
  obtain ⟨h1, h2, h3⟩ := h.2 q hq
  unfold Tap_isLetter
  rw [rdA_nI (by omega) (by omega), rdA_nI (by omega) (by omega), h3]
  exact by_lt _ h1
theorem E_isFigure (h : CH n c tb tp) {q : Nat} (hq : q < n) : Tap_isFigure (nI q) tb = some (if fgB (c q) = true then 1 else 0) := by
  have h4 := h.1
  obtain ⟨h1, h2, h3⟩ := h.2 q hq
  unfold Tap_isFigure
  rw [rdA_nI (by omega) (by omega), rdA_nI (by omega) (by omega), h3]
  exact by_fg _ h1
theorem E_byteAt (h : CH n c tb tp) {q : Nat} (hq : q < n) : Mod_byteAt (nI q) (nI n) tp = some (nI (c q)) := by
  have h4 := h.1
  obtain ⟨h1, h2, h3⟩ := h.2 q hq
  unfold Mod_byteAt
  rw [if_neg (nI_ge hq (by omega)), rdA_nI (by omega) (by omega), h2]
theorem E_byteEnd (h : CH n c tb tp) : Mod_byteAt (nI n) (nI n) tp = some (-4) := by
  have h4 := h.1
  unfold Mod_byteAt
  rw [if_pos (nI_le (Nat.le_refl _) (by omega))]
theorem E_inLt {b : Nat} (hb : b < 256) : Mod_in (nI b).toInt64 97 122 = some (if ltB b = true then 1 else 0) := by
  rw [E_in32c (nI b) (lo := 97) (hi := 122) (a := 97) (b := 122) rfl rfl, by_l2 b hb]
theorem E_inFg {b : Nat} (hb : b < 256) : Mod_in (nI b).toInt64 48 57 = some (if fgB b = true then 1 else 0) := by
  rw [E_in32c (nI b) (lo := 48) (hi := 57) (a := 48) (b := 57) rfl rfl, by_f2 b hb]
theorem E_inL4 : Mod_in (-4 : Int32).toInt64 97 122 = some 0 := by
  rw [E_in32c (-4) (lo := 97) (hi := 122) (a := 97) (b := 122) rfl rfl]; rfl
theorem E_inF4 : Mod_in (-4 : Int32).toInt64 48 57 = some 0 := by
  rw [E_in32c (-4) (lo := 48) (hi := 57) (a := 48) (b := 57) rfl rfl]; rfl
theorem bl_sim (h : CH n c tb tp) : ∀ (d q f1 f2 : Nat), q + d = n → d < f1 → d < f2 → ∃ q', q ≤ q' ∧ q' ≤ n ∧ (∀ K : Int32 → Option (Int32 × Int32 × Int32 × Int32 × Int32 × Int32), Rdr_readToken_L0 (nI n) tb K f1 (nI q) = K (nI q')) ∧ ∀ K : Int32 → Option (Int32 × Int32 × Int32 × Int32 × Int32 × Int32), Mod_step_L8 (nI n) tp K f2 (nI q) = K (nI q') := by
  have h4 := h.1
  intro d
  induction d with
  | zero =>
    intro q f1 f2 hq h1 h2
    obtain ⟨f1, rfl⟩ : ∃ k, f1 = k + 1 := ⟨f1 - 1, by omega⟩
    obtain ⟨f2, rfl⟩ : ∃ k, f2 = k + 1 := ⟨f2 - 1, by omega⟩
    obtain rfl : q = n := by omega
    refine ⟨q, Nat.le_refl _, Nat.le_refl _, fun K => ?_, fun K => ?_⟩
    · rw [Rdr_readToken_L0, if_pos (nI_le (Nat.le_refl _) (by omega))]
    · rw [Mod_step_L8, E_byteEnd h]
      simp only [bindS]
      rw [if_neg (by decide)]
  | succ d ih =>
    intro q f1 f2 hq h1 h2
    obtain ⟨f1, rfl⟩ : ∃ k, f1 = k + 1 := ⟨f1 - 1, by omega⟩
    obtain ⟨f2, rfl⟩ : ∃ k, f2 = k + 1 := ⟨f2 - 1, by omega⟩
    have hqn : q < n := by omega
    obtain ⟨q', g1, g2, g3, g4⟩ := ih (q + 1) f1 f2 (by omega) (by omega) (by omega)
    have e1 : ∀ K : Int32 → Option (Int32 × Int32 × Int32 × Int32 × Int32 × Int32), Rdr_readToken_L0 (nI n) tb K (f1 + 1) (nI q) = if c q = 32 then Rdr_readToken_L0 (nI n) tb K f1 (nI (q + 1)) else K (nI q) := fun K => by
      rw [Rdr_readToken_L0, if_neg (nI_ge hqn (by omega)), E_isBlank h hqn]
      simp only [bindS, nmI_e, nI_a1]
      by_cases e : c q = 32
      · simp only [e, if_true, i10, if_false]
      · simp only [e, if_false, i00, if_true]
    have e2 : ∀ K : Int32 → Option (Int32 × Int32 × Int32 × Int32 × Int32 × Int32), Mod_step_L8 (nI n) tp K (f2 + 1) (nI q) = if c q = 32 then Mod_step_L8 (nI n) tp K f2 (nI (q + 1)) else K (nI q) := fun K => by
      rw [Mod_step_L8, E_byteAt h hqn]
      simp only [bindS, by_b2 _ (h.2 q hqn).1, nmI_e, nI_a1]
    by_cases e : c q = 32
    · exact ⟨q', by omega, g2, fun K => by rw [e1, if_pos e, g3], fun K => by rw [e2, if_pos e, g4]⟩
    · exact ⟨q, Nat.le_refl _, by omega, fun K => by rw [e1, if_neg e], fun K => by rw [e2, if_neg e]⟩
theorem nm_sim (h : CH n c tb tp) : ∀ (d q f1 f2 : Nat), q + d = n → d < f1 → d < f2 → ∃ q', q ≤ q' ∧ q' ≤ n ∧ (q < n → ltB (c q) = true → q < q') ∧ (∀ K : Int32 → Option (Int32 × Int32 × Int32 × Int32 × Int32 × Int32), Rdr_readToken_L95 (nI n) tb K f1 (nI q) = K (nI q')) ∧ ∀ K : Int32 → Option (Int32 × Int32 × Int32 × Int32 × Int32 × Int32), Mod_step_L84 (nI n) tp K f2 (nI q) = K (nI q') := by
  have h4 := h.1
  intro d
  induction d with
  | zero =>
    intro q f1 f2 hq h1 h2
    obtain ⟨f1, rfl⟩ : ∃ k, f1 = k + 1 := ⟨f1 - 1, by omega⟩
    obtain ⟨f2, rfl⟩ : ∃ k, f2 = k + 1 := ⟨f2 - 1, by omega⟩
    obtain rfl : q = n := by omega
    refine ⟨q, Nat.le_refl _, Nat.le_refl _, fun hh => by omega, fun K => ?_, fun K => ?_⟩
    · rw [Rdr_readToken_L95, if_pos (nI_le (Nat.le_refl _) (by omega))]
    · rw [Mod_step_L84, E_byteEnd h]
      simp only [bindS]
      rw [E_inL4]
      simp only [bindS, i00, if_true]
  | succ d ih =>
    intro q f1 f2 hq h1 h2
    obtain ⟨f1, rfl⟩ : ∃ k, f1 = k + 1 := ⟨f1 - 1, by omega⟩
    obtain ⟨f2, rfl⟩ : ∃ k, f2 = k + 1 := ⟨f2 - 1, by omega⟩
    have hqn : q < n := by omega
    obtain ⟨q', g1, g2, g5, g3, g4⟩ := ih (q + 1) f1 f2 (by omega) (by omega) (by omega)
    have e1 : ∀ K : Int32 → Option (Int32 × Int32 × Int32 × Int32 × Int32 × Int32), Rdr_readToken_L95 (nI n) tb K (f1 + 1) (nI q) = if ltB (c q) = true then Rdr_readToken_L95 (nI n) tb K f1 (nI (q + 1)) else K (nI q) := fun K => by
      rw [Rdr_readToken_L95, if_neg (nI_ge hqn (by omega)), E_isLetter h hqn]
      simp only [bindS, nmI_e, nI_a1]
      by_cases e : ltB (c q) = true
      · simp only [e, if_true, i10, if_false]
      · simp only [e, if_false, i00, if_true, Bool.false_eq_true]
    have e2 : ∀ K : Int32 → Option (Int32 × Int32 × Int32 × Int32 × Int32 × Int32), Mod_step_L84 (nI n) tp K (f2 + 1) (nI q) = if ltB (c q) = true then Mod_step_L84 (nI n) tp K f2 (nI (q + 1)) else K (nI q) := fun K => by
      rw [Mod_step_L84, E_byteAt h hqn]
      simp only [bindS]
      rw [E_inLt (h.2 q hqn).1]
      simp only [bindS, nmI_e, nI_a1]
      by_cases e : ltB (c q) = true
      · simp only [e, if_true, i10, if_false]
      · simp only [e, if_false, i00, if_true, Bool.false_eq_true]
    by_cases e : ltB (c q) = true
    · exact ⟨q', by omega, g2, fun _ _ => by omega, fun K => by rw [e1, if_pos e, g3], fun K => by rw [e2, if_pos e, g4]⟩
    · exact ⟨q, Nat.le_refl _, by omega, fun _ hh => absurd hh e, fun K => by rw [e1, if_neg e], fun K => by rw [e2, if_neg e]⟩
theorem dv10 : ∀ v, v < 10 → nI v - nI v / 10 * 10 = nI v := by decide +kernel
theorem fg_v : ∀ v, v < 10 → ∀ b, b < 58 → 48 ≤ b → nI v * 10 + nI b - 48 = nI (10 * v + b - 48) ∧ 10 * nI v + nI b - 48 = nI (10 * v + b - 48) := by decide +kernel
/-- the value of the figures up to q: nothing is said of it when there are more than two -/
def vOK (d : Nat) (lv mv : Int32) : Prop := d ≤ 2 → ∃ v, v < 10 ^ d ∧ lv = nI v ∧ mv = nI v
theorem fg_sim (h : CH n c tb tp) {p1 : Nat} : ∀ (d q f1 f2 : Nat) (lv mv : Int32), q + d = n → p1 ≤ q → d < f1 → d < f2 → vOK (q - p1) lv mv → ∃ q' lv' mv', q ≤ q' ∧ q' ≤ n ∧ (q < n → fgB (c q) = true → q < q') ∧ vOK (q' - p1) lv' mv' ∧ (∀ K : Int32 → Int32 → Option (Int32 × Int32 × Int32 × Int32 × Int32 × Int32), Rdr_readToken_L155 (nI n) tb K f1 (nI q) lv = K (nI q') lv') ∧ ∀ K : Int32 → Int32 → Option (Int32 × Int32 × Int32 × Int32 × Int32 × Int32), Mod_step_L140 (nI n) tp (nI p1) K f2 (nI q) mv = K (nI q') mv' := by
  have h4 := h.1
  intro d
  induction d with
  | zero =>
    intro q f1 f2 lv mv hq hp h1 h2 hv
    obtain ⟨f1, rfl⟩ : ∃ k, f1 = k + 1 := ⟨f1 - 1, by omega⟩
    obtain ⟨f2, rfl⟩ : ∃ k, f2 = k + 1 := ⟨f2 - 1, by omega⟩
    obtain rfl : q = n := by omega
    refine ⟨q, lv, mv, Nat.le_refl _, Nat.le_refl _, fun hh => by omega, hv, fun K => ?_, fun K => ?_⟩
    · rw [Rdr_readToken_L155, if_pos (nI_le (Nat.le_refl _) (by omega))]
    · rw [Mod_step_L140, E_byteEnd h]
      simp only [bindS]
      rw [E_inF4]
      simp only [bindS, i00, if_true]
  | succ d ih =>
    intro q f1 f2 lv mv hq hp h1 h2 hv
    obtain ⟨f1, rfl⟩ : ∃ k, f1 = k + 1 := ⟨f1 - 1, by omega⟩
    obtain ⟨f2, rfl⟩ : ∃ k, f2 = k + 1 := ⟨f2 - 1, by omega⟩
    have hqn : q < n := by omega
    obtain ⟨c1, c2, c3⟩ := h.2 q hqn
    have e1 : ∀ K : Int32 → Int32 → Option (Int32 × Int32 × Int32 × Int32 × Int32 × Int32), Rdr_readToken_L155 (nI n) tb K (f1 + 1) (nI q) lv = if fgB (c q) = true then Rdr_readToken_L155 (nI n) tb K f1 (nI (q + 1)) (((lv - lv / 10 * 10) * 10 + (nI (c q)).toInt8.toInt32) - 48) else K (nI q) lv := fun K => by
      rw [Rdr_readToken_L155, if_neg (nI_ge hqn (by omega)), E_isFigure h hqn]
      simp only [bindS]
      rw [rdA_nI (by omega) (by omega), c3]
      simp only [nmI_e, nI_a1]
      by_cases e : fgB (c q) = true
      · simp only [e, if_true, i10, if_false]
      · simp only [e, if_false, i00, if_true, Bool.false_eq_true]
    have e2 : ∀ K : Int32 → Int32 → Option (Int32 × Int32 × Int32 × Int32 × Int32 × Int32), Mod_step_L140 (nI n) tp (nI p1) K (f2 + 1) (nI q) mv = if fgB (c q) = true then Mod_step_L140 (nI n) tp (nI p1) K f2 (nI (q + 1)) (if 2 ≤ q - p1 then mv else 10 * mv + nI (c q) - 48) else K (nI q) mv := fun K => by
      rw [Mod_step_L140, E_byteAt h hqn]
      simp only [bindS, jn]
      rw [E_inFg c1, pk_sub hp]
      simp only [bindS, nmI_e, nI_a1]
      by_cases e : fgB (c q) = true
      · simp only [e, if_true, i10, if_false]
        by_cases hd : 2 ≤ q - p1
        · rw [if_pos (show (2 : Int32) ≤ nI (q - p1) from nI_le (a := 2) hd (by omega)), if_pos hd]
        · rw [if_neg (show ¬ (2 : Int32) ≤ nI (q - p1) from nI_ge (b := 2) (by omega) (by omega)), if_neg hd]
      · simp only [e, if_false, i00, if_true, Bool.false_eq_true]
    by_cases e : fgB (c q) = true
    · obtain ⟨b1, b2, b3⟩ := by_fv _ c1 e
      have hv2 : vOK (q + 1 - p1) (((lv - lv / 10 * 10) * 10 + (nI (c q)).toInt8.toInt32) - 48) (if 2 ≤ q - p1 then mv else 10 * mv + nI (c q) - 48) := fun hh => by
        obtain ⟨v, v1, v2, v3⟩ := hv (by omega)
        have v10 : v < 10 := by
          rcases (show q - p1 = 0 ∨ q - p1 = 1 by omega) with e0 | e0 <;> rw [e0] at v1 <;> omega
        rw [if_neg (show ¬ 2 ≤ q - p1 by omega), b1, v2, v3, dv10 v v10, (fg_v v v10 (c q) (by omega) b2).1, (fg_v v v10 (c q) (by omega) b2).2]
        refine ⟨10 * v + c q - 48, ?_, rfl, rfl⟩
        rcases (show q - p1 = 0 ∨ q - p1 = 1 by omega) with e0 | e0
        · rw [e0] at v1
          rw [show q + 1 - p1 = 1 by omega]
          omega
        · rw [show q + 1 - p1 = 2 by omega]
          omega
      obtain ⟨q', lv', mv', g1, g2, g5, g6, g3, g4⟩ := ih (q + 1) f1 f2 _ _ (by omega) (by omega) (by omega) (by omega) hv2
      exact ⟨q', lv', mv', by omega, g2, fun _ _ => by omega, g6, fun K => by rw [e1, if_pos e, g3], fun K => by rw [e2, if_pos e, g4]⟩
    · exact ⟨q, lv, mv, Nat.le_refl _, by omega, fun _ hh => absurd hh e, hv, fun K => by rw [e1, if_neg e], fun K => by rw [e2, if_neg e]⟩
end TOK
