def srt (k : Nat) : Int32 := if k = 0 then 4 else nI k
def TokOk (n : Nat) (tb tp : Nat → Int32) (p p1 p2 k v : Nat) : Prop := p ≤ p1 ∧ p1 ≤ p2 ∧ p2 ≤ n ∧ k < 4 ∧ v < 100 ∧ (k ≠ 0 → p1 < p2) ∧ (∀ f, Rdr_readToken f (nI p) (nI n) tb = some (1, f, nI p2, srt k, nI p1, nI v)) ∧ ∀ ba h t w, Mod_step (nI n) 0 ba (nI p) h t w tp = some (0, ba, nI p2, nI p1, nI k, nI v)
def TokBad (n : Nat) (tb tp : Nat → Int32) (p p1 : Nat) : Prop := p1 ≤ n ∧ (∃ x2 x3 x5, ∀ f, Rdr_readToken f (nI p) (nI n) tb = some (0, 1, x2, x3, nI p1, x5)) ∧ ∃ y3 y5 y6, y5 ≠ 1 ∧ ∀ ba h t w, Mod_step (nI n) 0 ba (nI p) h t w tp = some (1, nI p1, y3, nI p1, y5, y6)
section TOK
variable {n : Nat} {c : Nat → Nat} {tb tp : Nat → Int32}
theorem i20 : ((2 : Int32) = 0) = False := eq_false (by decide)
theorem i30 : ((3 : Int32) = 0) = False := eq_false (by decide)
theorem z_le0 : ((0 : Int32) ≤ 0) = True := eq_true (by decide)
theorem fails_0 (x ba he : Int32) : Mod_fails x 0 ba he = some (x, he) := by
  unfold Mod_fails
  rw [if_pos rfl]
theorem E_tok (h : CH n c tb tp) {p : Nat} (hp : p ≤ n) : (∃ p1 p2 k v, TokOk n tb tp p p1 p2 k v) ∨ ∃ p1, TokBad n tb tp p p1 := by
  have h4 := h.1
  obtain ⟨p1, g1, g2, g3, g4⟩ := bl_sim h (n - p) p FU FU (by omega) (by unfold FU; omega) (by unfold FU; omega)
  by_cases he : p1 = n
  · subst he
    refine Or.inl ⟨p1, p1, 0, 0, g1, Nat.le_refl _, Nat.le_refl _, by omega, by omega, fun hh => absurd rfl hh, fun f => ?_, fun ba hh t w => ?_⟩
    · unfold Rdr_readToken
      rw [g3, if_neg (nI_nlt (Nat.le_refl _) (by omega))]
      rfl
    · unfold Mod_step
      rw [if_pos (by decide), g4, E_byteEnd h]
      simp only [bindS, if_true]
      rfl
  · have hn1 : p1 < n := by omega
    obtain ⟨c1, c2, c3⟩ := h.2 p1 hn1
    have r1 : ∀ f, Rdr_readToken f (nI p) (nI n) tb = (if ltB (c p1) = true then Rdr_readToken_L95 (nI n) tb (fun x => some (1, f, x, 1, nI p1, 0)) FU (nI p1) else if fgB (c p1) = true then Rdr_readToken_L155 (nI n) tb (fun x y => if (x - nI p1) ≤ 2 then some (1, f, x, 2, nI p1, y) else some (0, 1, x, 2, nI p1, y)) FU (nI p1) 0 else if c p1 = 59 then some (1, f, nI (p1 + 1), 3, nI p1, 0) else some (0, 1, nI (p1 + 1), 3, nI p1, 0)) := fun f => by
      unfold Rdr_readToken
      rw [g3, if_pos (nI_lt hn1 (by omega)), E_isLetter h hn1, E_isFigure h hn1]
      unfold Rdr_isFaulty
      simp only [bindS, nmI_e]
      rw [rdA_nI (by omega) (by omega), c3]
      simp only [bindS, nI_a1, by_sc _ c1, i00, if_true]
      by_cases e1 : ltB (c p1) = true
      · simp only [e1, i10, if_true, if_false]
      · by_cases e2 : fgB (c p1) = true
        · simp only [e1, e2, i00, i10, if_true, if_false, Bool.false_eq_true]
        · simp only [e1, e2, i00, if_true, if_false, Bool.false_eq_true]
    have r2 : ∀ ba hh t w, Mod_step (nI n) 0 ba (nI p) hh t w tp = (if ltB (c p1) = true then Mod_step_L84 (nI n) tp (fun x => some (0, ba, x, nI p1, 1, 0)) FU (nI p1) else if fgB (c p1) = true then Mod_step_L140 (nI n) tp (nI p1) (fun x y => if (x - nI p1) ≤ 2 then some (0, ba, x, nI p1, 2, y) else some (1, nI p1, x, nI p1, 2, y)) FU (nI p1) 0 else if c p1 = 59 then some (0, ba, nI (p1 + 1), nI p1, 3, 0) else some (1, nI p1, nI (p1 + 1), nI p1, 3, 0)) := fun ba hh t w => by
      unfold Mod_step
      rw [if_pos (by decide), g4, E_byteAt h hn1]
      simp only [bindS, by_n4 _ c1, if_false]
      rw [E_inLt c1, E_inFg c1]
      simp only [bindS, nmI_e, nI_a1, by_s2 _ c1, fails_0]
      by_cases e1 : ltB (c p1) = true
      · simp only [e1, i10, if_true, if_false]
      · by_cases e2 : fgB (c p1) = true
        · simp only [e1, e2, i00, i10, if_true, if_false, Bool.false_eq_true]
        · simp only [e1, e2, i00, if_true, if_false, Bool.false_eq_true]
    by_cases e1 : ltB (c p1) = true
    · obtain ⟨q, k1, k2, k3, k4, k5⟩ := nm_sim h (n - p1) p1 FU FU (by omega) (by unfold FU; omega) (by unfold FU; omega)
      exact Or.inl ⟨p1, q, 1, 0, g1, k1, k2, by omega, by omega, fun _ => k3 hn1 e1, fun f => by rw [r1, if_pos e1, k4]; rfl, fun ba hh t w => by rw [r2, if_pos e1, k5]; rfl⟩
    · by_cases e2 : fgB (c p1) = true
      · obtain ⟨q, lv, mv, k1, k2, k3, kv, k4, k5⟩ := fg_sim h (p1 := p1) (n - p1) p1 FU FU 0 0 (by omega) (Nat.le_refl _) (by unfold FU; omega) (by unfold FU; omega) (fun _ => ⟨0, Nat.pow_pos (by omega), rfl, rfl⟩)
        by_cases hd : q - p1 ≤ 2
        · obtain ⟨v, v1, v2, v3⟩ := kv hd
          have v4 : v < 100 := Nat.lt_of_lt_of_le v1 (Nat.pow_le_pow_right (n := 10) (by omega) hd)
          refine Or.inl ⟨p1, q, 2, v, g1, k1, k2, by omega, v4, fun _ => k3 hn1 e2, fun f => ?_, fun ba hh t w => ?_⟩
          · rw [r1, if_neg e1, if_pos e2, k4, pk_sub k1, if_pos (show nI (q - p1) ≤ 2 from nI_le (b := 2) hd (by omega)), v2]; rfl
          · rw [r2, if_neg e1, if_pos e2, k5, pk_sub k1, if_pos (show nI (q - p1) ≤ 2 from nI_le (b := 2) hd (by omega)), v3]; rfl
        · refine Or.inr ⟨p1, g2, ⟨nI q, 2, lv, fun f => ?_⟩, nI q, 2, mv, by decide, fun ba hh t w => ?_⟩
          · rw [r1, if_neg e1, if_pos e2, k4, pk_sub k1, if_neg (show ¬ nI (q - p1) ≤ 2 from nI_ge (a := 2) (by omega) (by omega))]
          · rw [r2, if_neg e1, if_pos e2, k5, pk_sub k1, if_neg (show ¬ nI (q - p1) ≤ 2 from nI_ge (a := 2) (by omega) (by omega))]
      · by_cases e3 : c p1 = 59
        · exact Or.inl ⟨p1, p1 + 1, 3, 0, g1, by omega, by omega, by omega, by omega, fun _ => by omega, fun f => by rw [r1, if_neg e1, if_neg e2, if_pos e3]; rfl, fun ba hh t w => by rw [r2, if_neg e1, if_neg e2, if_pos e3]; rfl⟩
        · exact Or.inr ⟨p1, g2, ⟨nI (p1 + 1), 3, 0, fun f => by rw [r1, if_neg e1, if_neg e2, if_neg e3]⟩, nI (p1 + 1), 3, 0, by decide, fun ba hh t w => by rw [r2, if_neg e1, if_neg e2, if_neg e3]⟩
/-- once broken, nothing is read any more -/
def BK (b : Int32) : Prop := ¬ b ≤ 0 ∧ ¬ b = 0
theorem BK_n {k : Nat} (h1 : 1 ≤ k) (h2 : k ≤ 6) : BK (nI k) := ⟨fun h => by rw [nI_le0 (by omega)] at h; omega, fun h => by have := (nI_eq (b := 0) (by omega) (by omega)).mp h; omega⟩
theorem step_b {b : Int32} (hb : BK b) (tn ba sp he tk va : Int32) (tp : Nat → Int32) : Mod_step tn b ba sp he tk va tp = some (b, ba, sp, he, tk, va) := by
  unfold Mod_step
  rw [if_neg hb.1]
theorem fails_b {b : Int32} (hb : BK b) (x ba he : Int32) : Mod_fails x b ba he = some (b, ba) := by
  unfold Mod_fails
  rw [if_neg hb.2]
theorem looks_b {b : Int32} (hb : BK b) (lo hi ba he tk va : Int32) : Mod_looks lo hi b ba he tk va = some (lo, b, ba) := by
  unfold Mod_looks
  simp only [jn]
  rw [if_neg hb.2, if_neg hb.2, if_neg hb.2]
theorem number_b {b : Int32} (hb : BK b) (lo hi tn ba sp he tk va : Int32) (tp : Nat → Int32) : Mod_number lo hi tn b ba sp he tk va tp = some (lo, b, ba, sp, he, tk, va) := by
  unfold Mod_number
  rw [looks_b hb]
  simp only [bindS]
  rw [step_b hb]
  simp only [bindS]
theorem oneHere_b {b : Int32} (hb : BK b) (hi ba he tk va : Int32) : ∃ h', Mod_oneHere hi b ba he tk va = some (0, h', b, ba) := by
  unfold Mod_oneHere
  rw [looks_b hb]
  simp only [bindS]
  by_cases h : (0 : Int32) ≤ hi
  · rw [if_pos h]; exact ⟨_, rfl⟩
  · rw [if_neg h]; exact ⟨_, rfl⟩
theorem looks_2 {k : Nat} (hk : k < 4) (hk2 : k ≠ 2) (lo hi ba he va : Int32) : Mod_looks lo hi 0 ba he (nI k) va = some (lo, 2, he) := by
  unfold Mod_looks
  simp only [jn, if_true]
  rw [if_neg (show ¬ nI k = 2 from fun hh => hk2 ((nI_eq (b := 2) (by omega) (by omega)).mp hh)), fails_0]
  simp only [bindS, i20, if_false]
theorem looks_v {lo hi v : Nat} (hl : lo < 100) (hh : hi < 100) (hv : v < 100) (ba he : Int32) : Mod_looks (nI lo) (nI hi) 0 ba he 2 (nI v) = if lo ≤ v ∧ v ≤ hi then some (nI v, 0, ba) else some (nI lo, 3, he) := by
  unfold Mod_looks
  rw [E_in32]
  simp only [jn, bindS, fails_0, if_true, i30, if_false]
  by_cases h : lo ≤ v ∧ v ≤ hi
  · rw [if_pos (show nI lo ≤ nI v ∧ nI v ≤ nI hi from ⟨nI_le h.1 (by omega), nI_le h.2 (by omega)⟩), if_pos h]
    simp only [i10, if_false]
  · rw [if_neg (show ¬ (nI lo ≤ nI v ∧ nI v ≤ nI hi) from fun hc => h ⟨(nI_leI (by omega) (by omega)).mp hc.1, (nI_leI (by omega) (by omega)).mp hc.2⟩), if_neg h]
    simp only [i00, if_true]
def NGood (n : Nat) (tb tp : Nat → Int32) (lo hi p p2 v : Nat) : Prop := p < p2 ∧ p2 ≤ n ∧ lo ≤ v ∧ v ≤ hi ∧ ∃ p1, (∀ f, Rdr_readNumber (nI lo) (nI hi) f (nI p) (nI n) tb = some (1, f, nI p2, 2, nI p1, nI v)) ∧ (∀ ba h t w, Mod_step (nI n) 0 ba (nI p) h t w tp = some (0, ba, nI p2, nI p1, 2, nI v)) ∧ ∀ ba, Mod_looks (nI lo) (nI hi) 0 ba (nI p1) 2 (nI v) = some (nI v, 0, ba)
def NBad (n : Nat) (tb tp : Nat → Int32) (lo hi p k p1 : Nat) : Prop := 1 ≤ k ∧ k ≤ 6 ∧ p1 ≤ n ∧ (∃ x2 x3 x5, ∀ f, Rdr_readNumber (nI lo) (nI hi) f (nI p) (nI n) tb = some (0, nI k, x2, x3, nI p1, x5)) ∧ ∀ ba h t w, ∃ b' a' s' h' t' v', Mod_step (nI n) 0 ba (nI p) h t w tp = some (b', a', s', h', t', v') ∧ Mod_looks (nI lo) (nI hi) b' a' h' t' v' = some (nI lo, nI k, nI p1)
theorem E_num (h : CH n c tb tp) {p lo hi : Nat} (hp : p ≤ n) (hl : lo < 100) (hh : hi < 100) : (∃ p2 v, NGood n tb tp lo hi p p2 v) ∨ ∃ k p1, NBad n tb tp lo hi p k p1 := by
  have h4 := h.1
  rcases E_tok h hp with ⟨p1, p2, k, v, t1, t2, t3, t4, t5, t6, t7, t8⟩ | ⟨p1, t1, ⟨x2, x3, x5, t2⟩, y3, y5, y6, t3, t4⟩
  · by_cases hk : k = 2
    · subst hk
      by_cases hv : lo ≤ v ∧ v ≤ hi
      · refine Or.inl ⟨p2, v, by have := t6 (by omega); omega, t3, hv.1, hv.2, p1, fun f => ?_, t8, fun ba => by rw [looks_v hl hh t5, if_pos hv]⟩
        unfold Rdr_readNumber
        rw [t7]
        simp only [bindS, jn, i10, if_false]
        rw [if_pos (show srt 2 = 2 from rfl), if_neg (nI_nlt hv.1 (by omega)), if_pos (nI_le hv.2 (by omega))]
        rfl
      · refine Or.inr ⟨3, p1, by omega, by omega, by omega, ⟨nI p2, 2, nI v, fun f => ?_⟩, fun ba hh' t w => ⟨_, _, _, _, _, _, t8 ba hh' t w, ?_⟩⟩
        · unfold Rdr_readNumber Rdr_isFaulty
          rw [t7]
          simp only [bindS, jn, i10, if_false, i00, if_true]
          rw [if_pos (show srt 2 = 2 from rfl)]
          by_cases hv1 : v < lo
          · rw [if_pos (nI_lt hv1 (by omega))]; rfl
          · rw [if_neg (nI_nlt (by omega) (by omega)), if_neg (nI_ge (by omega) (by omega))]; rfl
        · show Mod_looks (nI lo) (nI hi) 0 ba (nI p1) 2 (nI v) = _
          rw [looks_v hl hh t5, if_neg hv]
          rfl
    · refine Or.inr ⟨2, p1, by omega, by omega, by omega, ⟨nI p2, srt k, nI v, fun f => ?_⟩, fun ba hh' t w => ⟨_, _, _, _, _, _, t8 ba hh' t w, by rw [looks_2 t4 hk]; rfl⟩⟩
      unfold Rdr_readNumber Rdr_isFaulty
      rw [t7]
      simp only [bindS, i10, if_false]
      rw [if_neg (show ¬ srt k = 2 from fun hc => by
        unfold srt at hc
        by_cases k0 : k = 0
        · rw [if_pos k0] at hc; exact absurd hc (by decide)
        · rw [if_neg k0] at hc; exact hk ((nI_eq (b := 2) (by omega) (by omega)).mp hc)), if_pos (Or.inl trivial)]
      rfl
  · refine Or.inr ⟨1, p1, by omega, by omega, t1, ⟨x2, x3, x5, fun f => ?_⟩, fun ba hh' t w => ⟨_, _, _, _, _, _, t4 ba hh' t w, looks_b (b := 1) ⟨by decide, by decide⟩ _ _ _ _ _ _⟩⟩
    unfold Rdr_readNumber
    rw [t2]
    simp only [bindS, i00, if_true]
    rfl
end TOK
