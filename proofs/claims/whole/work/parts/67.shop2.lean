section SHOP
variable {N : Nat} {A cs wn : Nat → Nat} {wants cost : Nat → Int32}
def rcV (x : Nat × Nat) : Int32 := if x.1 = 0 then -4 else nI x.2
theorem dn_N0 (N : Nat) : nI N - 1 = dn N := by
  cases N with
  | zero => decide
  | succ k => rw [nI_m1 (by omega)]; rfl
theorem E_cw (hN : N ≤ 7) {lets rc : Nat → Int32} (hA : ∀ j, j < N → lets j = nI (A j)) (hAl : ∀ j, j < N → A j < 128) (hcs : ∀ p, p < N → cost p = nI (cs p)) {s p tk : Nat} (hs : s < 2 ^ N) (hp : p < N) (hrc : cfB A p s = true → rc (s ||| 2 ^ p) = rcV (GW N A cs wn (s ||| 2 ^ p))) (hb : (GW N A cs wn (s ||| 2 ^ p)).2 ≤ 1000000) :
    Ord_costWith (nI p) (nI s) (nI tk) lets rc cost = some (if cfB A p s = true ∧ WW N A cs wn (s ||| 2 ^ p) ≠ 0 then nI (cs p * tk + CC N A cs wn (s ||| 2 ^ p)) else -1) := by
  have h128 := p128 hN
  have hor := or_lt hs hp
  unfold Ord_costWith
  rw [E_canF (A := A) (by omega) (hAl p hp) (by omega) (hA p hp)]
  simp only [bindS]
  by_cases hcf : cfB A p s = true
  · simp only [hcf, if_true, i10, if_false, true_and]
    rw [one_sh p (by omega), nx_or, rdA_nI (f := rc) (j := s ||| 2 ^ p) (by omega) (by omega), hrc hcf]
    unfold rcV
    by_cases hW : WW N A cs wn (s ||| 2 ^ p) = 0
    · rw [if_pos hW, if_neg (by decide), if_neg (fun h => h hW)]
    · rw [if_neg hW, if_pos ((nI_0le (by omega)).mpr trivial), if_pos hW, rdA_nI (f := cost) (by omega) (by omega), hcs p hp, pk_mul, nI_add]
  · simp only [hcf, if_false, i00, if_true, Bool.false_eq_true, false_and]
theorem we_in (hN : N ≤ 7) {lets rc : Nat → Int32} (hA : ∀ j, j < N → lets j = nI (A j)) (hAl : ∀ j, j < N → A j < 128) (hcs : ∀ p, p < N → cost p = nI (cs p)) (hw9 : ∀ p, p < N → wn p ≤ 9) (hc9 : ∀ p, p < N → cs p ≤ 9) {s : Nat} (hs : s < 2 ^ N) (hrc : ∀ t, s < t → t < 2 ^ N → rc t = rcV (GW N A cs wn t)) (K : Int32 → Option (Nat → Int32)) :
    ∀ (d p n : Nat), p + d = N → d < n → Ord_weighRests_L39 (nI N) lets cost (nI s) rc (nI (tkS wn s N)) K n (rcV (fWC A cs (tkS wn s N) s (GW N A cs wn) p)) (nI p) = K (rcV (fWC A cs (tkS wn s N) s (GW N A cs wn) N)) := by
  have h128 := p128 hN
  intro d
  induction d with
  | zero =>
    intro p n hp hn
    obtain ⟨n, rfl⟩ : ∃ k, n = k + 1 := ⟨n - 1, by omega⟩
    obtain rfl : p = N := by omega
    rw [Ord_weighRests_L39, if_pos (nI_le (by omega) (by omega))]
  | succ d ih =>
    intro p n hp hn
    obtain ⟨n, rfl⟩ : ∃ k, n = k + 1 := ⟨n - 1, by omega⟩
    have hpN : p < N := by omega
    have hor := or_lt hs hpN
    have hih := ih (p + 1) n (by omega) (by omega)
    have ht := tk_b hN hw9 hc9 s p hpN
    have hc := CC_c (A := A) hN hw9 hc9 hor
    have hinv := fW_inv (N := N) (A := A) (cs := cs) (M := 72009) (s := s) (g := GW N A cs wn) (tk_b hN hw9 hc9 s) (by omega) (fun p hp hcf => CC_c hN hw9 hc9 (or_lt hs hp)) p (by omega)
    rw [Ord_weighRests_L39, if_neg (nI_ge hpN (by omega)), E_cw (A := A) (wn := wn) hN hA hAl hcs hs hpN (fun h => hrc _ (cf_gt (by omega) (by omega) h) hor) (GW_le hN hor)]
    simp only [bindS, jn, nmI_e, nI_a1]
    generalize hF : fWC A cs (tkS wn s N) s (GW N A cs wn) p = F at hinv ⊢
    by_cases hcf : cfB A p s = true
    · rw [fW_1 hcf, hF] at hih
      unfold cok WW CC at hc
      rcases hc with ⟨c1, c2⟩ | ⟨c1, c2⟩
      · rw [show (if cfB A p s = true ∧ WW N A cs wn (s ||| 2 ^ p) ≠ 0 then nI (cs p * tkS wn s N + CC N A cs wn (s ||| 2 ^ p)) else -1) = -1 from if_neg (fun h => h.2 c1), if_pos (show (-1 : Int32) < 0 by decide)]
        rw [c1, c2, if_pos (by rcases hinv with ⟨-, h⟩ | ⟨-, h, -⟩ <;> omega), Nat.add_zero] at hih
        exact hih
      · rw [show (if cfB A p s = true ∧ WW N A cs wn (s ||| 2 ^ p) ≠ 0 then nI (cs p * tkS wn s N + CC N A cs wn (s ||| 2 ^ p)) else -1) = nI (cs p * tkS wn s N + (GW N A cs wn (s ||| 2 ^ p)).2) from if_pos ⟨hcf, c1⟩, if_neg (nI_pos (n := cs p * tkS wn s N + (GW N A cs wn (s ||| 2 ^ p)).2) (by omega))]
        have hne : ¬ F.1 + (GW N A cs wn (s ||| 2 ^ p)).1 = 0 := by omega
        rcases hinv with ⟨v1, v2⟩ | ⟨v1, v2, -⟩
        · rw [if_pos (show rcV F < 0 by unfold rcV; rw [if_pos v1]; decide)]
          rw [if_neg (by omega)] at hih
          unfold rcV at hih
          rw [if_neg hne] at hih
          exact hih
        · have er : rcV F = nI F.2 := by unfold rcV; rw [if_neg v1]
          rw [er, if_neg (nI_pos (by omega))]
          by_cases hle : F.2 ≤ cs p * tkS wn s N + (GW N A cs wn (s ||| 2 ^ p)).2
          · rw [if_pos (nI_le hle (by omega))]
            rw [if_pos hle] at hih
            unfold rcV at hih
            rw [if_neg hne] at hih
            exact hih
          · rw [if_neg (nI_ge (by omega) (by omega))]
            rw [if_neg hle] at hih
            unfold rcV at hih
            rw [if_neg hne] at hih
            exact hih
    · rw [show (if cfB A p s = true ∧ WW N A cs wn (s ||| 2 ^ p) ≠ 0 then nI (cs p * tkS wn s N + CC N A cs wn (s ||| 2 ^ p)) else -1) = -1 from if_neg (fun h => hcf h.1), if_pos (show (-1 : Int32) < 0 by decide)]
      rw [fW_0 hcf, hF] at hih
      exact hih
theorem we_out (hN : N ≤ 7) {lets : Nat → Int32} (hA : ∀ j, j < N → lets j = nI (A j)) (hAl : ∀ j, j < N → A j < 128) (hwn : ∀ p, p < N → wants p = nI (wn p)) (hcs : ∀ p, p < N → cost p = nI (cs p)) (hw9 : ∀ p, p < N → wn p ≤ 9) (hc9 : ∀ p, p < N → cs p ≤ 9) :
    ∀ (d n : Nat) (rc : Nat → Int32), d < 2 ^ N → d < n → (∀ t, d ≤ t → t < 2 ^ N → rc t = rcV (GW N A cs wn t)) →
    ∃ rc', Ord_weighRests_L20 (nI N) lets wants cost (fun x => some x) n (dn d) rc = some rc' ∧ ∀ t, t < 2 ^ N → rc' t = rcV (GW N A cs wn t) := by
  have h128 := p128 hN
  intro d
  induction d with
  | zero =>
    intro n rc hd hn hT
    obtain ⟨n, rfl⟩ : ∃ k, n = k + 1 := ⟨n - 1, by omega⟩
    refine ⟨rc, ?_, fun t ht => hT t (by omega) ht⟩
    rw [Ord_weighRests_L20, if_pos (by decide)]
  | succ s ih =>
    intro n rc hd hn hT
    obtain ⟨n, rfl⟩ : ∃ k, n = k + 1 := ⟨n - 1, by omega⟩
    have e := we_in (A := A) (wn := wn) hN hA hAl hcs hw9 hc9 (show s < 2 ^ N by omega) (rc := rc) (fun t h1 h2 => hT t (by omega) h2) (fun x5 => wrA rc 128 (nI s) x5 (fun r => nmI (nI s + (-1)) (fun x3 => Ord_weighRests_L20 (nI N) lets wants cost (fun x => some x) n x3 r))) N 0 FU (by omega) (by unfold FU; omega)
    rw [show rcV (fWC A cs (tkS wn s N) s (GW N A cs wn) 0) = -4 from rfl, show nI 0 = (0 : Int32) from rfl, ← GW_step hN (by omega) (by omega)] at e
    rw [show dn (s + 1) = nI s from rfl, Ord_weighRests_L20, if_neg (nI_pos (by omega)), E_minT hN hwn]
    simp only [bindS]
    rw [e, wrA_nI (by omega) (by omega)]
    simp only [nmI_e]
    rw [dn_m1]
    exact ih n _ (by omega) (by omega) (fun t h1 h2 => by
      by_cases e : t = s
      · rw [e, upd_s]
      · rw [upd_n e]; exact hT t (by omega) h2)
theorem E_weighR (hN : N ≤ 7) {lets : Nat → Int32} (hA : ∀ j, j < N → lets j = nI (A j)) (hAl : ∀ j, j < N → A j < 128) (hwn : ∀ p, p < N → wants p = nI (wn p)) (hcs : ∀ p, p < N → cost p = nI (cs p)) (hw9 : ∀ p, p < N → wn p ≤ 9) (hc9 : ∀ p, p < N → cs p ≤ 9) (rc : Nat → Int32) :
    ∃ rc', Ord_weighRests (nI N) lets rc wants cost = some rc' ∧ ∀ t, t < 2 ^ N → rc' t = rcV (GW N A cs wn t) := by
  have h128 := p128 hN
  have hpos : 0 < 2 ^ N := Nat.two_pow_pos N
  obtain ⟨rc', e1, e2⟩ := we_out (A := A) hN hA hAl hwn hcs hw9 hc9 (2 ^ N - 1) FU (upd rc (2 ^ N - 1) 0) (by omega) (by unfold FU; omega) (fun t h1 h2 => by
    have : t = 2 ^ N - 1 := by omega
    rw [this, upd_s, GW_full]; rfl)
  refine ⟨rc', ?_, e2⟩
  unfold Ord_weighRests
  rw [one_sh N (by omega), nI_m1 hpos]
  simp only [nmI_e]
  rw [wrA_nI (by omega) (by omega), dn_N0]
  exact e1
end SHOP
