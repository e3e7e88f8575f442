section SHOP
variable {N : Nat} {A cs wn : Nat → Nat} {people law counters : Int32} {kind father comes wants cost coins debts st : Nat → Int32}
theorem fb_in (hN : N ≤ 7) {lets rc : Nat → Int32} (hA : ∀ j, j < N → lets j = nI (A j)) (hAl : ∀ j, j < N → A j < 128) (hcs : ∀ p, p < N → cost p = nI (cs p)) (hw9 : ∀ p, p < N → wn p ≤ 9) (hc9 : ∀ p, p < N → cs p ≤ 9) (hW : ∀ t, t < 2 ^ N → WW N A cs wn t ≠ 0) (hrc : ∀ t, t < 2 ^ N → rc t = rcV (GW N A cs wn t)) {s : Nat} (hs : s < 2 ^ N) (K : Int32 → Option (Int32 × (Nat → Int32) × Int32 × (Nat → Int32))) :
    ∀ (d n : Nat) (x : Int32), d ≤ N → d < n → Ord_findBest_L56 lets cost rc (nI s) (nI (tkS wn s N)) K n x (dn d) = K (if ch (Q3 N A cs wn true s) d 0 < d then nI (ch (Q3 N A cs wn true s) d 0) else x) := by
  have h128 := p128 hN
  intro d
  induction d with
  | zero =>
    intro n x hd hn
    obtain ⟨n, rfl⟩ : ∃ k, n = k + 1 := ⟨n - 1, by omega⟩
    rw [Ord_findBest_L56, if_pos (by decide), if_neg (show ¬ ch (Q3 N A cs wn true s) 0 0 < 0 by omega)]
  | succ d ih =>
    intro n x hd hn
    obtain ⟨n, rfl⟩ : ∃ k, n = k + 1 := ⟨n - 1, by omega⟩
    have hdN : d < N := by omega
    have hor := or_lt hs hdN
    have ht := tk_b hN hw9 hc9 s d hdN
    have hb : CC N A cs wn (s ||| 2 ^ d) ≤ 1000000 := GW_le hN hor
    have hb2 : CC N A cs wn s ≤ 1000000 := GW_le hN hs
    rw [show dn (d + 1) = nI d from rfl, Ord_findBest_L56, if_neg (nI_pos (by omega)), E_cw (A := A) (wn := wn) hN hA hAl hcs hs hdN (fun _ => hrc _ hor) (GW_le hN hor)]
    simp only [bindS, nmI_e, dn_m1]
    rw [rdA_nI (by omega) (by omega), hrc s hs, show rcV (GW N A cs wn s) = nI (CC N A cs wn s) from if_neg (hW s hs)]
    have hle := (ch_le (Q3 N A cs wn true s) d 0).2
    have hq : (if cfB A d s = true ∧ WW N A cs wn (s ||| 2 ^ d) ≠ 0 then nI (cs d * tkS wn s N + CC N A cs wn (s ||| 2 ^ d)) else -1) = nI (CC N A cs wn s) ↔ Q3 N A cs wn true s d = true := by
      unfold Q3
      by_cases hcf : cfB A d s = true
      · rw [if_pos ⟨hcf, hW _ hor⟩, nI_eq (by omega) (by omega), hcf]
        simp
      · rw [if_neg (fun h => hcf h.1)]
        constructor
        · intro h
          have := nI_pos (n := CC N A cs wn s) (by omega)
          rw [← h] at this
          exact absurd (by decide) this
        · intro h
          simp [hcf] at h
    rw [ch_s, Nat.zero_add]
    by_cases hqq : Q3 N A cs wn true s d = true
    · rw [if_pos (hq.mpr hqq), ih n (nI d) (by omega) (by omega), if_pos hqq]
      by_cases h : ch (Q3 N A cs wn true s) d 0 < d
      · rw [if_pos h, if_pos h, if_pos (by omega)]
      · rw [if_neg h, if_neg h, if_pos (by omega)]
    · rw [if_neg (fun h => hqq (hq.mp h)), ih n x (by omega) (by omega), if_neg hqq]
      by_cases h : ch (Q3 N A cs wn true s) d 0 < d
      · rw [if_pos h, if_pos h, if_pos (by omega)]
      · rw [if_neg h, if_neg h, if_neg (by omega)]
theorem fb_step (hN : N ≤ 7) {lets rc : Nat → Int32} (hA : ∀ j, j < N → lets j = nI (A j)) (hAl : ∀ j, j < N → A j < 128) (hwn : ∀ p, p < N → wants p = nI (wn p)) (hcs : ∀ p, p < N → cost p = nI (cs p)) (hw9 : ∀ p, p < N → wn p ≤ 9) (hc9 : ∀ p, p < N → cs p ≤ 9) (hW : ∀ t, t < 2 ^ N → WW N A cs wn t ≠ 0) (hrc : ∀ t, t < 2 ^ N → rc t = rcV (GW N A cs wn t)) (KB KG : Int32 → (Nat → Int32) → Option (Int32 × (Nat → Int32) × Int32 × (Nat → Int32))) {s i c n : Nat} {ones : Nat → Int32} (hs : s < 2 ^ N) (hi : i < N) (hc : ch (Q3 N A cs wn true s) N 0 = c) :
    Ord_findBest_L28 (nI N) lets wants cost rc KB KG (n + 1) (nI s) (nI i) (nI i) ones = if c < N then Ord_findBest_L28 (nI N) lets wants cost rc KB KG n (nI (s ||| 2 ^ c)) (nI (i + 1)) (nI (i + 1)) (upd ones i (nI c)) else KB (nI i) ones := by
  rw [Ord_findBest_L28, if_neg (nI_ge hi (by omega)), E_minT hN hwn]
  simp only [bindS, nmI_e]
  rw [dn_N (by omega), fb_in hN hA hAl hcs hw9 hc9 hW hrc hs _ N FU (-4) (Nat.le_refl _) (by unfold FU; omega), hc]
  by_cases h : c < N
  · simp only [h, if_true]
    rw [if_pos ((nI_0le (by omega)).mpr trivial), E_rowadd (by omega)]
    simp only [bindS]
    rw [one_sh _ (by omega), nx_or, nI_a1]
  · simp only [h, if_false]
    rw [if_neg (by decide)]
/-- THE BEST ORDER found: none, or its cost and its row -/
theorem E_best (hN : N ≤ 7) {lets : Nat → Int32} (hA : ∀ j, j < N → lets j = nI (A j)) (hAl : ∀ j, j < N → A j < 128) (hwn : ∀ p, p < N → wants p = nI (wn p)) (hcs : ∀ p, p < N → cost p = nI (cs p)) (hw9 : ∀ p, p < N → wn p ≤ 9) (hc9 : ∀ p, p < N → cs p ≤ 9) (rc ones : Nat → Int32) (fl : Int32) :
    (WW N A cs wn 0 ≠ 0 ∧ (∀ j, j < N → ch (Q3 N A cs wn true (sq (Q3 N A cs wn true) N j)) N 0 < N) ∧ ∃ rc' ones', Ord_findBest (nI N) lets rc fl ones wants cost = some (1, rc', nI N, ones') ∧ rc' 0 = nI (CC N A cs wn 0) ∧ RFo N (Q3 N A cs wn true) ones') ∨
    (WW N A cs wn 0 = 0 ∧ ∃ o, Ord_findBest (nI N) lets rc fl ones wants cost = some (0, o)) := by
  have h128 := p128 hN
  have hpos : 0 < 2 ^ N := Nat.two_pow_pos N
  obtain ⟨rc', e1, e2⟩ := E_weighR (A := A) hN hA hAl hwn hcs hw9 hc9 rc
  have hb : CC N A cs wn 0 ≤ 1000000 := GW_le hN hpos
  unfold Ord_findBest
  rw [e1]
  simp only [bindS, rd0]
  rw [e2 0 hpos]
  by_cases hW0 : WW N A cs wn 0 = 0
  · right
    rw [show rcV (GW N A cs wn 0) = -4 from if_pos hW0, if_neg (by decide)]
    exact ⟨hW0, _, rfl⟩
  · left
    have hW : ∀ t, t < 2 ^ N → WW N A cs wn t ≠ 0 := fun t ht => WW_all hN hW0 (2 ^ N - 1 - t) t (by omega)
    have hall := sq_some hN (Q := Q3 N A cs wn true) (A := A) (Q3_ok true) (fun s hs hne => CC_at hN hw9 hc9 hs hne (hW s hs))
    refine ⟨hW0, hall, rc', ?_⟩
    have e0 : rc' 0 = nI (CC N A cs wn 0) := by rw [e2 0 hpos]; exact if_neg hW0
    have h := row_gen (A := A) (Q := Q3 N A cs wn true) hN (Q3_ok true) (F := fun n s i ones => Ord_findBest_L28 (nI N) lets wants cost rc' (fun l o => some (0, rc', l, o)) (fun l o => some (1, rc', l, o)) n (nI s) (nI i) (nI i) ones) (KB := fun l o => some (0, rc', l, o)) (KG := fun l o => some (1, rc', l, o))
      (fun n s i ones hs hi => fb_step hN hA hAl hwn hcs hw9 hc9 hW e2 _ _ hs hi rfl) (fun n s ones => by
        show Ord_findBest_L28 (nI N) lets wants cost rc' _ _ (n + 1) (nI s) (nI N) (nI N) ones = _
        rw [Ord_findBest_L28, if_pos (nI_le (Nat.le_refl _) (by omega))]) N 0 FU ones (by omega) (by unfold FU; omega) (fun j hj => by omega) (fun j hj => by omega)
    rw [show sq (Q3 N A cs wn true) N 0 = 0 from rfl, show nI 0 = (0 : Int32) from rfl] at h
    rw [show rcV (GW N A cs wn 0) = nI (CC N A cs wn 0) from if_neg hW0, if_pos ((nI_0le (by omega)).mpr trivial)]
    rcases h with ⟨-, ones', q1, q2⟩ | ⟨hno, -⟩
    · exact ⟨ones', q1, e0, q2⟩
    · exact absurd hall hno
theorem P_shop (hR : RT N people law counters kind father comes wants cost coins debts st 0) (p op fl : Int32) (ol rc oo wa ca ah : Nat → Int32) :
    ∃ o1 o2, Let_shop p people law kind father wants cost debts op ol rc fl oo = some o1 ∧ Mod_shop p st wa ca ah = some o2 ∧ o1.1 = o2.1 := by
  have hN := hR.N7
  have hm : st 93 = nI N := hR.many
  have hpp := hR.ppl
  subst hpp
  have h128 := p128 hN
  have hpos : 0 < 2 ^ N := Nat.two_pow_pos N
  obtain ⟨wn, hwn, hw9⟩ := wn_ex hR
  obtain ⟨cs, hcs, hc9⟩ := cs_ex hR
  obtain ⟨lets', l1, l2⟩ := E_ask (law := law) (debts := debts) hN hR.fok ol
  obtain ⟨wa', ca', ah', m1, m2, m3⟩ := E_lay hR hwn hw9 hcs hc9 wa ca ah
  have hAl : ∀ j, j < N → aS (mustV law kind father debts) j N < 128 := fun j _ => by have := aS_lt (mustV law kind father debts) j N; omega
  generalize hA : (fun j => aS (mustV law kind father debts) j N) = A at m2
  have hA' : ∀ j, aS (mustV law kind father debts) j N = A j := fun j => by rw [← hA]
  simp only [hA'] at l2 m3 hAl
  unfold Let_shop Mod_shop
  simp only [jn]
  rw [l1, m1, E_manyM hm]
  simp only [bindS, rd0]
  have hwb := WW_b (A := A) (cs := cs) (wn := wn) hN hpos
  rw [(m2 0 hpos).1, (m2 0 hpos).2]
  rcases E_best (A := A) hN l2 hAl hwn hcs hw9 hc9 rc oo fl with ⟨hW0, hall, rc', ones', f1, f2, f3⟩ | ⟨hW0, ⟨a, b, c⟩, f1⟩
  · have hW : ∀ t, t < 2 ^ N → WW N A cs wn t ≠ 0 := fun t ht => WW_all hN hW0 (2 ^ N - 1 - t) t (by omega)
    rw [f1, if_neg (show ¬ nI (WW N A cs wn 0) = 0 from fun hh => hW0 ((nI_eq (b := 0) (by omega) (by omega)).mp hh))]
    simp only [bindS, i10, if_false]
    by_cases h0 : p = 0
    · simp only [h0, if_true]
      unfold Ord_leastCost
      simp only [rd0, bindS]
      exact ⟨_, _, rfl, rfl, f2⟩
    · simp only [h0, if_false]
      rcases plc_cases hN p with ⟨j, hj, e, g1, g2⟩ | ⟨g1, g2⟩
      · have ei := E_inOrder (p2 := 1) hR hwn hw9 hcs hc9 m3 hAl m2 hW true rfl hall hj
        rw [g1, g2, e, ei, E_oneAt hN hj]
        simp only [bindS, i10, if_false]
        exact ⟨_, _, rfl, rfl, f3 j hj⟩
      · rw [g1, g2]
        simp only [bindS, i00, if_true]
        exact ⟨_, _, rfl, rfl, rfl⟩
  · rw [f1, if_pos (show nI (WW N A cs wn 0) = 0 by rw [hW0]; rfl)]
    simp only [bindS, i00, if_true]
    by_cases h0 : p = 0
    · simp only [h0, if_true]
      exact ⟨_, _, rfl, rfl, rfl⟩
    · simp only [h0, if_false]
      rcases plc_cases hN p with ⟨j, hj, e, g1, g2⟩ | ⟨g1, g2⟩
      · rw [g1, g2]
        simp only [bindS, i10, if_false]
        exact ⟨_, _, rfl, rfl, rfl⟩
      · rw [g1, g2]
        simp only [bindS, i00, if_true]
        exact ⟨_, _, rfl, rfl, rfl⟩
end SHOP
