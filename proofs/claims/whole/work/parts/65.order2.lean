section ORDER
variable {N : Nat} {A cs wn : Nat → Nat} {people law counters : Int32} {kind father comes wants cost coins debts st : Nat → Int32}
theorem wn_ex (hR : RT N people law counters kind father comes wants cost coins debts st 0) : ∃ wn : Nat → Nat, (∀ p, p < N → wants p = nI (wn p)) ∧ ∀ p, p < N → wn p ≤ 9 := by
  refine ⟨fun p => (wants p).toNatClampNeg, fun p hp => ?_, fun p hp => ?_⟩
  · obtain ⟨-, ⟨w, h1, h2, h3⟩, -⟩ := hR.rng p hp
    show wants p = nI (wants p).toNatClampNeg
    rw [h3, nI_clamp (by omega)]
  · obtain ⟨-, ⟨w, h1, h2, h3⟩, -⟩ := hR.rng p hp
    show (wants p).toNatClampNeg ≤ 9
    rw [h3, nI_clamp (by omega)]; exact h2
theorem cs_ex (hR : RT N people law counters kind father comes wants cost coins debts st 0) : ∃ cs : Nat → Nat, (∀ p, p < N → cost p = nI (cs p)) ∧ ∀ p, p < N → cs p ≤ 9 := by
  refine ⟨fun p => (cost p).toNatClampNeg, fun p hp => ?_, fun p hp => ?_⟩
  · obtain ⟨-, -, ⟨w, h2, h3⟩⟩ := hR.rng p hp
    show cost p = nI (cost p).toNatClampNeg
    rw [h3, nI_clamp (by omega)]
  · obtain ⟨-, -, ⟨w, h2, h3⟩⟩ := hR.rng p hp
    show (cost p).toNatClampNeg ≤ 9
    rw [h3, nI_clamp (by omega)]; exact h2
/-- the places asked for: 10 and on -/
theorem plc_cases (hN : N ≤ 7) (p : Int32) : (∃ j, j < N ∧ p - 10 = nI j ∧ Let_isPlace (p - 10) (nI N) = some 1 ∧ Mod_in p.toInt64 10 ((9 + nI N).toInt64) = some 1) ∨ (Let_isPlace (p - 10) (nI N) = some 0 ∧ Mod_in p.toInt64 10 ((9 + nI N).toInt64) = some 0) := by
  have e9 : 9 + nI N = nI (9 + N) := by rw [show (9 : Int32) = nI 9 from rfl, nI_add]
  rw [e9, E_in32c p (lo := 10) (hi := (nI (9 + N)).toInt64) (a := 10) (b := nI (9 + N)) rfl rfl, show Let_isPlace (p - 10) (nI N) = Twn_isOne (p - 10) (nI N) from rfl, E_isOneT]
  rcases oneB_cases hN (p - 10) with ⟨g, j, hj, e⟩ | g
  · left
    have ep : p = nI (10 + j) := by
      have : p = (p - 10) + 10 := by simp
      rw [this, e, show (10 : Int32) = nI 10 from rfl, nI_add, Nat.add_comm]
    refine ⟨j, hj, e, by rw [g], ?_⟩
    rw [if_pos]
    rw [ep]
    exact ⟨nI_le (a := 10) (by omega) (by omega), nI_le (by omega) (by omega)⟩
  · right
    refine ⟨by rw [g], ?_⟩
    rw [if_neg]
    intro ⟨h1, h2⟩
    obtain ⟨k, hk, rfl⟩ := nI_of (x := p) (i32_nlt.mpr (by rw [t32_le] at h1 ⊢; exact Int.le_trans (by decide) h1))
    have h3 : 10 ≤ k := (nI_leI (a := 10) (by omega) (by omega)).mp h1
    have h4 : k ≤ 9 + N := (nI_leI (by omega) (by omega)).mp h2
    have e5 : nI k - 10 = nI (k - 10) := by rw [show (10 : Int32) = nI 10 from rfl, pk_sub h3]
    rw [e5] at g
    unfold oneB at g
    rw [if_pos ⟨nI_le (a := 0) (by omega) (by omega), nI_lt (by omega) (by omega)⟩] at g
    exact absurd g (by decide)
theorem E_oneAt {j : Nat} (hN : N ≤ 7) (hj : j < N) (ones : Nat → Int32) : Row_oneAt (nI j) (nI N) ones = some (ones j) := by
  unfold Row_oneAt
  rw [if_neg (nI_pos (by omega)), if_neg (nI_ge (by omega) (by omega)), rdA_nI (by omega) (by omega)]
theorem rd0 {α : Type} {f : Nat → Int32} {k : Int32 → Option α} : rdA f 128 0 k = k (f 0) := rdA_nI (j := 0) (by omega) (by omega)
theorem ch_same {Q Q' : Nat → Nat → Bool} (h : ∀ s p, p < N → Q s p = Q' s p) : (∀ j, sq Q N j = sq Q' N j) ∧ ∀ s, ch (Q s) N 0 = ch (Q' s) N 0 := by
  have h2 : ∀ s, ch (Q s) N 0 = ch (Q' s) N 0 := fun s => ch_eq N 0 (fun q _ hq => h s q (by omega))
  refine ⟨fun j => ?_, h2⟩
  induction j with
  | zero => rfl
  | succ j ih =>
    show sq Q N j ||| 2 ^ ch (Q (sq Q N j)) N 0 = sq Q' N j ||| 2 ^ ch (Q' (sq Q' N j)) N 0
    rw [ih, h2]
theorem P_order (hR : RT N people law counters kind father comes wants cost coins debts st 0) (p op fl : Int32) (ol ow oo wa ca ah : Nat → Int32) :
    ∃ o1 o2, Let_order p people law kind father debts op ol ow fl oo = some o1 ∧ Mod_order p st wa ca ah = some o2 ∧ o1.1 = o2.1 := by
  have hN := hR.N7
  have hm : st 93 = nI N := hR.many
  have hpp := hR.ppl
  subst hpp
  have h128 := p128 hN
  have hpos : 0 < 2 ^ N := Nat.two_pow_pos N
  obtain ⟨wn, hwn, hw9⟩ := wn_ex hR
  obtain ⟨cs, hcs, hc9⟩ := cs_ex hR
  obtain ⟨lets', l1, l2⟩ := E_ask (law := law) (debts := debts) hN hR.fok ol
  obtain ⟨wa', ca', ah', m1, m2, m3⟩ := E_lay hR hwn hw9 hcs hc9 wa ca ah
  have hAl : ∀ j, j < N → aS (mustV law kind father debts) j N < 128 := fun j _ => by have := aS_lt (mustV law kind father debts) j N; omega
  generalize hA : (fun j => aS (mustV law kind father debts) j N) = A at m2
  have hA' : ∀ j, aS (mustV law kind father debts) j N = A j := fun j => by rw [← hA]
  simp only [hA'] at l2 m3 hAl
  unfold Let_order Mod_order
  simp only [jn]
  rw [l1, m1, E_manyM hm]
  simp only [bindS, rd0]
  have hwb := WW_b (A := A) (cs := cs) (wn := wn) hN hpos
  rw [(m2 0 hpos).1]
  by_cases h0 : p = 0
  · simp only [h0, if_true]
    obtain ⟨wy, e⟩ := E_number hN cs wn l2 hAl ow
    rw [e]
    simp only [bindS]
    exact ⟨_, _, rfl, rfl, rfl⟩
  · simp only [h0, if_false]
    rcases plc_cases hN p with ⟨j, hj, e, g1, g2⟩ | ⟨g1, g2⟩
    · rw [g1, g2, e]
      simp only [bindS, i10, if_false]
      rcases E_first hN l2 hAl oo with ⟨hall, ones', f1, f2⟩ | ⟨hno, l, ones', f1⟩
      · have hW0 := sq_none (cs := cs) (wn := wn) hN (Q := Q1 A) (fun _ _ _ h => h) hall
        have hW : ∀ t, t < 2 ^ N → WW N A cs wn t ≠ 0 := fun t ht => WW_all hN hW0 (2 ^ N - 1 - t) t (by omega)
        have hQ : ∀ s p, p < N → Q1 A s p = Q3 N A cs wn false s p := fun s p _ => by unfold Q3; simp
        obtain ⟨q1, q2⟩ := ch_same hQ
        have hall3 : ∀ j, j < N → ch (Q3 N A cs wn false (sq (Q3 N A cs wn false) N j)) N 0 < N := fun j hj => by rw [← q1, ← q2]; exact hall j hj
        have ei := E_inOrder (p2 := 0) hR hwn hw9 hcs hc9 m3 hAl m2 hW false rfl hall3 hj
        rw [f1, ei]
        simp only [bindS, i10, if_false]
        rw [E_oneAt hN hj, if_neg (show ¬ nI (WW N A cs wn 0) = 0 from fun hh => hW0 ((nI_eq (b := 0) (by omega) (by omega)).mp hh))]
        simp only [bindS]
        refine ⟨_, _, rfl, rfl, ?_⟩
        show ones' j = nI (ch (Q3 N A cs wn false (sq (Q3 N A cs wn false) N j)) N 0)
        rw [f2 j hj, q1, q2]
      · have hW0 : WW N A cs wn 0 = 0 := by
          by_cases hh : WW N A cs wn 0 = 0
          · exact hh
          · exact absurd (sq_some hN (Q := Q1 A) (A := A) (fun _ _ _ h => h) (fun s hs hne => WW_ex (cs := cs) (wn := wn) hN hs hne (2 ^ N - 1) 0 (by omega) (Nat.zero_and s) hh)) hno
        rw [f1, if_pos (show nI (WW N A cs wn 0) = 0 by rw [hW0]; rfl)]
        simp only [bindS, i00, if_true]
        exact ⟨_, _, rfl, rfl, rfl⟩
    · rw [g1, g2]
      simp only [bindS, i00, if_true]
      exact ⟨_, _, rfl, rfl, rfl⟩
end ORDER
