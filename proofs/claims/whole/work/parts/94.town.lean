section TOWN
theorem E_emptyL (K : (Nat → Int32) → Option (Int32 × Int32 × Int32 × (Nat → Int32))) : ∀ (d s f : Nat) (dd : Nat → Int32), s + d = 49 → d < f → (∀ k, k < s → dd k = 0) → ∃ dd', Twn_becomeEmpty_L17 K f (nI s) dd = K dd' ∧ ∀ k, k < 49 → dd' k = 0 := by
  intro d
  induction d with
  | zero =>
    intro s f dd hs hf h
    obtain ⟨f, rfl⟩ : ∃ m, f = m + 1 := ⟨f - 1, by omega⟩
    exact ⟨dd, by rw [Twn_becomeEmpty_L17, if_pos (show (49 : Int32) ≤ nI s from nI_le (a := 49) (by omega) (by omega))], fun k hk => h k (by omega)⟩
  | succ d ih =>
    intro s f dd hs hf h
    obtain ⟨f, rfl⟩ : ∃ m, f = m + 1 := ⟨f - 1, by omega⟩
    rw [Twn_becomeEmpty_L17, if_neg (show ¬ (49 : Int32) ≤ nI s from nI_ge (b := 49) (by omega) (by omega)), wrA_nI (by omega) (by omega)]
    simp only [nmI_e, nI_a1]
    exact ih (s + 1) f _ (by omega) (by omega) (fun k hk => by
      by_cases e : k = s
      · rw [e, upd_s]
      · rw [upd_n e]; exact h k (by omega))
theorem E_empty (dd : Nat → Int32) : ∃ dd', Twn_becomeEmpty dd = some (0, 0, 1, dd') ∧ ∀ k, k < 49 → dd' k = 0 := E_emptyL _ 49 0 FU dd (by omega) (by unfold FU; omega) (fun k hk => by omega)
theorem E_L29 (K : (Nat → Int32) → Option (Int32 × Int32 × Int32 × Int32 × Int32 × Int32 × Int32 × Int32 × Int32 × Int32 × Int32 × Int32 × Int32 × (Nat → Int32) × (Nat → Int32) × (Nat → Int32))) : ∀ (d s f : Nat) (dd : Nat → Int32), s + d = 94 → d < f → (∀ k, k < s → dd k = 0) → ∃ dd', Mod_town_L29 K f (nI s) dd = K dd' ∧ ∀ k, k < 94 → dd' k = 0 := by
  intro d
  induction d with
  | zero =>
    intro s f dd hs hf h
    obtain ⟨f, rfl⟩ : ∃ m, f = m + 1 := ⟨f - 1, by omega⟩
    exact ⟨dd, by rw [Mod_town_L29, if_pos (show (94 : Int32) ≤ nI s from nI_le (a := 94) (by omega) (by omega))], fun k hk => h k (by omega)⟩
  | succ d ih =>
    intro s f dd hs hf h
    obtain ⟨f, rfl⟩ : ∃ m, f = m + 1 := ⟨f - 1, by omega⟩
    rw [Mod_town_L29, if_neg (show ¬ (94 : Int32) ≤ nI s from nI_ge (b := 94) (by omega) (by omega)), wrA_nI (by omega) (by omega)]
    simp only [nmI_e, nI_a1]
    exact ih (s + 1) f _ (by omega) (by omega) (fun k hk => by
      by_cases e : k = s
      · rw [e, upd_s]
      · rw [upd_n e]; exact h k (by omega))
theorem E_L133 (rp : Nat → Int32) (K : (Nat → Int32) → Option (Int32 × Int32 × Int32 × Int32 × Int32 × Int32 × Int32 × Int32 × Int32 × Int32 × Int32 × Int32 × Int32 × (Nat → Int32) × (Nat → Int32) × (Nat → Int32))) (st : Nat → Int32) : ∀ (d s f : Nat) (x : Nat → Int32), s + d = 94 → d < f → (∀ k, k < s → x k = rp k) → (∀ k, 94 ≤ k → x k = st k) → ∃ x', Mod_town_L133 rp K f (nI s) x = K x' ∧ (∀ k, k < 94 → x' k = rp k) ∧ ∀ k, 94 ≤ k → x' k = st k := by
  intro d
  induction d with
  | zero =>
    intro s f dd hs hf h h2
    obtain ⟨f, rfl⟩ : ∃ m, f = m + 1 := ⟨f - 1, by omega⟩
    exact ⟨dd, by rw [Mod_town_L133, if_pos (show (94 : Int32) ≤ nI s from nI_le (a := 94) (by omega) (by omega))], fun k hk => h k (by omega), h2⟩
  | succ d ih =>
    intro s f dd hs hf h h2
    obtain ⟨f, rfl⟩ : ∃ m, f = m + 1 := ⟨f - 1, by omega⟩
    rw [Mod_town_L133, if_neg (show ¬ (94 : Int32) ≤ nI s from nI_ge (b := 94) (by omega) (by omega)), rdA_nI (by omega) (by omega), wrA_nI (by omega) (by omega)]
    simp only [nmI_e, nI_a1]
    exact ih (s + 1) f _ (by omega) (by omega) (fun k hk => by
      by_cases e : k = s
      · rw [e, upd_s]
      · rw [upd_n e]; exact h k (by omega)) (fun k hk => by rw [upd_n (by omega)]; exact h2 k hk)
theorem nar0 : vp_nar .boolean 0 = 0 := by decide
theorem E_kept (K : (Nat → Int32) → Option (Int32 × Int32 × Int32 × Int32 × Int32 × Int32 × Int32 × Int32 × Int32 × Int32 × Int32 × Int32 × (Nat → Int32) × (Nat → Int32) × (Nat → Int32) × (Nat → Int32) × (Nat → Int32) × (Nat → Int32) × (Nat → Int32) × Int32 × Int32 × Int32 × (Nat → Int32) × (Nat → Int32) × (Nat → Int32) × (Nat → Int32) × (Nat → Int32) × (Nat → Int32) × (Nat → Int32) × (Nat → Int32) × Int32)) (kept : Nat → Int32) : Let_town_L50 K FU 0 kept = K (upd (upd kept 0 0) 1 0) := by
  have w0 : ∀ (f : Nat → Int32) (x : Int32) (k : (Nat → Int32) → Option (Int32 × Int32 × Int32 × Int32 × Int32 × Int32 × Int32 × Int32 × Int32 × Int32 × Int32 × Int32 × (Nat → Int32) × (Nat → Int32) × (Nat → Int32) × (Nat → Int32) × (Nat → Int32) × (Nat → Int32) × (Nat → Int32) × Int32 × Int32 × Int32 × (Nat → Int32) × (Nat → Int32) × (Nat → Int32) × (Nat → Int32) × (Nat → Int32) × (Nat → Int32) × (Nat → Int32) × (Nat → Int32) × Int32)), wrA f 2 0 x k = k (upd f 0 x) := fun f x k => wrA_nI (j := 0) (by omega) (by omega)
  have w1 : ∀ (f : Nat → Int32) (x : Int32) (k : (Nat → Int32) → Option (Int32 × Int32 × Int32 × Int32 × Int32 × Int32 × Int32 × Int32 × Int32 × Int32 × Int32 × Int32 × (Nat → Int32) × (Nat → Int32) × (Nat → Int32) × (Nat → Int32) × (Nat → Int32) × (Nat → Int32) × (Nat → Int32) × Int32 × Int32 × Int32 × (Nat → Int32) × (Nat → Int32) × (Nat → Int32) × (Nat → Int32) × (Nat → Int32) × (Nat → Int32) × (Nat → Int32) × (Nat → Int32) × Int32)), wrA f 2 1 x k = k (upd f 1 x) := fun f x k => wrA_nI (j := 1) (by omega) (by omega)
  rw [show FU = 997 + 1 + 1 + 1 from rfl, Let_town_L50, if_neg (by decide), w0, nar0]
  simp only [nmI_e]
  rw [show (0 : Int32) + 1 = 1 from rfl, Let_town_L50, if_neg (by decide), w1, nar0]
  simp only [nmI_e]
  rw [show (1 : Int32) + 1 = 2 from rfl, Let_town_L50, if_pos (by decide)]
variable {N H : Nat} {people law counters : Int32} {kind father comes wants cost coins debts rp st : Nat → Int32} {hi : Int32}
theorem RD_RT (h : RD N H people law counters kind father comes wants cost coins debts rp hi) (hH : H ≤ N) (hs : ∀ k, k < 94 → st k = rp k) : RT N people law counters kind father comes wants cost coins debts st 0 ∧ TOK N 50 coins debts := by
  obtain ⟨⟨a1, a2, a3, a4, a5, c, a6, a7, a8⟩, b1, b2, b3, b4, ⟨c1, c2, c3⟩, d1, d2, d3⟩ := h
  refine ⟨⟨a1, a2, by rw [Nat.zero_add, hs _ (by omega)]; exact a3, by rw [Nat.zero_add, hs _ (by omega)]; exact a4, a5, ⟨c, a6, a7, by rw [Nat.zero_add, hs _ (by omega)]; exact a8⟩, fun p hp => ?_, fun p hp hk => ?_, fun p hp hk => ?_, fun p hp => ?_, fun k hk => ?_, c2⟩, ⟨fun p hp => (b4 p hp).2.2.2, fun k hk => ?_⟩⟩
  · rw [Nat.zero_add, hs _ (by omega), hs _ (by omega), hs _ (by omega), hs _ (by omega), hs _ (by omega)]; exact b1 p hp
  · obtain ⟨f, f1, f2, f3, f4, f5⟩ := b2 p hp hk
    exact ⟨f, by omega, f3, f4, by rw [Nat.zero_add, hs _ (by omega)]; exact f5⟩
  · rw [Nat.zero_add, hs _ (by omega)]; exact b3 p hp hk
  · obtain ⟨q1, q2, q3, -⟩ := b4 p hp
    exact ⟨q1, q2, q3⟩
  · rw [Nat.zero_add, hs _ (by omega)]; exact c1 k hk
  · obtain ⟨d, g1, g2, -⟩ := c3 (k / 7) (k % 7) (by omega) (by omega)
    rw [show 7 * (k / 7) + k % 7 = k by omega] at g2
    exact ⟨d, by omega, g2⟩
theorem dn_lt : ∀ H, H < 8 → ∀ N, N < 8 → (dn H < nI N ↔ H ≤ N) := by decide +kernel
theorem fK79_0 (x1 f a1 a2 a3 a4 a5 a6 a7 a8 a9 : Int32) (b1 b2 b3 b4 b5 b6 b7 : Nat → Int32) : fK79 x1 0 f a1 a2 a3 a4 a5 a6 a7 a8 a9 b1 b2 b3 b4 b5 b6 b7 = some ((-10) - a3, f, a1, a2, a3, a4, a5, a6, a7, a8, a9, b1, b2, b3, b4, b5, b6, b7) := by
  unfold fK79
  rw [if_pos rfl]
theorem fK79_1 (hR : RD N H (nI N) law counters kind father comes wants cost coins debts rp hi) (x1 f a1 a2 a3 a4 a5 a6 : Int32) : fK79 x1 1 f a1 a2 a3 a4 a5 a6 (nI N) law counters kind father comes wants cost coins debts = some (if H ≤ N then x1 else (-10) - a3, if H ≤ N then f else 6, a1, a2, a3, a4, a5, a6, nI N, law, counters, kind, father, comes, wants, cost, coins, debts) := by
  unfold fK79
  rw [if_neg (by decide), E_all hR]
  simp only [bindS]
  by_cases hH : H ≤ N
  · rw [if_pos hH, if_pos hH, if_pos hH]
    simp only [i10, if_false]
  · rw [if_neg hH, if_neg hH, if_neg hH]
    simp only [if_true]
theorem fK76_b {b : Int32} (hb : BK b) (sm : Int32) (st ik : Nat → Int32) (x1 hl hc hi ba sp he tk va : Int32) (rp : Nat → Int32) : fK76 sm st ik x1 hl hc hi b ba sp he tk va rp = some ((-10) - ba, hl, hc, hi, 0, b, b, ba, sp, he, tk, va, sm, st, rp, ik) := by
  unfold fK76
  simp only [jn]
  rw [if_neg hb.2, if_neg hb.1]
theorem fK76_0 (hR : RD N H people law counters kind father comes wants cost coins debts rp hi) (sm : Int32) (st ik : Nat → Int32) (x1 hl hc ba sp he tk va : Int32) : (H ≤ N ∧ ∃ st' ik', fK76 sm st ik x1 hl hc hi 0 ba sp he tk va rp = some (x1, hl, hc, hi, 0, 0, 0, ba, sp, he, tk, va, 0, st', rp, ik') ∧ (∀ k, k < 94 → st' k = rp k) ∧ (∀ k, 94 ≤ k → st' k = st k) ∧ ik' 0 = 0 ∧ ik' 1 = 0) ∨ (¬ H ≤ N ∧ fK76 sm st ik x1 hl hc hi 0 ba sp he tk va rp = some ((-10) - he, hl, hc, hi, 0, 6, 6, he, sp, he, tk, va, sm, st, rp, ik)) := by
  have h7 := hR.1.1
  have hH7 := hR.2.2.2.2.2.2.1
  have hhi := hR.2.2.2.2.2.2.2.1
  have h93 := hR.1.2.2.1
  have hlt : hi < nI N ↔ H ≤ N := by rw [hhi]; exact dn_lt H (by omega) N (by omega)
  by_cases hH : H ≤ N
  · left
    have w0 : ∀ (f : Nat → Int32) (x : Int32) (k : (Nat → Int32) → Option (Int32 × Int32 × Int32 × Int32 × Int32 × Int32 × Int32 × Int32 × Int32 × Int32 × Int32 × Int32 × Int32 × (Nat → Int32) × (Nat → Int32) × (Nat → Int32))), wrA f 2 0 x k = k (upd f 0 x) := fun f x k => wrA_nI (j := 0) (by omega) (by omega)
    have w1 : ∀ (f : Nat → Int32) (x : Int32) (k : (Nat → Int32) → Option (Int32 × Int32 × Int32 × Int32 × Int32 × Int32 × Int32 × Int32 × Int32 × Int32 × Int32 × Int32 × Int32 × (Nat → Int32) × (Nat → Int32) × (Nat → Int32))), wrA f 2 1 x k = k (upd f 1 x) := fun f x k => wrA_nI (j := 1) (by omega) (by omega)
    obtain ⟨st', e1, e2, e3⟩ := E_L133 rp (fun t => wrA ik 2 0 (vp_nar .boolean 0) (fun k1 => wrA k1 2 1 (vp_nar .boolean 0) (fun k2 => some (x1, hl, hc, hi, 0, 0, 0, ba, sp, he, tk, va, 0, t, rp, k2)))) st 94 0 FU st (by omega) (by unfold FU; omega) (fun k hk => by omega) (fun _ _ => rfl)
    rw [show nI 0 = (0 : Int32) from rfl] at e1
    refine ⟨hH, st', upd (upd ik 0 0) 1 0, ?_, e2, e3, ?_, ?_⟩
    · unfold fK76
      simp only [jn, if_true]
      rw [r93, h93, if_pos (hlt.mpr hH), if_pos (by decide)]
      refine Eq.trans e1 ?_
      rw [w0, w1, nar0]
    · rw [upd_n (by omega), upd_s]
    · rw [upd_s]
  · right
    refine ⟨hH, ?_⟩
    unfold fK76
    simp only [jn, if_true]
    rw [r93, h93, if_neg (fun hh => hH (hlt.mp hh)), fails_0]
    simp only [bindS]
    rw [if_neg (by decide)]
theorem RD_start {kind father comes wants cost coins debts rp : Nat → Int32} (hd : ∀ k, k < 49 → debts k = 0) (hr : ∀ k, k < 94 → rp k = 0) : RD 0 0 0 0 1 kind father comes wants cost coins debts rp (-1) := by
  refine ⟨⟨by omega, rfl, hr 93 (by omega), hr 91 (by omega), Or.inl rfl, 0, by omega, rfl, hr 92 (by omega)⟩, fun p hp => by omega, fun p hp => by omega, fun p hp => by omega, fun p hp => by omega, ⟨fun k hk => by rw [hr _ (by omega), hd k hk], fun a ha => hd _ (by omega), fun a b ha hb => ⟨0, by omega, hd _ (by omega), fun hh => absurd rfl hh⟩⟩, by omega, rfl, fun hh => absurd rfl hh⟩
set_option maxHeartbeats 2000000 in
theorem P_town {tl tm : Int32} {tb tp cuts letters : Nat → Int32} (hTp : RTp tl tb tm tp) (hC : CLt cuts letters) (people law counters sl ba he tk va sm : Int32) (dk1 dk2 dk3 dk4 dk5 dk6 dk7 kind father comes wants cost coins debts kept st rp ik : Nat → Int32) :
    (∃ (r fl a1 a2 a3 a4 a5 a6 a7 a8 a9 m1 m2 m3 m4 m5 m6 m7 m8 m9 : Int32) (b1 b2 b3 b4 b5 b6 b7 rp' : Nat → Int32), Let_town tl tb dk1 dk2 dk3 dk4 dk5 dk6 dk7 people law counters kind father comes wants cost coins debts kept sl = some (r, 0, fl, a1, a2, a3, a4, a5, a6, a7, a8, a9, b1, b2, b3, b4, b5, b6, b7, people, law, counters, kind, father, comes, wants, cost, coins, debts, kept, sl) ∧ Mod_town tm ba he tk va sm st rp tp cuts letters ik = some (r, m1, m2, m3, 0, fl, m4, m5, m6, m7, m8, m9, sm, st, rp', ik)) ∨
    ∃ (N' : Nat) (r law' counters' a1 a2 a3 a4 a5 a6 a7 a8 a9 m1 m2 m3 m4 m5 m6 m7 m8 m9 : Int32) (b1 b2 b3 b4 b5 b6 b7 rp' kind' father' comes' wants' cost' coins' debts' kept' st' ik' : Nat → Int32), Let_town tl tb dk1 dk2 dk3 dk4 dk5 dk6 dk7 people law counters kind father comes wants cost coins debts kept sl = some (r, 0, 0, a1, a2, a3, a4, a5, a6, a7, a8, a9, b1, b2, b3, b4, b5, b6, b7, nI N', law', counters', kind', father', comes', wants', cost', coins', debts', kept', 0) ∧ Mod_town tm ba he tk va sm st rp tp cuts letters ik = some (r, m1, m2, m3, 0, 0, m4, m5, m6, m7, m8, m9, 0, st', rp', ik') ∧ RT N' (nI N') law' counters' kind' father' comes' wants' cost' coins' debts' st' 0 ∧ TOK N' 50 coins' debts' ∧ kept' 0 = 0 ∧ kept' 1 = 0 ∧ ik' 0 = 0 ∧ ik' 1 = 0 ∧ ∀ k, 94 ≤ k → st' k = st k := by
  obtain ⟨n, hn, rfl, rfl, hb⟩ := id hTp
  have h : CH n (fun i => (tp i).toNatClampNeg) tb tp := ⟨hn, fun i hi => by
    obtain ⟨b, b1, b2, b3⟩ := hb i hi
    show (tp i).toNatClampNeg < 256 ∧ tp i = nI (tp i).toNatClampNeg ∧ tb i = (nI (tp i).toNatClampNeg).toInt8.toInt32
    rw [b2, nI_clamp (by omega)]
    exact ⟨b1, rfl, b3⟩⟩
  obtain ⟨dd', d1, d2⟩ := E_empty dk7
  obtain ⟨rp0, r1, r2⟩ := E_L29 (fun t => (Mod_step (nI n) 0 ba 0 he tk va tp).bind (fun o_6 => Mod_town_L52 (nI n) tp cuts letters (fK76 sm st ik) FU 0 0 0 (-1) o_6.1 o_6.2.1 o_6.2.2.1 o_6.2.2.2.1 o_6.2.2.2.2.1 o_6.2.2.2.2.2 t)) 94 0 FU rp (by omega) (by unfold FU; omega) (fun k hk => by omega)
  rw [show nI 0 = (0 : Int32) from rfl] at r1
  have hS := RD_start (kind := dk1) (father := dk2) (comes := dk3) (wants := dk4) (cost := dk5) (coins := dk6) d2 r2
  have mt : Mod_town (nI n) ba he tk va sm st rp tp cuts letters ik = (Mod_step (nI n) 0 ba 0 he tk va tp).bind (fun o_6 => Mod_town_L52 (nI n) tp cuts letters (fK76 sm st ik) FU 0 0 0 (-1) o_6.1 o_6.2.1 o_6.2.2.1 o_6.2.2.2.1 o_6.2.2.2.2.1 o_6.2.2.2.2.2 rp0) := (fK76_eq (nI n) ba he tk va sm st rp tp cuts letters ik).trans r1
  have rt : Rdr_readTown dk1 dk2 dk3 dk4 dk5 dk6 dk7 (nI n) tb = (Rdr_readToken 0 0 (nI n) tb).bind (fun o_2 => Rdr_readTown_L34 (nI n) tb fK79 FU 0 o_2.1 o_2.2.1 o_2.2.2.1 o_2.2.2.2.1 o_2.2.2.2.2.1 o_2.2.2.2.2.2 0 0 0 0 1 dk1 dk2 dk3 dk4 dk5 dk6 dd') := by
    rw [fK79_eq, d1]
    simp only [bindS]
  /- a fault: nothing changes -/
  have bad : ∀ (kk pf : Nat), 1 ≤ kk → kk ≤ 6 → (∃ (a1 a2 a4 a5 a6 a7 a8 a9 : Int32) (b1 b2 b3 b4 b5 b6 b7 : Nat → Int32), Rdr_readTown dk1 dk2 dk3 dk4 dk5 dk6 dk7 (nI n) tb = some ((-10) - nI pf, nI kk, a1, a2, nI pf, a4, a5, a6, a7, a8, a9, b1, b2, b3, b4, b5, b6, b7)) → (∃ (m1 m2 m3 m6 m7 m8 m9 : Int32) (rp' : Nat → Int32), Mod_town (nI n) ba he tk va sm st rp tp cuts letters ik = some ((-10) - nI pf, m1, m2, m3, 0, nI kk, nI kk, nI pf, m6, m7, m8, m9, sm, st, rp', ik)) →
      (∃ (r fl a1 a2 a3 a4 a5 a6 a7 a8 a9 m1 m2 m3 m4 m5 m6 m7 m8 m9 : Int32) (b1 b2 b3 b4 b5 b6 b7 rp' : Nat → Int32), Let_town (nI n) tb dk1 dk2 dk3 dk4 dk5 dk6 dk7 people law counters kind father comes wants cost coins debts kept sl = some (r, 0, fl, a1, a2, a3, a4, a5, a6, a7, a8, a9, b1, b2, b3, b4, b5, b6, b7, people, law, counters, kind, father, comes, wants, cost, coins, debts, kept, sl) ∧ Mod_town (nI n) ba he tk va sm st rp tp cuts letters ik = some (r, m1, m2, m3, 0, fl, m4, m5, m6, m7, m8, m9, sm, st, rp', ik)) ∨ ∃ (N' : Nat) (r law' counters' a1 a2 a3 a4 a5 a6 a7 a8 a9 m1 m2 m3 m4 m5 m6 m7 m8 m9 : Int32) (b1 b2 b3 b4 b5 b6 b7 rp' kind' father' comes' wants' cost' coins' debts' kept' st' ik' : Nat → Int32), Let_town (nI n) tb dk1 dk2 dk3 dk4 dk5 dk6 dk7 people law counters kind father comes wants cost coins debts kept sl = some (r, 0, 0, a1, a2, a3, a4, a5, a6, a7, a8, a9, b1, b2, b3, b4, b5, b6, b7, nI N', law', counters', kind', father', comes', wants', cost', coins', debts', kept', 0) ∧ Mod_town (nI n) ba he tk va sm st rp tp cuts letters ik = some (r, m1, m2, m3, 0, 0, m4, m5, m6, m7, m8, m9, 0, st', rp', ik') ∧ RT N' (nI N') law' counters' kind' father' comes' wants' cost' coins' debts' st' 0 ∧ TOK N' 50 coins' debts' ∧ kept' 0 = 0 ∧ kept' 1 = 0 ∧ ik' 0 = 0 ∧ ik' 1 = 0 ∧ ∀ k, 94 ≤ k → st' k = st k := fun kk pf k1 k2 ⟨a1, a2, a4, a5, a6, a7, a8, a9, b1, b2, b3, b4, b5, b6, b7, e1⟩ ⟨m1, m2, m3, m6, m7, m8, m9, rp', e2⟩ => by
    refine Or.inl ⟨(-10) - nI pf, nI kk, a1, a2, nI pf, a4, a5, a6, a7, a8, a9, m1, m2, m3, nI kk, nI pf, m6, m7, m8, m9, b1, b2, b3, b4, b5, b6, b7, rp', ?_, e2⟩
    unfold Let_town
    rw [e1]
    simp only [bindS]
    rw [if_neg (BK_n k1 k2).2]
  rcases E_tok h (p := 0) (by omega) with ⟨t0, r, k, v, t1, t2, t3, t4, t5, t6, t7, t8⟩ | ⟨t0, t1, ⟨x2, x3, x5, t2⟩, y3, y5, y6, t3, t4⟩
  · rw [show nI 0 = (0 : Int32) from rfl] at t7 t8
    rw [t7] at rt
    rw [t8] at mt
    simp only [bindS] at rt mt
    rcases lp_sim h hC fK79 (fK76 sm st ik) 0 ba (n - r) r t0 k v 0 0 0 FU FU 0 0 0 0 1 (-1) dk1 dk2 dk3 dk4 dk5 dk6 dd' rp0 (by omega) (by unfold FU; omega) (by unfold FU; omega) t2 t4 (by omega) (Or.inl rfl) (Or.inl rfl) hS with ⟨L2, r2, t02, v2, N2, H2, lt2, ct2, law2, counters2, hi2, kind2, father2, comes2, wants2, cost2, coins2, debts2, rp2, g1, g2, g3, g4, g5⟩ | ⟨kk, pf, g1, g2, ⟨j1, j2, j3, j4, j5, j6, j7, j8, j9, w1, w2, w3, w4, w5, w6, w7, g3⟩, ⟨m1, m2, m3, m4, m5, m6, m7, m8, rp2, g4⟩⟩
    · rw [show nI 0 = (0 : Int32) from rfl] at g4 g5
      rw [fK79_1 g3] at g4
      have rt2 := rt.trans g4
      have mt2 := mt.trans g5
      rcases fK76_0 g3 sm st ik (nI L2) lt2 ct2 ba (nI r2) (nI t02) 0 (nI v2) with ⟨hH, st', ik', q1, q2, q3, q4, q5⟩ | ⟨hH, q1⟩
      · rw [if_pos hH, if_pos hH] at rt2
        obtain ⟨hRT, hTK⟩ := RD_RT g3 hH q2
        refine Or.inr ⟨N2, nI L2, law2, counters2, nI r2, 4, nI t02, nI v2, lt2, ct2, nI N2, law2, counters2, lt2, ct2, hi2, 0, ba, nI r2, nI t02, 0, nI v2, kind2, father2, comes2, wants2, cost2, coins2, debts2, rp2, va_cpy kind2 kind 0 0 7, va_cpy father2 father 0 0 7, va_cpy comes2 comes 0 0 7, va_cpy wants2 wants 0 0 7, va_cpy cost2 cost 0 0 7, va_cpy coins2 coins 0 0 7, va_cpy debts2 debts 0 0 49, upd (upd kept 0 0) 1 0, st', ik', ?_, mt2.trans q1, hRT.load kind father comes wants cost coins debts, hTK.load hRT.N7 coins debts, by rw [upd_n (by omega), upd_s], by rw [upd_s], q4, q5, q3⟩
        unfold Let_town
        rw [rt2]
        simp only [bindS, if_true]
        rw [E_copyOf]
        simp only [bindS]
        rw [E_kept]
      · rw [if_neg hH, if_neg hH] at rt2
        exact bad 6 t02 (by omega) (by omega) ⟨_, _, _, _, _, _, _, _, _, _, _, _, _, _, _, rt2⟩ ⟨_, _, _, _, _, _, _, _, mt2.trans q1⟩
    · rw [show nI 0 = (0 : Int32) from rfl] at g3 g4
      rw [fK79_0] at g3
      rw [fK76_b (BK_n g1 g2)] at g4
      exact bad kk pf g1 g2 ⟨_, _, _, _, _, _, _, _, _, _, _, _, _, _, _, rt.trans g3⟩ ⟨_, _, _, _, _, _, _, _, mt.trans g4⟩
  · rw [show nI 0 = (0 : Int32) from rfl] at t2 t4
    rw [t2] at rt
    rw [t4] at mt
    simp only [bindS] at rt mt
    have hb1 : BK (1 : Int32) := ⟨by decide, by decide⟩
    rw [show FU = 999 + 1 from rfl, rt_0, fK79_0] at rt
    rw [show FU = 999 + 1 from rfl, mt_b _ _ hb1, fK76_b hb1] at mt
    exact bad 1 t0 (by omega) (by omega) ⟨_, _, _, _, _, _, _, _, _, _, _, _, _, _, _, rt⟩ ⟨_, _, _, _, _, _, _, _, mt⟩
end TOWN
