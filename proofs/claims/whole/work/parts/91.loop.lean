section LOOP
variable {n : Nat} {c : Nat → Nat} {tb tp cuts letters : Nat → Int32}
theorem rt_0 (K79 : Int32 → Int32 → Int32 → Int32 → Int32 → Int32 → Int32 → Int32 → Int32 → Int32 → Int32 → Int32 → (Nat → Int32) → (Nat → Int32) → (Nat → Int32) → (Nat → Int32) → (Nat → Int32) → (Nat → Int32) → (Nat → Int32) → Option (Int32 × Int32 × Int32 × Int32 × Int32 × Int32 × Int32 × Int32 × Int32 × Int32 × Int32 × (Nat → Int32) × (Nat → Int32) × (Nat → Int32) × (Nat → Int32) × (Nat → Int32) × (Nat → Int32) × (Nat → Int32))) (f1 : Nat) (x1 a1 a2 a3 a4 a5 a6 a7 a8 a9 a10 : Int32) (b1 b2 b3 b4 b5 b6 b7 : Nat → Int32) (tl : Int32) : Rdr_readTown_L34 tl tb K79 (f1 + 1) x1 0 a1 a2 a3 a4 a5 a6 a7 a8 a9 a10 b1 b2 b3 b4 b5 b6 b7 = K79 x1 0 a1 a2 a3 a4 a5 a6 a7 a8 a9 a10 b1 b2 b3 b4 b5 b6 b7 := by
  rw [Rdr_readTown_L34, if_pos rfl]
theorem mt_b (K76 : Int32 → Int32 → Int32 → Int32 → Int32 → Int32 → Int32 → Int32 → Int32 → Int32 → (Nat → Int32) → Option (Int32 × Int32 × Int32 × Int32 × Int32 × Int32 × Int32 × Int32 × Int32 × Int32 × Int32 × Int32 × Int32 × (Nat → Int32) × (Nat → Int32) × (Nat → Int32))) (f2 : Nat) {b : Int32} (hb : BK b) (tl x1 a1 a2 a3 a5 a6 a7 a8 a9 : Int32) (b1 : Nat → Int32) : Mod_town_L52 tl tp cuts letters K76 (f2 + 1) x1 a1 a2 a3 b a5 a6 a7 a8 a9 b1 = K76 x1 a1 a2 a3 b a5 a6 a7 a8 a9 b1 := by
  rw [Mod_town_L52, if_neg hb.2]
set_option maxHeartbeats 1000000 in
theorem lp_sim (h : CH n c tb tp) (hC : CLt cuts letters) (K79 : Int32 → Int32 → Int32 → Int32 → Int32 → Int32 → Int32 → Int32 → Int32 → Int32 → Int32 → Int32 → (Nat → Int32) → (Nat → Int32) → (Nat → Int32) → (Nat → Int32) → (Nat → Int32) → (Nat → Int32) → (Nat → Int32) → Option (Int32 × Int32 × Int32 × Int32 × Int32 × Int32 × Int32 × Int32 × Int32 × Int32 × Int32 × (Nat → Int32) × (Nat → Int32) × (Nat → Int32) × (Nat → Int32) × (Nat → Int32) × (Nat → Int32) × (Nat → Int32))) (K76 : Int32 → Int32 → Int32 → Int32 → Int32 → Int32 → Int32 → Int32 → Int32 → Int32 → (Nat → Int32) → Option (Int32 × Int32 × Int32 × Int32 × Int32 × Int32 × Int32 × Int32 × Int32 × Int32 × Int32 × Int32 × Int32 × (Nat → Int32) × (Nat → Int32) × (Nat → Int32))) (f ba : Int32) : ∀ (d r t0 k v L N H f1 f2 : Nat) (lt ct people law counters hi : Int32) (kind father comes wants cost coins debts rp : Nat → Int32), r + d = n → d + 2 < f1 → d + 2 < f2 → t0 ≤ r → k < 4 → L ≤ r → (lt = 0 ∨ lt = 1) → (ct = 0 ∨ ct = 1) → RD N H people law counters kind father comes wants cost coins debts rp hi →
    (∃ (L' r' t' v' N' H' : Nat) (lt' ct' law' counters' hi' : Int32) (kind' father' comes' wants' cost' coins' debts' rp' : Nat → Int32), L' ≤ n ∧ t' ≤ n ∧ RD N' H' (nI N') law' counters' kind' father' comes' wants' cost' coins' debts' rp' hi' ∧ Rdr_readTown_L34 (nI n) tb K79 f1 (nI L) 1 f (nI r) (srt k) (nI t0) (nI v) lt ct people law counters kind father comes wants cost coins debts = K79 (nI L') 1 f (nI r') 4 (nI t') (nI v') lt' ct' (nI N') law' counters' kind' father' comes' wants' cost' coins' debts' ∧ Mod_town_L52 (nI n) tp cuts letters K76 f2 (nI L) lt ct hi 0 ba (nI r) (nI t0) (nI k) (nI v) rp = K76 (nI L') lt' ct' hi' 0 ba (nI r') (nI t') 0 (nI v') rp') ∨
    ∃ kk pf : Nat, 1 ≤ kk ∧ kk ≤ 6 ∧ (∃ (j1 j2 j3 j4 j5 j6 j7 j8 j9 : Int32) (kind' father' comes' wants' cost' coins' debts' : Nat → Int32), Rdr_readTown_L34 (nI n) tb K79 f1 (nI L) 1 f (nI r) (srt k) (nI t0) (nI v) lt ct people law counters kind father comes wants cost coins debts = K79 j1 0 (nI kk) j2 j3 (nI pf) j4 j5 j6 j7 j8 j9 kind' father' comes' wants' cost' coins' debts') ∧ ∃ (m1 m2 m3 m4 m5 m6 m7 m8 : Int32) (rp' : Nat → Int32), Mod_town_L52 (nI n) tp cuts letters K76 f2 (nI L) lt ct hi 0 ba (nI r) (nI t0) (nI k) (nI v) rp = K76 m1 m2 m3 m4 (nI kk) (nI pf) m5 m6 m7 m8 rp' := by
  have h4 := h.1
  intro d
  induction d using Nat.strongRecOn with
  | ind d ih =>
    intro r t0 k v L N H f1 f2 lt ct people law counters hi kind father comes wants cost coins debts rp hr hf1 hf2 ht hk hL hlt hct hR
    obtain ⟨f1, rfl⟩ : ∃ m, f1 = m + 1 + 1 := ⟨f1 - 2, by omega⟩
    obtain ⟨f2, rfl⟩ : ∃ m, f2 = m + 1 + 1 := ⟨f2 - 2, by omega⟩
    have hpe : people = nI N := hR.1.2.1
    by_cases hk0 : k = 0
    · subst hk0
      subst hpe
      refine Or.inl ⟨L, r, t0, v, N, H, lt, ct, law, counters, hi, kind, father, comes, wants, cost, coins, debts, rp, by omega, by omega, hR, ?_, ?_⟩
      · rw [Rdr_readTown_L34, if_neg (by decide), if_pos (show srt 0 = 4 from rfl)]
        rfl
      · rw [Mod_town_L52, if_pos rfl, if_pos (show nI 0 = 0 from rfl)]
        rfl
    · have hs4 : ¬ srt k = 4 := fun hc => by
        unfold srt at hc
        rw [if_neg hk0] at hc
        have := (nI_eq (b := 4) (by omega) (by omega)).mp hc
        omega
      have hk0' : ¬ nI k = 0 := fun hc => hk0 ((nI_eq (b := 0) (by omega) (by omega)).mp hc)
      have hL4 : ¬ (400 : Int32) < nI L := nI_nlt (a := 400) (b := L) (by omega) (by omega)
      have rd : ∀ o, Rdr_readLine f (nI r) (srt k) (nI t0) (nI v) lt ct people law counters kind father comes wants cost coins debts (nI n) tb = some o → Rdr_readTown_L34 (nI n) tb K79 (f1 + 1 + 1) (nI L) 1 f (nI r) (srt k) (nI t0) (nI v) lt ct people law counters kind father comes wants cost coins debts = (if o.1 = 0 then Rdr_readTown_L34 (nI n) tb K79 (f1 + 1) (nI (L + 1)) 0 o.2.1 o.2.2.1 o.2.2.2.1 o.2.2.2.2.1 o.2.2.2.2.2.1 o.2.2.2.2.2.2.1 o.2.2.2.2.2.2.2.1 o.2.2.2.2.2.2.2.2.1 o.2.2.2.2.2.2.2.2.2.1 o.2.2.2.2.2.2.2.2.2.2.1 o.2.2.2.2.2.2.2.2.2.2.2.1 o.2.2.2.2.2.2.2.2.2.2.2.2.1 o.2.2.2.2.2.2.2.2.2.2.2.2.2.1 o.2.2.2.2.2.2.2.2.2.2.2.2.2.2.1 o.2.2.2.2.2.2.2.2.2.2.2.2.2.2.2.1 o.2.2.2.2.2.2.2.2.2.2.2.2.2.2.2.2.1 o.2.2.2.2.2.2.2.2.2.2.2.2.2.2.2.2.2 else (Rdr_readToken o.2.1 o.2.2.1 (nI n) tb).bind (fun o_30 => if o_30.1 = 0 then Rdr_readTown_L34 (nI n) tb K79 (f1 + 1) (nI (L + 1)) 0 o_30.2.1 o_30.2.2.1 o_30.2.2.2.1 o_30.2.2.2.2.1 o_30.2.2.2.2.2 o.2.2.2.2.2.2.1 o.2.2.2.2.2.2.2.1 o.2.2.2.2.2.2.2.2.1 o.2.2.2.2.2.2.2.2.2.1 o.2.2.2.2.2.2.2.2.2.2.1 o.2.2.2.2.2.2.2.2.2.2.2.1 o.2.2.2.2.2.2.2.2.2.2.2.2.1 o.2.2.2.2.2.2.2.2.2.2.2.2.2.1 o.2.2.2.2.2.2.2.2.2.2.2.2.2.2.1 o.2.2.2.2.2.2.2.2.2.2.2.2.2.2.2.1 o.2.2.2.2.2.2.2.2.2.2.2.2.2.2.2.2.1 o.2.2.2.2.2.2.2.2.2.2.2.2.2.2.2.2.2 else Rdr_readTown_L34 (nI n) tb K79 (f1 + 1) (nI (L + 1)) 1 o_30.2.1 o_30.2.2.1 o_30.2.2.2.1 o_30.2.2.2.2.1 o_30.2.2.2.2.2 o.2.2.2.2.2.2.1 o.2.2.2.2.2.2.2.1 o.2.2.2.2.2.2.2.2.1 o.2.2.2.2.2.2.2.2.2.1 o.2.2.2.2.2.2.2.2.2.2.1 o.2.2.2.2.2.2.2.2.2.2.2.1 o.2.2.2.2.2.2.2.2.2.2.2.2.1 o.2.2.2.2.2.2.2.2.2.2.2.2.2.1 o.2.2.2.2.2.2.2.2.2.2.2.2.2.2.1 o.2.2.2.2.2.2.2.2.2.2.2.2.2.2.2.1 o.2.2.2.2.2.2.2.2.2.2.2.2.2.2.2.2.1 o.2.2.2.2.2.2.2.2.2.2.2.2.2.2.2.2.2)) := fun o ho => by
        rw [Rdr_readTown_L34, if_neg (by decide), if_neg hs4, if_neg hL4, ho]
        simp only [bindS, jn, nmI_e, nI_a1]
      have md : ∀ o, Mod_readLine lt ct hi (nI n) 0 ba (nI r) (nI t0) (nI k) (nI v) rp tp cuts letters = some o → Mod_town_L52 (nI n) tp cuts letters K76 (f2 + 1 + 1) (nI L) lt ct hi 0 ba (nI r) (nI t0) (nI k) (nI v) rp = Mod_town_L52 (nI n) tp cuts letters K76 (f2 + 1) (nI (L + 1)) o.1 o.2.1 o.2.2.1 o.2.2.2.1 o.2.2.2.2.1 o.2.2.2.2.2.1 o.2.2.2.2.2.2.1 o.2.2.2.2.2.2.2.1 o.2.2.2.2.2.2.2.2.1 o.2.2.2.2.2.2.2.2.2 := fun o ho => by
        rw [Mod_town_L52, if_pos rfl, if_neg hk0', ho]
        simp only [bindS, nmI_e, nI_a1]
      rcases line_sim (v := v) h hC ht (show r ≤ n by omega) hk hlt hct hR with ⟨q, q1, v', N', H', lt', ct', law', counters', hi', kind', father', comes', wants', cost', coins', debts', rp', l1, l2, l3, l4, l5, l6, l7⟩ | ⟨kk, pf, l1, l2, l3, l4⟩
      · rcases E_tok h l2 with ⟨u0, u1, uk, uv, t1, t2, t3, t4, t5, t6, t7, t8⟩ | ⟨u0, t1, ⟨x2, x3, x5, t2⟩, y3, y5, y6, t3, t4⟩
        · have e1 := rd _ (l6 f)
          simp only [i10, if_false] at e1
          rw [t7] at e1
          simp only [bindS, i10, if_false] at e1
          have e2 := md _ (l7 ba _ (fun hh t w => t8 ba hh t w))
          rcases ih (n - u1) (by omega) u1 u0 uk uv (L + 1) N' H' (f1 + 1) (f2 + 1) lt' ct' (nI N') law' counters' hi' kind' father' comes' wants' cost' coins' debts' rp' (by omega) (by omega) (by omega) t2 t4 (by omega) l3 l4 l5 with ⟨L2, r2, t02, v2, N2, H2, lt2, ct2, law2, counters2, hi2, kind2, father2, comes2, wants2, cost2, coins2, debts2, rp2, g1, g2, g3, g4, g5⟩ | ⟨kk, pf, g1, g2, ⟨j1, j2, j3, j4, j5, j6, j7, j8, j9, w1, w2, w3, w4, w5, w6, w7, g3⟩, ⟨m1, m2, m3, m4, m5, m6, m7, m8, rp2, g4⟩⟩
          · exact Or.inl ⟨L2, r2, t02, v2, N2, H2, lt2, ct2, law2, counters2, hi2, kind2, father2, comes2, wants2, cost2, coins2, debts2, rp2, g1, g2, g3, e1.trans g4, e2.trans g5⟩
          · exact Or.inr ⟨kk, pf, g1, g2, ⟨j1, j2, j3, j4, j5, j6, j7, j8, j9, w1, w2, w3, w4, w5, w6, w7, e1.trans g3⟩, ⟨m1, m2, m3, m4, m5, m6, m7, m8, rp2, e2.trans g4⟩⟩
        · have e1 := rd _ (l6 f)
          simp only [i10, if_false] at e1
          rw [t2] at e1
          simp only [bindS, if_true] at e1
          rw [rt_0] at e1
          have e2 := md _ (l7 ba _ (fun hh t w => t4 ba hh t w))
          have hb1 : BK (1 : Int32) := ⟨by decide, by decide⟩
          simp only [] at e2
          rw [mt_b _ _ hb1] at e2
          exact Or.inr ⟨1, u0, by omega, by omega, ⟨_, _, _, _, _, _, _, _, _, _, _, _, _, _, _, _, e1⟩, ⟨_, _, _, _, _, _, _, _, _, e2⟩⟩
      · obtain ⟨o, o1, o2, o3, o4⟩ := l3 f
        obtain ⟨m, m1, m2, m3⟩ := l4 ba
        have e1 := rd _ o1
        rw [if_pos o2, rt_0, o3, o4] at e1
        have e2 := md _ m1
        rw [m2, mt_b _ _ (BK_n l1 l2), m3] at e2
        exact Or.inr ⟨kk, pf, l1, l2, ⟨_, _, _, _, _, _, _, _, _, _, _, _, _, _, _, _, e1⟩, ⟨_, _, _, _, _, _, _, _, _, e2⟩⟩
end LOOP
