section READ2
variable {N B : Nat} {people law counters : Int32} {kind father comes wants cost coins debts st : Nat → Int32} {lanes lengths mcells cells : Nat → Int32}
theorem rd_put (hN : N ≤ 7) {g w' : Nat} (hg : g + 3 * w' ≤ 40) (hall : ∀ v, v < w' → ∃ i j, i < N ∧ j < N ∧ cells (g + 3 * v) = nI i ∧ cells (g + 3 * v + 1) = nI j) (K : (Nat → Int32) → Option (Int32 × Int32 × (Nat → Int32))) : ∀ (d w n : Nat), w + d = w' → d < n → Let_read_L131 cells (nI g) (nI w') K n (nI w) (dAp cells g debts w) = K (dAp cells g debts w') := by
  intro d
  induction d with
  | zero =>
    intro w n h1 h2
    obtain ⟨n, rfl⟩ : ∃ k, n = k + 1 := ⟨n - 1, by omega⟩
    obtain rfl : w = w' := by omega
    rw [Let_read_L131, if_pos (nI_le (by omega) (by omega))]
  | succ d ih =>
    intro w n h1 h2
    obtain ⟨n, rfl⟩ : ∃ k, n = k + 1 := ⟨n - 1, by omega⟩
    obtain ⟨i, j, hi, hj, ea, eb⟩ := hall w (by omega)
    rw [Let_read_L131, if_neg (nI_ge (by omega) (by omega))]
    simp only [nmI, nI_a1]
    rw [show nI g + 3 * nI w = nI (g + 3 * w) by rw [show (3 : Int32) = nI 3 from rfl, pk_mul, nI_add], show nI (g + 3 * w) + 2 = nI (g + 3 * w + 2) by rw [show (2 : Int32) = nI 2 from rfl, nI_add], nI_a1, rdA_nI (by omega) (by omega), rdA_nI (by omega) (by omega), rdA_nI (by omega) (by omega), ea, eb, E_setDebt (by omega) (by omega)]
    simp only [bindS]
    have hst : dAp cells g debts (w + 1) = upd (dAp cells g debts w) (7 * i + j) (cells (g + 3 * w + 2)) := by
      show upd (dAp cells g debts w) (7 * (cells (g + 3 * w)).toNatClampNeg + (cells (g + 3 * w + 1)).toNatClampNeg) (cells (g + 3 * w + 2)) = _
      rw [ea, eb, nI_clamp (by omega), nI_clamp (by omega)]
    rw [← hst]
    exact ih (w + 1) n (by omega) (by omega)
theorem rd_put0 (f : Int32) (K : (Nat → Int32) → Option (Int32 × Int32 × (Nat → Int32))) : Let_read_L131 cells f 0 K FU 0 debts = K debts := by
  rw [show FU = 999 + 1 from rfl, Let_read_L131, if_pos (by decide)]
theorem rd_one (hR : RT N (nI N) law counters kind father comes wants cost coins debts st 0) (hT : TOK N B coins debts) {k : Nat} (hk : k < 4) {lane size : Int32} (hS : RSh k cells lane size lanes lengths mcells) {l2 nn : Nat} (hl2 : l2 ≤ 2) (hnn : nn ≤ 13) (f torn : Int32) :
    ∃ o1 o2, Let_read_L42 (nI N) lane size cells (nI l2) f (nI nn) (fun (x7_12 : Int32) => some ((-20) - x7_12, torn, debts)) (fun (x6_13 : Int32) (x7_14 : Int32) => Let_read_L131 cells f x7_14 (fun (d : Nat → Int32) => some (x7_14, x6_13, d)) FU 0 debts) FU 0 0 = some o1 ∧
      Mod_read (nI k) (nI l2) f (nI nn) torn st lanes lengths mcells = some o2 ∧ o1.1 = o2.1 ∧ o1.2.1 = o2.2.1 ∧ RT N (nI N) law counters kind father comes wants cost coins o1.2.2 o2.2.2 0 ∧ TOK N B coins o1.2.2 ∧ (∀ j, 94 ≤ j → j < 282 → o2.2.2 j = st j) := by
  have hN := hR.N7
  have in1 : Mod_in (nI k).toInt64 0 3 = some 1 := by
    rw [E_in32c (nI k) (lo := 0) (hi := 3) (a := 0) (b := 3) rfl rfl, if_pos ⟨(nI_0le (by omega)).mpr trivial, nI_le (b := 3) (by omega) (by omega)⟩]
  have in2 : Mod_in (nI l2).toInt64 0 2 = some 1 := by
    rw [E_in32c (nI l2) (lo := 0) (hi := 2) (a := 0) (b := 2) rfl rfl, if_pos ⟨(nI_0le (by omega)).mpr trivial, nI_le (b := 2) (by omega) (by omega)⟩]
  have in3 : Mod_in (nI nn).toInt64 0 13 = some 1 := by
    rw [E_in32c (nI nn) (lo := 0) (hi := 13) (a := 0) (b := 13) rfl rfl, if_pos ⟨(nI_0le (by omega)).mpr trivial, nI_le (b := 13) (by omega) (by omega)⟩]
  have ec : Mod_copies 0 376 st = some (cpp st 0 376 94) := E_copies (a := 0) (b := 376) (by omega) (by omega) (by omega) st
  have ec2 : ∀ s, Mod_copies 376 0 s = some (cpp s 376 0 94) := fun s => E_copies (a := 376) (b := 0) (by omega) (by omega) (by omega) s
  have hR1 : RT N (nI N) law counters kind father comes wants cost coins debts (cpp st 0 376 94) 0 := hR.pages (fun j hj => cpp_out (by omega))
  have fr1 : ∀ j, 94 ≤ j → j < 282 → cpp st 0 376 94 j = st j := fun j h1 h2 => cpp_out (by omega)
  unfold Mod_read
  rw [in1, in2, in3, ec]
  simp only [bindS, i10, if_false, ec2]
  -- nothing, or another lane: what is met at once
  have none0 : ∀ (c : Int32), nn = 0 → Let_read_L42 (nI N) lane size cells (nI l2) f (nI nn) (fun (x7_12 : Int32) => some ((-20) - x7_12, torn, debts)) (fun (x6_13 : Int32) (x7_14 : Int32) => Let_read_L131 cells f x7_14 (fun (d : Nat → Int32) => some (x7_14, x6_13, d)) FU 0 debts) FU 0 0 = some (0, 0, debts) ∧ ∀ K1 K2, Mod_read_L56 lanes lengths mcells (nI k) (nI l2) f (nI nn) K1 K2 FU 0 0 0 (cpp st 0 376 94) = K2 0 0 (cpp st 0 376 94) := by
    intro c h0
    subst h0
    refine ⟨?_, fun K1 K2 => ?_⟩
    · rw [show FU = 999 + 1 from rfl, Let_read_L42, if_pos rfl, if_pos (by decide)]
      exact rd_put0 f _
    · rw [show FU = 999 + 1 from rfl, Mod_read_L56, if_pos (by decide)]
  have once : ∀ (c : Int32), ¬ c = 0 → ¬ nn = 0 → Sht_faultAsOf (nI l2) f 3 lane size = some c → Let_read_L42 (nI N) lane size cells (nI l2) f (nI nn) (fun (x7_12 : Int32) => some ((-20) - x7_12, torn, debts)) (fun (x6_13 : Int32) (x7_14 : Int32) => Let_read_L131 cells f x7_14 (fun (d : Nat → Int32) => some (x7_14, x6_13, d)) FU 0 debts) FU 0 0 = some (0, c, debts) := by
    intro c hc h0 e
    rw [show FU = 998 + 1 + 1 from rfl, Let_read_L42, if_pos rfl, if_neg (show ¬ nI nn ≤ 0 by rw [nI_le0 (by omega)]; exact h0)]
    simp only [nmI]
    rw [show (3 : Int32) * 0 = 0 by decide, i32_add0, e]
    simp only [bindS]
    rw [if_neg hc, Let_read_L42, if_neg hc]
    exact rd_put0 f _
  rcases hS with ⟨rfl, hl4⟩ | ⟨z, l, hz, hl, rfl, q4, rfl, q6, q7⟩
  · by_cases h0 : nn = 0
    · obtain ⟨e1, e2⟩ := none0 0 h0
      rw [e1, e2]
      exact ⟨_, _, rfl, rfl, rfl, rfl, hR1, hT, fr1⟩
    · rw [once 1 (by decide) h0 (by
        unfold Sht_faultAsOf Sht_isThere
        rw [if_pos rfl, E_fault0]
        simp only [bindS, jn, i00, if_true])]
      rw [show FU = 998 + 1 + 1 from rfl, Mod_read_L56, show (3 : Int32) * nI nn = nI (3 * nn) by rw [show (3 : Int32) = nI 3 from rfl, pk_mul], if_neg (show ¬ nI (3 * nn) ≤ 0 by rw [nI_le0 (by omega)]; omega), if_pos rfl, rdA_nI (f := lanes) (by omega) (by omega), hl4]
      simp only [jn, if_true]
      rw [if_neg (show ¬ (1 : Int32) = 0 by decide)]
      simp only [nmI]
      rw [rd_stop _ _ _ _ _ _ _ 1 _ _ _ (by decide)]
      exact ⟨_, _, rfl, rfl, rfl, rfl, hR1, hT, fr1⟩
  · by_cases hll : l = l2
    · subst hll
      rcases rd_sim (st1 := cpp st 0 376 94) hk (show l < 3 by omega) hz q6 q4 q7 hnn f (fun (x7_12 : Int32) => some ((-20) - x7_12, torn, debts)) (fun (x6_13 : Int32) (x7_14 : Int32) => Let_read_L131 cells f x7_14 (fun (d : Nat → Int32) => some (x7_14, x6_13, d)) FU 0 debts) (fun (x6_24 : Int32) (t_state_25 : Nat → Int32) => some ((-20) - x6_24, torn, cpp t_state_25 376 0 94)) (fun (x5_27 : Int32) (x6_28 : Int32) (t_state_29 : Nat → Int32) => some (x6_28, x5_27, t_state_29)) nn 0 FU FU (cpp st 0 376 94) (by omega) (by unfold FU; omega) (by unfold FU; omega) (Or.inl rfl) hR1 hT (fun _ _ => rfl) (fun v hv => by omega) with ⟨w', st', hw', r1, r2, r3⟩ | ⟨b, w', st', hw', r1, r2, r3, r4, r5, r6, r7⟩
      · rw [Nat.mul_zero] at r2
        rw [show nI 0 = (0 : Int32) from rfl] at r1 r2
        rw [r1, r2]
        refine ⟨_, _, rfl, rfl, rfl, rfl, ?_, hT, fun j h1 h2 => ?_⟩
        · refine hR.pages (fun j hj => ?_)
          show cpp st' 376 0 94 (0 + j) = st (0 + j)
          rw [cpp_in hj, r3 _ (by omega), cpp_in hj]
        · show cpp st' 376 0 94 j = st j
          rw [cpp_out (by omega), r3 j h1, cpp_out (by omega)]
      · rw [Nat.mul_zero] at r2
        rw [show nI 0 = (0 : Int32) from rfl] at r1 r2
        rw [r1, r2]
        have e3 : Let_read_L131 cells f (nI w') (fun (d : Nat → Int32) => some (nI w', nI b, d)) FU 0 debts = some (nI w', nI b, dAp cells f.toNatClampNeg debts w') := by
          rcases r6 with rfl | ⟨g, rfl, hg⟩
          · exact rd_put0 f _
          · rw [nI_clamp (by omega)] at r7 ⊢
            exact rd_put hN hg r7 _ w' 0 FU (by omega) (by unfold FU; omega)
        rw [e3]
        exact ⟨_, _, rfl, rfl, rfl, rfl, r3, r4, fun j h1 h2 => by
          show st' j = st j
          rw [r5 j h1, cpp_out (by omega)]⟩
    · have hne : ¬ nI l = nI l2 := fun hh => hll ((nI_eq (by omega) (by omega)).mp hh)
      by_cases h0 : nn = 0
      · obtain ⟨e1, e2⟩ := none0 0 h0
        rw [e1, e2]
        exact ⟨_, _, rfl, rfl, rfl, rfl, hR1, hT, fr1⟩
      · rw [once 3 (by decide) h0 (by
          unfold Sht_faultAsOf Sht_isThere
          rw [if_neg (show ¬ nI z = -1 from fun hh => nI_pos (n := z) (by omega) (by rw [hh]; decide))]
          simp only [bindS, jn, i10, if_false]
          rw [if_neg hne])]
        rw [show FU = 998 + 1 + 1 from rfl, Mod_read_L56, show (3 : Int32) * nI nn = nI (3 * nn) by rw [show (3 : Int32) = nI 3 from rfl, pk_mul], if_neg (show ¬ nI (3 * nn) ≤ 0 by rw [nI_le0 (by omega)]; omega), if_pos rfl, rdA_nI (f := lanes) (by omega) (by omega), q6]
        simp only [jn]
        rw [if_neg (show ¬ nI l = -4 from fun hh => nI_pos (n := l) (by omega) (by rw [hh]; decide)), rdA_nI (f := lanes) (by omega) (by omega), q6, if_neg hne, if_neg (show ¬ (3 : Int32) = 0 by decide)]
        simp only [nmI]
        rw [rd_stop _ _ _ _ _ _ _ 3 _ _ _ (by decide)]
        exact ⟨_, _, rfl, rfl, rfl, rfl, hR1, hT, fr1⟩
end READ2
section READ3
variable {N B : Nat} {people law counters : Int32} {kind father comes wants cost coins debts st : Nat → Int32} {lanes lengths mcells c0 c1 c2 c3 : Nat → Int32} {l0 s0 l1 s1 l2 s2 l3 s3 : Int32}
theorem P_read (hR : RT N people law counters kind father comes wants cost coins debts st 0) (hT : TOK N B coins debts) (h0 : RSh 0 c0 l0 s0 lanes lengths mcells) (h1 : RSh 1 c1 l1 s1 lanes lengths mcells) (h2 : RSh 2 c2 l2 s2 lanes lengths mcells) (h3 : RSh 3 c3 l3 s3 lanes lengths mcells) (k lane f n torn : Int32) :
    ∃ o1 o2, Let_read k lane f n torn people debts l0 s0 c0 l1 s1 c1 l2 s2 c2 l3 s3 c3 = some o1 ∧ Mod_read k lane f n torn st lanes lengths mcells = some o2 ∧ o1.1 = o2.1 ∧ o1.2.1 = o2.2.1 ∧ RT N people law counters kind father comes wants cost coins o1.2.2 o2.2.2 0 ∧ TOK N B coins o1.2.2 ∧ (∀ j, 94 ≤ j → j < 282 → o2.2.2 j = st j) := by
  have hN := hR.N7
  have hp := hR.ppl
  subst hp
  rcases rng_cases (t := k) (hi := 3) (n := 3) rfl (by omega) with ⟨f1, f2, m, hm, rfl⟩ | g
  · rcases rng_cases (t := lane) (hi := 2) (n := 2) rfl (by omega) with ⟨g1, g2, l, hl, rfl⟩ | g
    · rcases rng_cases (t := n) (hi := 13) (n := 13) rfl (by omega) with ⟨p1, p2, nn, hnn, rfl⟩ | g
      · unfold Let_read
        rw [E_isSheet, E_isLane]
        simp only [bindS]
        simp only [eq_true (show 0 ≤ nI m ∧ nI m ≤ 3 from ⟨f1, f2⟩), eq_true (show 0 ≤ nI l ∧ nI l ≤ 2 from ⟨g1, g2⟩), if_true, i10, if_false]
        rw [if_neg (i32_nlt.mpr p1), if_pos p2]
        simp only [rdL1, rdL2, rdL3, rdM1, rdM2, rdM3]
        rcases (show m = 0 ∨ m = 1 ∨ m = 2 ∨ m = 3 by omega) with rfl | rfl | rfl | rfl
        · simp only [z00, if_true]
          exact rd_one hR hT (by omega) h0 hl hnn f torn
        · simp only [z10, z11, if_true, if_false]
          exact rd_one hR hT (by omega) h1 hl hnn f torn
        · simp only [z20, z21, z22, if_true, if_false]
          exact rd_one hR hT (by omega) h2 hl hnn f torn
        · simp only [z30, z31, z32, z33, if_true, if_false]
          exact rd_one hR hT (by omega) h3 hl hnn f torn
      · unfold Let_read Mod_read
        rw [E_isSheet, E_isLane, E_in32c (nI m) (lo := 0) (hi := 3) (a := 0) (b := 3) rfl rfl, E_in32c (nI l) (lo := 0) (hi := 2) (a := 0) (b := 2) rfl rfl, E_in32c n (lo := 0) (hi := 13) (a := 0) (b := 13) rfl rfl]
        simp only [bindS]
        simp only [eq_true (show 0 ≤ nI m ∧ nI m ≤ 3 from ⟨f1, f2⟩), eq_true (show 0 ≤ nI l ∧ nI l ≤ 2 from ⟨g1, g2⟩), eq_false g, if_true, i10, if_false, i00]
        by_cases q : n < 0
        · rw [if_pos q]
          exact ⟨_, _, rfl, rfl, rfl, rfl, hR, hT, fun _ _ _ => rfl⟩
        · rw [if_neg q, if_neg (fun hh => g ⟨i32_nlt.mp q, hh⟩)]
          exact ⟨_, _, rfl, rfl, rfl, rfl, hR, hT, fun _ _ _ => rfl⟩
    · unfold Let_read Mod_read
      rw [E_isSheet, E_isLane, E_in32c (nI m) (lo := 0) (hi := 3) (a := 0) (b := 3) rfl rfl, E_in32c lane (lo := 0) (hi := 2) (a := 0) (b := 2) rfl rfl]
      simp only [bindS]
      simp only [eq_true (show 0 ≤ nI m ∧ nI m ≤ 3 from ⟨f1, f2⟩), eq_false g, if_true, i10, if_false, i00]
      exact ⟨_, _, rfl, rfl, rfl, rfl, hR, hT, fun _ _ _ => rfl⟩
  · unfold Let_read Mod_read
    rw [E_isSheet, E_in32c k (lo := 0) (hi := 3) (a := 0) (b := 3) rfl rfl]
    simp only [bindS]
    simp only [eq_false g, if_false, i00, if_true]
    exact ⟨_, _, rfl, rfl, rfl, rfl, hR, hT, fun _ _ _ => rfl⟩
end READ3
