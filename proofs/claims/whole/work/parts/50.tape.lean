/-! the tape: feed, end; count, fault, torn -/
def RTp (tl : Int32) (tb : Nat → Int32) (tm : Int32) (tp : Nat → Int32) : Prop := ∃ n, n ≤ 400 ∧ tl = nI n ∧ tm = nI n ∧ ∀ i, i < n → ∃ b, b < 256 ∧ tp i = nI b ∧ tb i = (nI b).toInt8.toInt32
theorem wb_c : ∀ k, k < 64 → ((nI k).toInt64 &&& 63) = lN k := by decide +kernel
theorem wb_cu : ∀ k, k < 64 → ((nI k).toInt64.toUInt64 &&& Int64.toUInt64 63) = UInt64.ofNat k := by decide +kernel
theorem wb_sm : ∀ k, k < 64 → ((lN k).toBitVec.smod 64).toNat = k := by decide +kernel
theorem wb_um : ∀ k, k < 64 → ((UInt64.ofNat k).toBitVec % 64).toNat = k := by decide +kernel
theorem bu64 (v : Int64) {k j : Nat} (hk : k < 64) (hj : j < 32) : bt (((v.toUInt64 >>> ((nI k).toInt64.toUInt64 &&& Int64.toUInt64 63)).toInt64).toInt32) j = v.toBitVec.getLsbD (k + j) := by
  unfold bt
  rw [Int64.toBitVec_toInt32, BitVec.getLsbD_signExtend, wb_cu k hk]
  have e : (v.toUInt64 >>> UInt64.ofNat k).toInt64.toBitVec = v.toBitVec >>> k := by
    show (v.toUInt64 >>> UInt64.ofNat k).toBitVec = _
    rw [UInt64.toBitVec_shiftRight]
    show v.toUInt64.toBitVec >>> ((UInt64.ofNat k).toBitVec % 64).toNat = _
    rw [wb_um k hk]
    rfl
  rw [e]
  simp [hj, show j < 64 by omega]
theorem bs64 (v : Int64) {k j : Nat} (hj : j < 32) (hkj : k + j < 64) : bt ((v >>> ((nI k).toInt64 &&& 63)).toInt32) j = v.toBitVec.getLsbD (k + j) := by
  unfold bt
  rw [Int64.toBitVec_toInt32, BitVec.getLsbD_signExtend, wb_c k (by omega), Int64.toBitVec_shiftRight]
  show (decide (j < 32) && if j < 64 then (v.toBitVec.sshiftRight ((lN k).toBitVec.smod 64).toNat).getLsbD j else _) = _
  rw [wb_sm k (by omega), BitVec.getLsbD_sshiftRight]
  simp [hj, show j < 64 by omega, hkj]
theorem i8_low {x y : Int32} (h : ∀ j, j < 8 → bt x j = bt y j) : x.toInt8.toInt32 = y.toInt8.toInt32 := by
  apply b_ext
  intro i hi
  rw [b_i8 x hi, b_i8 y hi]
  by_cases h8 : i < 8
  · rw [if_pos h8, if_pos h8, h i h8]
  · rw [if_neg h8, if_neg h8, h 7 (by omega)]
theorem and255 (y : Int32) : ∃ b, b < 256 ∧ y &&& 255 = nI b := pk_andE y (m := 255) 8 (by decide)
theorem low255 (y : Int32) {j : Nat} (hj : j < 8) : bt (y &&& 255) j = bt y j := by
  rw [b_and, b_255]
  simp [hj]
theorem feed_sim (v : Int64) (n0 : Nat) (hn0 : n0 ≤ 392) (K1 : (Nat → Int32) → Option (Int32 × Int32 × (Nat → Int32))) (K2 : Int32 → (Nat → Int32) → Option (Int32 × Int32 × (Nat → Int32))) :
    ∀ (d i m1 m2 : Nat) (tb tp : Nat → Int32), i + d = 8 → d < m1 → d < m2 → (∀ j, j < n0 + i → ∃ b, b < 256 ∧ tp j = nI b ∧ tb j = (nI b).toInt8.toInt32) → ∃ tb' tp', Tap_append_L14 (nI n0) v K1 m1 (nI i) tb = K1 tb' ∧ Mod_feed_L19 v K2 m2 (56 - 8 * nI i) (nI (n0 + i)) tp = K2 (nI (n0 + 8)) tp' ∧ (∀ j, j < n0 + 8 → ∃ b, b < 256 ∧ tp' j = nI b ∧ tb' j = (nI b).toInt8.toInt32) := by
  intro d
  induction d with
  | zero =>
    intro i m1 m2 tb tp hi h1 h2 h
    obtain ⟨m1, rfl⟩ : ∃ k, m1 = k + 1 := ⟨m1 - 1, by omega⟩
    obtain ⟨m2, rfl⟩ : ∃ k, m2 = k + 1 := ⟨m2 - 1, by omega⟩
    obtain rfl : i = 8 := by omega
    refine ⟨tb, tp, ?_, ?_, h⟩
    · rw [Tap_append_L14, if_pos (by decide)]
    · rw [Mod_feed_L19, if_pos (by decide)]
  | succ d ih =>
    intro i m1 m2 tb tp hi h1 h2 h
    obtain ⟨m1, rfl⟩ : ∃ k, m1 = k + 1 := ⟨m1 - 1, by omega⟩
    obtain ⟨m2, rfl⟩ : ∃ k, m2 = k + 1 := ⟨m2 - 1, by omega⟩
    have e8 : (56 : Int32) - 8 * nI i = nI (56 - 8 * i) := by rw [show (56 : Int32) = nI 56 from rfl, nL8, pk_mul, pk_sub (by omega)]
    obtain ⟨b, hb, he⟩ := and255 ((v >>> ((nI (56 - 8 * i)).toInt64 &&& 63)).toInt32)
    rw [Tap_append_L14, if_neg (show ¬ (8 : Int32) ≤ nI i from nI_ge (b := 8) (by omega) (by omega)), e8, nI_add, wrA_nI (by omega) (by omega), vp_nar_byte]
    rw [Mod_feed_L19, if_neg (nI_pos (by omega)), wrA_nI (by omega) (by omega), he]
    simp only [nmI, nI_a1]
    have e9 : nI (56 - 8 * i) + (-8) = 56 - 8 * nI (i + 1) := by
      rcases (show i = 0 ∨ i = 1 ∨ i = 2 ∨ i = 3 ∨ i = 4 ∨ i = 5 ∨ i = 6 ∨ i = 7 by omega) with rfl | rfl | rfl | rfl | rfl | rfl | rfl | rfl <;> decide
    rw [e9]
    have eX : (((v.toUInt64 >>> ((nI (56 - 8 * i)).toInt64.toUInt64 &&& Int64.toUInt64 63)).toInt64).toInt32).toInt8.toInt32.toInt8.toInt32 = (nI b).toInt8.toInt32 := by
      apply i8_low
      intro j hj
      rw [b_i8 _ (by omega), if_pos hj, bu64 v (by omega) (by omega), ← he, low255 _ hj, bs64 v (by omega) (by omega)]
    rw [eX]
    exact ih (i + 1) m1 m2 _ _ (by omega) (by omega) (by omega) (fun j hj => by
      by_cases e : j = n0 + i
      · subst e; exact ⟨b, hb, upd_s, upd_s⟩
      · rw [upd_n e, upd_n e]; exact h j (by omega))
theorem P_feed {tl tm : Int32} {tb tp : Nat → Int32} (h : RTp tl tb tm tp) (v : Int64) : ∃ o1 o2, Let_feed v tl tb = some o1 ∧ Mod_feed v tm tp = some o2 ∧ o1.1 = o2.1 ∧ RTp o1.2.1 o1.2.2 o2.2.1 o2.2.2 := by
  obtain ⟨n, hn, rfl, rfl, hb⟩ := id h
  unfold Let_feed Tap_append Mod_feed
  rw [show nI n + 8 = nI (n + 8) by rw [nL8, nI_add]]
  by_cases h3 : n ≤ 392
  · rw [if_pos (show nI n ≤ 392 from nI_le (b := 392) h3 (by omega)), if_pos (show nI (n + 8) ≤ 400 from nI_le (b := 400) (by omega) (by omega))]
    obtain ⟨tb', tp', e1, e2, e3⟩ := feed_sim v n h3 (fun (x : Nat → Int32) => nmI (nI (n + 8)) (fun y => some (1, y, x))) (fun a b => some (a, a, b)) 8 0 FU FU tb tp (by omega) (by unfold FU; omega) (by unfold FU; omega) hb
    rw [show (56 : Int32) - 8 * nI 0 = 56 by decide, Nat.add_zero] at e2
    rw [show nI 0 = (0 : Int32) from rfl] at e1
    rw [e1, e2]
    simp only [nmI, bindS, i10, if_false]
    exact ⟨_, _, rfl, rfl, rfl, n + 8, by omega, rfl, rfl, e3⟩
  · rw [if_neg (show ¬ nI n ≤ 392 from nI_ge (a := 392) (by omega) (by omega)), if_neg (show ¬ nI (n + 8) ≤ 400 from nI_ge (a := 400) (by omega) (by omega))]
    simp only [bindS, i00, if_true]
    exact ⟨_, _, rfl, rfl, rfl, h⟩
theorem P_end {tl tm : Int32} {tb tp : Nat → Int32} (h : RTp tl tb tm tp) (v : Int32) : ∃ o1 o2, Let_end v tl = some o1 ∧ Mod_end v tm = some o2 ∧ o1.1 = o2.1 ∧ RTp o1.2 tb o2.2 tp := by
  obtain ⟨n, hn, rfl, rfl, hb⟩ := id h
  unfold Let_end Mod_end
  rw [show (0 : Int64) = (0 : Int32).toInt64 from rfl, E_in32]
  simp only [bindS]
  by_cases h1 : v < 0
  · simp only [eq_false (show ¬ (0 ≤ v ∧ v ≤ nI n) from fun hh => i32_nle.mpr h1 hh.1), if_false, i00, if_true]
    rw [if_pos h1]
    exact ⟨_, _, rfl, rfl, rfl, h⟩
  · rw [if_neg h1]
    by_cases h2 : v ≤ nI n
    · simp only [eq_true (show 0 ≤ v ∧ v ≤ nI n from ⟨i32_nlt.mp h1, h2⟩), if_true, i10, if_false]
      rw [if_pos h2]
      rcases rng_cases (t := v) (hi := nI n) (n := n) rfl (by omega) with ⟨-, -, k, hk, rfl⟩ | q
      · exact ⟨_, _, rfl, rfl, rfl, k, by omega, rfl, rfl, fun i hi => hb i (by omega)⟩
      · exact absurd ⟨i32_nlt.mp h1, h2⟩ q
    · simp only [eq_false (show ¬ (0 ≤ v ∧ v ≤ nI n) from fun hh => h2 hh.2), if_false, i00, if_true]
      rw [if_neg h2]
      exact ⟨_, _, rfl, rfl, rfl, h⟩
section CNT
variable {N : Nat} {people law counters : Int32} {kind father comes wants cost coins debts st : Nat → Int32}
theorem count_sim (hR : RT N people law counters kind father comes wants cost coins debts st 0) (K1 K2 : Int32 → Option Int32) (K3 : Int32 → Int32 → Option Int32) : ∀ (d i m1 m2 m3 : Nat) (a s : Int32), i + d = 49 → d < m1 → d < m2 → d < m3 → ∃ a' s', Twn_debtsAboveNothing_L4 debts K1 m1 a (nI i) = K1 a' ∧ Twn_debtsSummed_L4 debts K2 m2 s (nI i) = K2 s' ∧ Mod_count_L7 st K3 m3 a s (nI i) = K3 a' s' := by
  intro d
  induction d with
  | zero =>
    intro i m1 m2 m3 a s hi h1 h2 h3
    obtain ⟨m1, rfl⟩ : ∃ k, m1 = k + 1 := ⟨m1 - 1, by omega⟩
    obtain ⟨m2, rfl⟩ : ∃ k, m2 = k + 1 := ⟨m2 - 1, by omega⟩
    obtain ⟨m3, rfl⟩ : ∃ k, m3 = k + 1 := ⟨m3 - 1, by omega⟩
    obtain rfl : i = 49 := by omega
    exact ⟨a, s, by rw [Twn_debtsAboveNothing_L4, if_pos (by decide)], by rw [Twn_debtsSummed_L4, if_pos (by decide)], by rw [Mod_count_L7, if_pos (by decide)]⟩
  | succ d ih =>
    intro i m1 m2 m3 a s hi h1 h2 h3
    obtain ⟨m1, rfl⟩ : ∃ k, m1 = k + 1 := ⟨m1 - 1, by omega⟩
    obtain ⟨m2, rfl⟩ : ∃ k, m2 = k + 1 := ⟨m2 - 1, by omega⟩
    obtain ⟨m3, rfl⟩ : ∃ k, m3 = k + 1 := ⟨m3 - 1, by omega⟩
    have hn : ¬ (49 : Int32) ≤ nI i := nI_ge (b := 49) (by omega) (by omega)
    have hd := hR.deb i (by omega)
    rw [Nat.zero_add] at hd
    rw [Twn_debtsAboveNothing_L4, if_neg hn, rdA_nI (by omega) (by omega)]
    rw [Twn_debtsSummed_L4, if_neg hn, rdA_nI (by omega) (by omega)]
    rw [Mod_count_L7, if_neg hn, nL42, nI_add, rdA_nI (f := st) (by omega) (by omega), hd]
    simp only [nmI, jn, nI_a1]
    rw [rdA_nI (f := st) (by omega) (by omega), rdA_nI (f := st) (by omega) (by omega), hd]
    by_cases hz : debts i ≤ 0
    · rw [if_pos hz, if_pos hz, i32_add0]
      exact ih (i + 1) m1 m2 m3 a _ (by omega) (by omega) (by omega) (by omega)
    · rw [if_neg hz, if_neg hz]
      exact ih (i + 1) m1 m2 m3 _ _ (by omega) (by omega) (by omega) (by omega)
end CNT
section CNT2
variable {N B : Nat} {people law counters : Int32} {kind father comes wants cost coins debts st kept isKept lanes lengths mcells c0 : Nat → Int32} {l0 s0 sl sm tl tm : Int32} {seen ones tb tp : Nat → Int32}
theorem P_count (hR : RT N people law counters kind father comes wants cost coins debts st 0) (hk0 : kept 0 = isKept 0) (hk1 : kept 1 = isKept 1) (hS : RSe N sl ones sm seen) (hTp : RTp tl tb tm tp) (h0 : RSh 0 c0 l0 s0 lanes lengths mcells) (w s1 s2 s3 : Int32) : ∃ o, Let_count w tl debts kept sl s0 s1 s2 s3 = some o ∧ Mod_count w tm sm st isKept lanes lengths = some o := by
  obtain ⟨n, hn, rfl, rfl, -⟩ := hS
  obtain ⟨t, ht, rfl, rfl, -⟩ := hTp
  unfold Let_count Mod_count Twn_debtsAboveNothing Twn_debtsSummed
  obtain ⟨a, s, e1, e2, e3⟩ := count_sim hR (fun x => some x) (fun x => some x) (fun (x2_12 : Int32) (x3_13 : Int32) => if w = 0 then (some x2_12) else (if w = 1 then (some x3_13) else (if w = 2 then (some (nI n)) else (if w = 3 then (rdA isKept 2 0 (fun v_14 => jn (fun (y_16 : Int32) => rdA isKept 2 1 (fun v_17 => if v_17 = 0 then (some (y_16 + 0)) else (some (y_16 + 1)))) (fun j115_15 => if v_14 = 0 then (j115_15 0) else (j115_15 1)))) else (if w = 4 then (some (nI t)) else (if w = 5 then (rdA lanes 4 0 (fun v_18 => if v_18 = (-4) then (some (-4)) else (rdA lengths 4 0 (fun v_19 => some v_19)))) else (some (-1)))))))) 49 0 FU FU FU 0 0 (by omega) (by unfold FU; omega) (by unfold FU; omega) (by unfold FU; omega)
  rw [show nI 0 = (0 : Int32) from rfl] at e1 e2 e3
  rw [e1, e2, e3]
  simp only [bindS, jn]
  have r0 : ∀ (f : Nat → Int32) (k : Int32 → Option Int32), rdA f 2 0 k = k (f 0) := fun f k => rdA_nI (j := 0) (by omega) (by omega)
  have r1 : ∀ (f : Nat → Int32) (k : Int32 → Option Int32), rdA f 2 1 k = k (f 1) := fun f k => rdA_nI (j := 1) (by omega) (by omega)
  have r4 : ∀ (f : Nat → Int32) (k : Int32 → Option Int32), rdA f 4 0 k = k (f 0) := fun f k => rdA_nI (j := 0) (by omega) (by omega)
  simp only [r0, r1, r4, hk0, hk1]
  by_cases w0 : w = 0
  · simp only [w0, if_true]; exact ⟨_, rfl, rfl⟩
  · simp only [eq_false w0, if_false]
    by_cases w1 : w = 1
    · simp only [w1, if_true]; exact ⟨_, rfl, rfl⟩
    · simp only [eq_false w1, if_false]
      by_cases w2 : w = 2
      · simp only [w2, if_true]; exact ⟨_, rfl, rfl⟩
      · simp only [eq_false w2, if_false]
        by_cases w3 : w = 3
        · simp only [w3, if_true]
          by_cases q0 : isKept 0 = 0
          · simp only [q0, if_true]
            by_cases q1 : isKept 1 = 0
            · simp only [q1, if_true]; exact ⟨_, rfl, rfl⟩
            · simp only [eq_false q1, if_false]; exact ⟨_, rfl, rfl⟩
          · simp only [eq_false q0, if_false]
            by_cases q1 : isKept 1 = 0
            · simp only [q1, if_true]; exact ⟨_, rfl, rfl⟩
            · simp only [eq_false q1, if_false]; exact ⟨_, rfl, rfl⟩
        · simp only [eq_false w3, if_false]
          by_cases w4 : w = 4
          · simp only [w4, if_true]; exact ⟨_, rfl, rfl⟩
          · simp only [eq_false w4, if_false]
            by_cases w5 : w = 5
            · simp only [w5, if_true]
              unfold Sht_isThere
              rcases h0 with ⟨rfl, hl4⟩ | ⟨z, l, hz, hl, rfl, q4, rfl, q6, q7⟩
              · rw [if_pos rfl, hl4, if_pos rfl]
                simp only [bindS, i00, if_true]
                exact ⟨_, rfl, rfl⟩
              · rw [if_neg (show ¬ nI z = -1 from fun hh => nI_pos (n := z) (by omega) (by rw [hh]; decide)), q6, if_neg (show ¬ nI l = -4 from fun hh => nI_pos (n := l) (by omega) (by rw [hh]; decide)), q4]
                simp only [bindS, i10, if_false]
                exact ⟨_, rfl, rfl⟩
            · simp only [eq_false w5, if_false]; exact ⟨_, rfl, rfl⟩
end CNT2
