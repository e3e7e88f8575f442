/-! SHEETS: sheet, lay -/
def RSh (k : Nat) (cells : Nat → Int32) (lane size : Int32) (lanes lengths mcells : Nat → Int32) : Prop :=
  (size = -1 ∧ lanes k = -4) ∨ (∃ z l, z ≤ 40 ∧ l < 3 ∧ size = nI z ∧ lengths k = nI z ∧ lane = nI l ∧ lanes k = nI l ∧ ∀ i, i < 40 → cells i = mcells (40 * k + i))
theorem z00 : (nI 0 = (0 : Int32)) = True := eq_true rfl
theorem z10 : (nI 1 = (0 : Int32)) = False := eq_false (by decide)
theorem z11 : (nI 1 = (1 : Int32)) = True := eq_true rfl
theorem z20 : (nI 2 = (0 : Int32)) = False := eq_false (by decide)
theorem z21 : (nI 2 = (1 : Int32)) = False := eq_false (by decide)
theorem z22 : (nI 2 = (2 : Int32)) = True := eq_true rfl
theorem z30 : (nI 3 = (0 : Int32)) = False := eq_false (by decide)
theorem z31 : (nI 3 = (1 : Int32)) = False := eq_false (by decide)
theorem z32 : (nI 3 = (2 : Int32)) = False := eq_false (by decide)
theorem z33 : (nI 3 = (3 : Int32)) = True := eq_true rfl
theorem b_i8 (x : Int32) {i : Nat} (hi : i < 32) : bt x.toInt8.toInt32 i = if i < 8 then bt x i else bt x 7 := by
  unfold bt
  simp only [Int8.toBitVec_toInt32, Int32.toBitVec_toInt8, BitVec.getLsbD_signExtend, BitVec.msb_eq_getLsbD_last]
  by_cases h : i < 8
  · simp [h, hi]
  · simp [h, hi]
theorem b_i16 (x : Int32) {i : Nat} (hi : i < 32) : bt x.toInt16.toInt32 i = if i < 16 then bt x i else bt x 15 := by
  unfold bt
  simp only [Int16.toBitVec_toInt32, Int32.toBitVec_toInt16, BitVec.getLsbD_signExtend, BitVec.msb_eq_getLsbD_last]
  by_cases h : i < 16
  · simp [h, hi]
  · simp [h, hi]
theorem sh24 (x : Int32) : (x <<< ((24 : Int32) &&& 31)) >>> ((24 : Int32) &&& 31) = x.toInt8.toInt32 := by
  apply b_ext
  intro i hi
  have e := b_sshr 24 (by omega) (x <<< ((24 : Int32) &&& 31)) hi
  rw [show (nI 24 : Int32) = 24 from rfl] at e
  rw [e, b_i8 x hi]
  by_cases h : i < 8
  · rw [if_pos (by omega), if_pos h, b_shl24 x (by omega)]
    simp
  · rw [if_neg (by omega), if_neg h, b_shl24 x (by omega)]
    simp
theorem sh16 (x : Int32) : (x <<< ((16 : Int32) &&& 31)) >>> ((16 : Int32) &&& 31) = x.toInt16.toInt32 := by
  apply b_ext
  intro i hi
  have e := b_sshr 16 (by omega) (x <<< ((16 : Int32) &&& 31)) hi
  rw [show (nI 16 : Int32) = 16 from rfl] at e
  rw [e, b_i16 x hi]
  by_cases h : i < 16
  · rw [if_pos (by omega), if_pos h, b_shl16 x (by omega)]
    simp
  · rw [if_neg (by omega), if_neg h, b_shl16 x (by omega)]
    simp
theorem E_isSheet (k : Int32) : Let_isSheet k = some (if 0 ≤ k ∧ k ≤ 3 then 1 else 0) := by
  unfold Let_isSheet
  rcases rng_cases (t := k) (hi := 3) (n := 3) rfl (by omega) with ⟨f1, f2, m, hm, rfl⟩ | f
  · rw [if_neg (i32_nlt.mpr f1), if_neg (show ¬ (4 : Int32) ≤ nI m from nI_ge (b := 4) (by omega) (by omega)), if_pos ⟨f1, f2⟩]
  · rw [if_neg f]
    by_cases h : k < 0
    · rw [if_pos h]
    · rw [if_neg h, if_pos (show (4 : Int32) ≤ k by
        have h1 := i32_nlt.mp h
        have h2 : ¬ k ≤ 3 := fun hh => f ⟨h1, hh⟩
        rw [t32_le] at h1 h2 ⊢
        have e1 : (4 : Int32).toInt = 4 := rfl
        have e0 : (3 : Int32).toInt = 3 := rfl
        omega)]
theorem E_isLane (k : Int32) : Let_isLane k = some (if 0 ≤ k ∧ k ≤ 2 then 1 else 0) := by
  unfold Let_isLane
  rcases rng_cases (t := k) (hi := 2) (n := 2) rfl (by omega) with ⟨f1, f2, m, hm, rfl⟩ | f
  · rw [if_neg (i32_nlt.mpr f1), if_neg (show ¬ (3 : Int32) ≤ nI m from nI_ge (b := 3) (by omega) (by omega)), if_pos ⟨f1, f2⟩]
  · rw [if_neg f]
    by_cases h : k < 0
    · rw [if_pos h]
    · rw [if_neg h, if_pos (show (3 : Int32) ≤ k by
        have h1 := i32_nlt.mp h
        have h2 : ¬ k ≤ 2 := fun hh => f ⟨h1, hh⟩
        rw [t32_le] at h1 h2 ⊢
        have e1 : (3 : Int32).toInt = 3 := rfl
        have e0 : (2 : Int32).toInt = 2 := rfl
        omega)]
def zer (f : Nat → Int32) (b n : Nat) : Nat → Int32 := fun j => if b ≤ j ∧ j < b + n then 0 else f j
theorem zer_0 (f : Nat → Int32) (b : Nat) : zer f b 0 = f := by funext j; unfold zer; rw [if_neg (by omega)]
theorem zer_s (f : Nat → Int32) (b n : Nat) : upd (zer f b n) (b + n) 0 = zer f b (n + 1) := by
  funext j
  by_cases e : j = b + n
  · subst e; rw [upd_s]; unfold zer; rw [if_pos (by omega)]
  · rw [upd_n e]
    unfold zer
    by_cases e2 : b ≤ j ∧ j < b + n
    · rw [if_pos e2, if_pos (by omega)]
    · rw [if_neg e2, if_neg (by omega)]
theorem zer_in {f : Nat → Int32} {b n i : Nat} (h : i < n) : zer f b n (b + i) = 0 := by unfold zer; rw [if_pos (by omega)]
theorem zer_out {f : Nat → Int32} {b n j : Nat} (h : j < b ∨ b + n ≤ j) : zer f b n j = f j := by unfold zer; rw [if_neg (by omega)]
theorem E_renew (lane n : Int32) (f : Nat → Int32) : Sht_renew lane n f = some (lane, n, zer f 0 40) := by
  have key : ∀ (d i m : Nat), i + d = 40 → d < m → Sht_renew_L12 (fun x => some (lane, n, x)) m (nI i) (zer f 0 i) = some (lane, n, zer f 0 40) := by
    intro d
    induction d with
    | zero =>
      intro i m h1 h2
      obtain ⟨m, rfl⟩ : ∃ k, m = k + 1 := ⟨m - 1, by omega⟩
      obtain rfl : i = 40 := by omega
      rw [Sht_renew_L12, if_pos (by decide)]
    | succ d ih =>
      intro i m h1 h2
      obtain ⟨m, rfl⟩ : ∃ k, m = k + 1 := ⟨m - 1, by omega⟩
      rw [Sht_renew_L12, if_neg (show ¬ (40 : Int32) ≤ nI i from nI_ge (b := 40) (by omega) (by omega)), wrA_nI (by omega) (by omega)]
      have := zer_s f 0 i
      rw [Nat.zero_add] at this
      rw [this]
      simp only [nmI, nI_a1]
      exact ih (i + 1) m (by omega) (by omega)
  unfold Sht_renew
  have := key 40 0 FU (by omega) (by unfold FU; omega)
  rw [zer_0] at this
  exact this
theorem sheetM_L {k : Nat} (hk : k < 4) (f : Nat → Int32) (K : (Nat → Int32) → Option (Int32 × (Nat → Int32) × (Nat → Int32) × (Nat → Int32))) : ∀ (d i m : Nat), i + d = 40 → d < m → Mod_sheet_L56 (nI k) K m (nI i) (zer f (40 * k) i) = K (zer f (40 * k) 40) := by
  intro d
  induction d with
  | zero =>
    intro i m h1 h2
    obtain ⟨m, rfl⟩ : ∃ k, m = k + 1 := ⟨m - 1, by omega⟩
    obtain rfl : i = 40 := by omega
    rw [Mod_sheet_L56, if_pos (by decide)]
  | succ d ih =>
    intro i m h1 h2
    obtain ⟨m, rfl⟩ : ∃ k, m = k + 1 := ⟨m - 1, by omega⟩
    rw [Mod_sheet_L56, if_neg (show ¬ (40 : Int32) ≤ nI i from nI_ge (b := 40) (by omega) (by omega)), show (40 : Int32) * nI k + nI i = nI (40 * k + i) by rw [show (40 : Int32) = nI 40 from rfl, pk_mul, nI_add], wrA_nI (by omega) (by omega), zer_s]
    simp only [nmI, nI_a1]
    exact ih (i + 1) m (by omega) (by omega)
section SHT
variable {lanes lengths mcells c0 c1 c2 c3 : Nat → Int32} {l0 s0 l1 s1 l2 s2 l3 s3 : Int32}
theorem RSh.other {k m : Nat} {cells : Nat → Int32} {lane size : Int32} (h : RSh k cells lane size lanes lengths mcells) (hk : k ≠ m) (x y : Int32) {mc' : Nat → Int32} (hm : ∀ i, i < 40 → mc' (40 * k + i) = mcells (40 * k + i)) : RSh k cells lane size (upd lanes m x) (upd lengths m y) mc' := by
  unfold RSh at h ⊢
  rw [upd_n hk, upd_n hk]
  rcases h with h | ⟨z, l, q1, q2, q3, q4, q5, q6, q7⟩
  · exact Or.inl h
  · exact Or.inr ⟨z, l, q1, q2, q3, q4, q5, q6, fun i hi => by rw [hm i hi]; exact q7 i hi⟩
theorem RSh.new {k l z : Nat} (hl : l < 3) (hz : z ≤ 40) (f : Nat → Int32) : RSh k (zer f 0 40) (nI l) (nI z) (upd lanes k (nI l)) (upd lengths k (nI z)) (zer mcells (40 * k) 40) := Or.inr ⟨z, l, hz, hl, rfl, upd_s, rfl, upd_s, fun i hi => by
  have := zer_in (f := f) (b := 0) hi
  rw [Nat.zero_add] at this
  rw [this, zer_in hi]⟩
theorem P_sheet (h0 : RSh 0 c0 l0 s0 lanes lengths mcells) (h1 : RSh 1 c1 l1 s1 lanes lengths mcells) (h2 : RSh 2 c2 l2 s2 lanes lengths mcells) (h3 : RSh 3 c3 l3 s3 lanes lengths mcells) (k lane n : Int32) :
    ∃ o1 o2, Let_sheet k lane n l0 s0 c0 l1 s1 c1 l2 s2 c2 l3 s3 c3 = some o1 ∧ Mod_sheet k lane n lanes lengths mcells = some o2 ∧ o1.1 = o2.1 ∧
      RSh 0 o1.2.2.2.1 o1.2.1 o1.2.2.1 o2.2.1 o2.2.2.1 o2.2.2.2 ∧ RSh 1 o1.2.2.2.2.2.2.1 o1.2.2.2.2.1 o1.2.2.2.2.2.1 o2.2.1 o2.2.2.1 o2.2.2.2 ∧ RSh 2 o1.2.2.2.2.2.2.2.2.2.1 o1.2.2.2.2.2.2.2.1 o1.2.2.2.2.2.2.2.2.1 o2.2.1 o2.2.2.1 o2.2.2.2 ∧ RSh 3 o1.2.2.2.2.2.2.2.2.2.2.2.2 o1.2.2.2.2.2.2.2.2.2.2.1 o1.2.2.2.2.2.2.2.2.2.2.2.1 o2.2.1 o2.2.2.1 o2.2.2.2 := by
  unfold Let_sheet Mod_sheet
  rw [E_isSheet, E_isLane, E_in32c k (lo := 0) (hi := 3) (a := 0) (b := 3) rfl rfl, E_in32c lane (lo := 0) (hi := 2) (a := 0) (b := 2) rfl rfl]
  simp only [bindS]
  rcases rng_cases (t := k) (hi := 3) (n := 3) rfl (by omega) with ⟨f1, f2, m, hm, rfl⟩ | f
  · simp only [eq_true (show 0 ≤ nI m ∧ nI m ≤ 3 from ⟨f1, f2⟩), if_true, i10, if_false]
    rcases rng_cases (t := lane) (hi := 2) (n := 2) rfl (by omega) with ⟨g1, g2, l, hl, rfl⟩ | g
    · simp only [eq_true (show 0 ≤ nI l ∧ nI l ≤ 2 from ⟨g1, g2⟩), if_true, i10, if_false]
      by_cases hn : n ≤ 40
      · simp only [eq_true hn, if_true]
        by_cases hn0 : 0 ≤ n
        · simp only [eq_true hn0, if_true]
          obtain ⟨z, hz, rfl⟩ : ∃ z, z ≤ 40 ∧ n = nI z := by
            rcases rng_cases (t := n) (hi := 40) (n := 40) rfl (by omega) with ⟨-, -, z, hz, rfl⟩ | q
            · exact ⟨z, hz, rfl⟩
            · exact absurd ⟨hn0, hn⟩ q
          rw [wrA_nI (f := lanes) (by omega) (by omega), wrA_nI (f := lengths) (by omega) (by omega)]
          have eM := sheetM_L (k := m) (by omega) mcells (fun x => some (1, upd lanes m (nI l), upd lengths m (nI z), x)) 40 0 FU (by omega) (by unfold FU; omega)
          rw [zer_0, show nI 0 = (0 : Int32) from rfl] at eM
          rw [eM, E_renew, E_renew, E_renew, E_renew]
          simp only [bindS]
          rcases (show m = 0 ∨ m = 1 ∨ m = 2 ∨ m = 3 by omega) with rfl | rfl | rfl | rfl
          · simp only [z00, if_true]
            exact ⟨_, _, rfl, rfl, rfl, RSh.new (by omega) hz _, h1.other (by omega) _ _ (fun i hi => zer_out (by omega)), h2.other (by omega) _ _ (fun i hi => zer_out (by omega)), h3.other (by omega) _ _ (fun i hi => zer_out (by omega))⟩
          · simp only [z10, z11, if_true, if_false]
            exact ⟨_, _, rfl, rfl, rfl, h0.other (by omega) _ _ (fun i hi => zer_out (by omega)), RSh.new (by omega) hz _, h2.other (by omega) _ _ (fun i hi => zer_out (by omega)), h3.other (by omega) _ _ (fun i hi => zer_out (by omega))⟩
          · simp only [z20, z21, z22, if_true, if_false]
            exact ⟨_, _, rfl, rfl, rfl, h0.other (by omega) _ _ (fun i hi => zer_out (by omega)), h1.other (by omega) _ _ (fun i hi => zer_out (by omega)), RSh.new (by omega) hz _, h3.other (by omega) _ _ (fun i hi => zer_out (by omega))⟩
          · simp only [z30, z31, z32, z33, if_true, if_false]
            exact ⟨_, _, rfl, rfl, rfl, h0.other (by omega) _ _ (fun i hi => zer_out (by omega)), h1.other (by omega) _ _ (fun i hi => zer_out (by omega)), h2.other (by omega) _ _ (fun i hi => zer_out (by omega)), RSh.new (by omega) hz _⟩
        · simp only [eq_false hn0, if_false]
          exact ⟨_, _, rfl, rfl, rfl, h0, h1, h2, h3⟩
      · simp only [eq_false hn, if_false]
        exact ⟨_, _, rfl, rfl, rfl, h0, h1, h2, h3⟩
    · simp only [eq_false g, if_false, i00, if_true]
      exact ⟨_, _, rfl, rfl, rfl, h0, h1, h2, h3⟩
  · simp only [eq_false f, if_false, i00, if_true]
    exact ⟨_, _, rfl, rfl, rfl, h0, h1, h2, h3⟩
theorem nIz_sub {z c : Nat} (hz : z ≤ 40) (hc : c ≤ 3) (i : Int32) : i ≤ nI z - nI c ↔ i.toInt + c ≤ z := by
  have e1 : (nI z).toInt = z := nI_toInt (by omega)
  have e2 : (nI c).toInt = c := nI_toInt (by omega)
  rw [t32_le, t32_sub (by omega) (by omega)]
  omega
theorem E_fault0 (i s : Int32) : Sht_faultOfCells i s (-1) = some 1 := by
  unfold Sht_faultOfCells Sht_isThere
  rw [if_pos rfl]
  simp only [bindS, i00, if_true]
theorem E_fault {z c : Nat} (hz : z ≤ 40) (hc : c ≤ 3) (i : Int32) : Sht_faultOfCells i (nI c) (nI z) = some (if 0 ≤ i.toInt ∧ i.toInt + c ≤ z then 0 else 2) := by
  unfold Sht_faultOfCells Sht_isThere
  rw [if_neg (show ¬ nI z = -1 from fun hh => nI_pos (n := z) (by omega) (by rw [hh]; decide))]
  simp only [bindS, i10, if_false, nIz_sub hz hc]
  have e0 : (i < 0) ↔ i.toInt < 0 := by rw [t32_lt]; rfl
  by_cases h1 : i < 0
  · rw [if_pos h1, if_neg (fun h => by have := e0.mp h1; omega)]
  · rw [if_neg h1]
    have h2 : ¬ i.toInt < 0 := fun h => h1 (e0.mpr h)
    by_cases h3 : i.toInt + c ≤ z
    · rw [if_pos h3, if_pos ⟨by omega, h3⟩]
    · rw [if_neg h3, if_neg (fun h => h3 h.2)]
def layV (l : Nat) (v : Int32) : Int32 := if l = 0 then v.toInt8.toInt32 else if l = 1 then v.toInt16.toInt32 else v
theorem E_put {l j : Nat} (hl : l < 3) (hj : j < 40) (v : Int32) (f : Nat → Int32) : Sht_put (nI j) v (nI l) f = some (upd f j (layV l v)) := by
  unfold Sht_put layV
  rw [wrA_nI (by omega) (by omega), wrA_nI (by omega) (by omega), wrA_nI (by omega) (by omega)]
  rcases (show l = 0 ∨ l = 1 ∨ l = 2 by omega) with rfl | rfl | rfl
  · simp only [z00, if_true]
  · simp only [z10, z11, if_true, if_false]; rfl
  · simp only [z20, z21, if_false]; rfl
/-- one SHEET: what lay does to it, on both sides -/
theorem lay_1 {k : Nat} (hk : k < 4) {cells : Nat → Int32} {lane size : Int32} (h : RSh k cells lane size lanes lengths mcells) (i v : Int32) :
    (Sht_faultOfCells i 1 size = some 1 ∧ Mod_lay (nI k) i v lanes lengths mcells = some (-11, mcells)) ∨ (Sht_faultOfCells i 1 size = some 2 ∧ Mod_lay (nI k) i v lanes lengths mcells = some (-12, mcells)) ∨
    (∃ j w, j < 40 ∧ Sht_faultOfCells i 1 size = some 0 ∧ Sht_put i v lane cells = some (upd cells j w) ∧ Mod_lay (nI k) i v lanes lengths mcells = some (1, upd mcells (40 * k + j) w) ∧ RSh k (upd cells j w) lane size lanes lengths (upd mcells (40 * k + j) w)) := by
  have e3 : (nI k).toInt64 = (nI k).toInt64 := rfl
  have ein : Mod_in (nI k).toInt64 0 3 = some 1 := by
    rw [E_in32c (nI k) (lo := 0) (hi := 3) (a := 0) (b := 3) rfl rfl, if_pos ⟨(nI_0le (by omega)).mpr trivial, nI_le (b := 3) (by omega) (by omega)⟩]
  unfold Mod_lay
  rw [ein]
  simp only [bindS, i10, if_false]
  rw [rdA_nI (f := lanes) (by omega) (by omega)]
  rcases h with ⟨rfl, hl4⟩ | ⟨z, l, hz, hl, rfl, q4, rfl, q6, q7⟩
  · left
    rw [hl4, if_pos rfl]
    exact ⟨E_fault0 i 1, rfl⟩
  · right
    rw [q6, if_neg (show ¬ nI l = -4 from fun hh => nI_pos (n := l) (by omega) (by rw [hh]; decide)), rdA_nI (f := lengths) (by omega) (by omega), q4]
    have eN : Mod_in i.toInt64 0 ((nI z - 1).toInt64) = some (if 0 ≤ i.toInt ∧ i.toInt + 1 ≤ z then 1 else 0) := by
      rw [show (0 : Int64) = (0 : Int32).toInt64 from rfl, E_in32]
      have a1 : (0 : Int32) ≤ i ↔ 0 ≤ i.toInt := by rw [t32_le]; rfl
      have a2 := nIz_sub (z := z) (c := 1) hz (by omega) i
      rw [show nI 1 = (1 : Int32) from rfl] at a2
      simp only [a1, a2]
      rfl
    rw [eN, show (1 : Int32) = nI 1 from rfl, E_fault hz (by omega) i]
    simp only [bindS]
    by_cases hin : 0 ≤ i.toInt ∧ i.toInt + (1 : Nat) ≤ z
    · right
      have hin' : 0 ≤ i.toInt ∧ i.toInt + 1 ≤ z := hin
      obtain ⟨j, hj, rfl⟩ : ∃ j, j < z ∧ i = nI j := by
        rcases nI_cases (p := i) (N := z) (by omega) with ⟨j, hj, rfl⟩ | h | h
        · exact ⟨j, hj, rfl⟩
        · rw [t32_lt] at h
          have : (0 : Int32).toInt = 0 := rfl
          omega
        · rw [t32_le, nI_toInt (by omega)] at h
          omega
      refine ⟨j, layV l v, by omega, by rw [if_pos hin], E_put hl (by omega) v cells, ?_, ?_⟩
      · rw [if_pos hin', show nI 1 = (1 : Int32) from rfl, if_neg (by decide), rdA_nI (f := lanes) (by omega) (by omega), rdA_nI (f := lanes) (by omega) (by omega), q6, sh24, sh16, show (40 : Int32) * nI k + nI j = nI (40 * k + j) by rw [show (40 : Int32) = nI 40 from rfl, pk_mul, nI_add], wrA_nI (by omega) (by omega), wrA_nI (by omega) (by omega), wrA_nI (by omega) (by omega)]
        unfold layV
        rcases (show l = 0 ∨ l = 1 ∨ l = 2 by omega) with rfl | rfl | rfl
        · simp only [z00, if_true]
        · simp only [z10, z11, if_true, if_false]; rfl
        · simp only [z20, z21, if_false]; rfl
      · refine Or.inr ⟨z, l, hz, hl, rfl, q4, rfl, q6, fun m hm => ?_⟩
        by_cases e : m = j
        · subst e; rw [upd_s, upd_s]
        · rw [upd_n e, upd_n (by omega)]; exact q7 m hm
    · left
      have hin' : ¬ (0 ≤ i.toInt ∧ i.toInt + 1 ≤ z) := hin
      rw [if_neg hin, if_neg hin', if_pos rfl]
      exact ⟨rfl, rfl⟩
theorem RSh.others {k m j : Nat} {cells : Nat → Int32} {lane size w : Int32} (h : RSh k cells lane size lanes lengths mcells) (hk : k ≠ m) (hj : j < 40) : RSh k cells lane size lanes lengths (upd mcells (40 * m + j) w) := by
  rcases h with h | ⟨z, l, q1, q2, q3, q4, q5, q6, q7⟩
  · exact Or.inl h
  · exact Or.inr ⟨z, l, q1, q2, q3, q4, q5, q6, fun i hi => by rw [upd_n (by omega)]; exact q7 i hi⟩
theorem P_lay (h0 : RSh 0 c0 l0 s0 lanes lengths mcells) (h1 : RSh 1 c1 l1 s1 lanes lengths mcells) (h2 : RSh 2 c2 l2 s2 lanes lengths mcells) (h3 : RSh 3 c3 l3 s3 lanes lengths mcells) (k i v : Int32) :
    ∃ o1 o2, Let_lay k i v l0 s0 c0 l1 s1 c1 l2 s2 c2 l3 s3 c3 = some o1 ∧ Mod_lay k i v lanes lengths mcells = some o2 ∧ o1.1 = o2.1 ∧
      RSh 0 o1.2.1 l0 s0 lanes lengths o2.2 ∧ RSh 1 o1.2.2.1 l1 s1 lanes lengths o2.2 ∧ RSh 2 o1.2.2.2.1 l2 s2 lanes lengths o2.2 ∧ RSh 3 o1.2.2.2.2 l3 s3 lanes lengths o2.2 := by
  rcases rng_cases (t := k) (hi := 3) (n := 3) rfl (by omega) with ⟨f1, f2, m, hm, rfl⟩ | f
  · unfold Let_lay
    rw [E_isSheet]
    simp only [bindS]
    simp only [eq_true (show 0 ≤ nI m ∧ nI m ≤ 3 from ⟨f1, f2⟩), if_true, i10, if_false]
    rcases (show m = 0 ∨ m = 1 ∨ m = 2 ∨ m = 3 by omega) with rfl | rfl | rfl | rfl
    · simp only [z00, if_true]
      rcases lay_1 (by omega) h0 i v with ⟨e1, e2⟩ | ⟨e1, e2⟩ | ⟨j, w, hj, e1, e2, e3, e4⟩
      · rw [e1, e2]; simp only [bindS, i10, if_false]; exact ⟨_, _, rfl, rfl, rfl, h0, h1, h2, h3⟩
      · rw [e1, e2]; simp only [bindS]; rw [if_neg (by decide)]; exact ⟨_, _, rfl, rfl, rfl, h0, h1, h2, h3⟩
      · rw [e1, e3]; simp only [bindS, i00, if_true]; rw [e2]; exact ⟨_, _, rfl, rfl, rfl, e4, h1.others (by omega) hj, h2.others (by omega) hj, h3.others (by omega) hj⟩
    · simp only [z10, z11, if_true, if_false]
      rcases lay_1 (by omega) h1 i v with ⟨e1, e2⟩ | ⟨e1, e2⟩ | ⟨j, w, hj, e1, e2, e3, e4⟩
      · rw [e1, e2]; simp only [bindS, i10, if_false]; exact ⟨_, _, rfl, rfl, rfl, h0, h1, h2, h3⟩
      · rw [e1, e2]; simp only [bindS]; rw [if_neg (by decide)]; exact ⟨_, _, rfl, rfl, rfl, h0, h1, h2, h3⟩
      · rw [e1, e3]; simp only [bindS, i00, if_true]; rw [e2]; exact ⟨_, _, rfl, rfl, rfl, h0.others (by omega) hj, e4, h2.others (by omega) hj, h3.others (by omega) hj⟩
    · simp only [z20, z21, z22, if_true, if_false]
      rcases lay_1 (by omega) h2 i v with ⟨e1, e2⟩ | ⟨e1, e2⟩ | ⟨j, w, hj, e1, e2, e3, e4⟩
      · rw [e1, e2]; simp only [bindS, i10, if_false]; exact ⟨_, _, rfl, rfl, rfl, h0, h1, h2, h3⟩
      · rw [e1, e2]; simp only [bindS]; rw [if_neg (by decide)]; exact ⟨_, _, rfl, rfl, rfl, h0, h1, h2, h3⟩
      · rw [e1, e3]; simp only [bindS, i00, if_true]; rw [e2]; exact ⟨_, _, rfl, rfl, rfl, h0.others (by omega) hj, h1.others (by omega) hj, e4, h3.others (by omega) hj⟩
    · simp only [z30, z31, z32, z33, if_true, if_false]
      rcases lay_1 (by omega) h3 i v with ⟨e1, e2⟩ | ⟨e1, e2⟩ | ⟨j, w, hj, e1, e2, e3, e4⟩
      · rw [e1, e2]; simp only [bindS, i10, if_false]; exact ⟨_, _, rfl, rfl, rfl, h0, h1, h2, h3⟩
      · rw [e1, e2]; simp only [bindS]; rw [if_neg (by decide)]; exact ⟨_, _, rfl, rfl, rfl, h0, h1, h2, h3⟩
      · rw [e1, e3]; simp only [bindS, i00, if_true]; rw [e2]; exact ⟨_, _, rfl, rfl, rfl, h0.others (by omega) hj, h1.others (by omega) hj, h2.others (by omega) hj, e4⟩
  · unfold Let_lay Mod_lay
    rw [E_isSheet, E_in32c k (lo := 0) (hi := 3) (a := 0) (b := 3) rfl rfl]
    simp only [bindS]
    simp only [eq_false f, if_false, i00, if_true]
    exact ⟨_, _, rfl, rfl, rfl, h0, h1, h2, h3⟩
end SHT
