/-! read: the DEBTS of a SHEET -/
theorem rdL1 : ∀ (n : Nat) (a b c : Int32) (f : Nat → Int32) (p2 p3 p4 : Int32) (K1 : Int32 → Option (Int32 × Int32 × (Nat → Int32))) (K2 : Int32 → Int32 → Option (Int32 × Int32 × (Nat → Int32))) (x y : Int32), Let_read_L42' a b c f p2 p3 p4 K1 K2 n x y = Let_read_L42 a b c f p2 p3 p4 K1 K2 n x y := by
  intro n
  induction n with
  | zero => intros; rfl
  | succ n ih => intros; simp only [Let_read_L42', Let_read_L42, ih]
theorem rdL2 : ∀ (n : Nat) (a b c : Int32) (f : Nat → Int32) (p2 p3 p4 : Int32) (K1 : Int32 → Option (Int32 × Int32 × (Nat → Int32))) (K2 : Int32 → Int32 → Option (Int32 × Int32 × (Nat → Int32))) (x y : Int32), Let_read_L42'' a b c f p2 p3 p4 K1 K2 n x y = Let_read_L42 a b c f p2 p3 p4 K1 K2 n x y := by
  intro n
  induction n with
  | zero => intros; rfl
  | succ n ih => intros; simp only [Let_read_L42'', Let_read_L42, ih]
theorem rdL3 : ∀ (n : Nat) (a b c : Int32) (f : Nat → Int32) (p2 p3 p4 : Int32) (K1 : Int32 → Option (Int32 × Int32 × (Nat → Int32))) (K2 : Int32 → Int32 → Option (Int32 × Int32 × (Nat → Int32))) (x y : Int32), Let_read_L42''' a b c f p2 p3 p4 K1 K2 n x y = Let_read_L42 a b c f p2 p3 p4 K1 K2 n x y := by
  intro n
  induction n with
  | zero => intros; rfl
  | succ n ih => intros; simp only [Let_read_L42''', Let_read_L42, ih]
theorem rdM1 : ∀ (n : Nat) (f : Nat → Int32) (p3 w : Int32) (K : (Nat → Int32) → Option (Int32 × Int32 × (Nat → Int32))) (x : Int32) (d : Nat → Int32), Let_read_L131' f p3 w K n x d = Let_read_L131 f p3 w K n x d := by
  intro n
  induction n with
  | zero => intros; rfl
  | succ n ih => intros; simp only [Let_read_L131', Let_read_L131, ih]
theorem rdM2 : ∀ (n : Nat) (f : Nat → Int32) (p3 w : Int32) (K : (Nat → Int32) → Option (Int32 × Int32 × (Nat → Int32))) (x : Int32) (d : Nat → Int32), Let_read_L131'' f p3 w K n x d = Let_read_L131 f p3 w K n x d := by
  intro n
  induction n with
  | zero => intros; rfl
  | succ n ih => intros; simp only [Let_read_L131'', Let_read_L131, ih]
theorem rdM3 : ∀ (n : Nat) (f : Nat → Int32) (p3 w : Int32) (K : (Nat → Int32) → Option (Int32 × Int32 × (Nat → Int32))) (x : Int32) (d : Nat → Int32), Let_read_L131''' f p3 w K n x d = Let_read_L131 f p3 w K n x d := by
  intro n
  induction n with
  | zero => intros; rfl
  | succ n ih => intros; simp only [Let_read_L131''', Let_read_L131, ih]
/-- the first w DEBTS of the cells from g on, one after another -/
def dAp (cells : Nat → Int32) (g : Nat) (debts : Nat → Int32) : Nat → (Nat → Int32)
  | 0 => debts
  | w + 1 => upd (dAp cells g debts w) (7 * (cells (g + 3 * w)).toNatClampNeg + (cells (g + 3 * w + 1)).toNatClampNeg) (cells (g + 3 * w + 2))
theorem i64_addc (f : Int32) {i : Nat} (hi : i ≤ 100) : (f.toInt64 + (nI i).toInt64).toInt = f.toInt + i := by
  have h := t32_rng f
  have e2 : (nI i).toInt = i := nI_toInt (by omega)
  rw [Int64.toInt_add, Int32.toInt_toInt64, Int32.toInt_toInt64, e2]
  exact Int.bmod_eq_of_le (by omega) (by omega)
theorem E_inF (f : Int32) {i z : Nat} (hi : i ≤ 100) (hz : z ≤ 40) : Mod_in (f.toInt64 + (nI i).toInt64) 0 ((nI z - 1).toInt64) = some (if 0 ≤ f.toInt + i ∧ f.toInt + i + 1 ≤ z then 1 else 0) := by
  rw [E_in]
  have e1 := i64_addc f hi
  have e2 : ((nI z - 1).toInt64).toInt = (z : Int) - 1 := by
    rw [Int32.toInt_toInt64]
    have a1 : (nI z).toInt = z := nI_toInt (by omega)
    have a2 : (1 : Int32).toInt = 1 := rfl
    rw [t32_sub (by omega) (by omega)]
    omega
  have e0 : (0 : Int64).toInt = 0 := rfl
  simp only [t64_le, e1, e2, e0]
  by_cases h : 0 ≤ f.toInt + i ∧ f.toInt + i + 1 ≤ z
  · rw [if_pos h, if_pos (by omega)]
  · rw [if_neg h, if_neg (by omega)]
theorem nI_mod3 {i : Nat} (hi : i < 100) : nI i - nI i / 3 * 3 = nI (i % 3) := by
  rw [show (3 : Int32) = nI 3 from rfl, pk_rem (by omega) (by omega) (by omega)]
section READ
variable {N B : Nat} {people law counters : Int32} {kind father comes wants cost coins debts : Nat → Int32} {lanes lengths mcells cells : Nat → Int32}
/-- one step of the check's loop, the lane being right -/
theorem rd_step {k l z : Nat} (hk : k < 4) (hl : l < 3) (hz : z ≤ 40) (hln : lanes k = nI l) (hlg : lengths k = nI z) {nn : Nat} (hnn : nn ≤ 13) (f : Int32) (K1 : Int32 → (Nat → Int32) → Option (Int32 × Int32 × (Nat → Int32))) (K2 : Int32 → Int32 → (Nat → Int32) → Option (Int32 × Int32 × (Nat → Int32))) (n : Nat) {i : Nat} (hi : i < 3 * nn) (cm : Int32) (st : Nat → Int32) :
    Mod_read_L56 lanes lengths mcells (nI k) (nI l) f (nI nn) K1 K2 (n + 1) 0 cm (nI i) st = (if 0 ≤ f.toInt + i ∧ f.toInt + i + 1 ≤ z then (if i % 3 = 2 then (rdA mcells 160 ((((40 : Int32) * nI k) + f) + nI i - 2) (fun v_15 => rdA mcells 160 ((((40 : Int32) * nI k) + f) + nI i - 1) (fun v_16 => rdA mcells 160 ((((40 : Int32) * nI k) + f) + nI i) (fun v_17 => (Mod_debts v_15 v_16 v_17 st).bind (fun o_18 => if 0 ≤ o_18.1 then Mod_read_L56 lanes lengths mcells (nI k) (nI l) f (nI nn) K1 K2 n 0 (cm + 1) (nI (i + 1)) o_18.2 else K1 cm o_18.2))))) else Mod_read_L56 lanes lengths mcells (nI k) (nI l) f (nI nn) K1 K2 n 0 cm (nI (i + 1)) st) else Mod_read_L56 lanes lengths mcells (nI k) (nI l) f (nI nn) K1 K2 n 2 cm (nI (i + 1)) st) := by
  have e3 : (3 : Int32) * nI nn = nI (3 * nn) := by rw [show (3 : Int32) = nI 3 from rfl, pk_mul]
  rw [Mod_read_L56, e3, if_neg (nI_ge hi (by omega)), if_pos rfl, rdA_nI (f := lanes) (by omega) (by omega), hln]
  simp only [jn]
  rw [if_neg (show ¬ nI l = -4 from fun hh => nI_pos (n := l) (by omega) (by rw [hh]; decide)), rdA_nI (f := lanes) (by omega) (by omega), hln, if_pos rfl, rdA_nI (f := lengths) (by omega) (by omega), hlg, E_inF f (by omega) hz]
  simp only [bindS, nmI, nI_a1, nI_mod3 (show i < 100 by omega)]
  by_cases h : 0 ≤ f.toInt + i ∧ f.toInt + i + 1 ≤ z
  · simp only [eq_true h, if_true, i10, if_false]
    by_cases h2 : i % 3 = 2
    · rw [h2]
      simp only [if_true]
      rw [if_pos (show nI 2 = (2 : Int32) from rfl)]
    · rw [if_neg h2, if_neg (show ¬ nI (i % 3) = 2 from fun hh => h2 ((nI_eq (b := 2) (by omega) (by omega)).mp hh))]
  · simp only [eq_false h, if_false, i00, if_true]
    rw [if_neg (show ¬ (2 : Int32) = 0 by decide)]
theorem rd_stop (k l : Int32) (f p4 : Int32) (K1 : Int32 → (Nat → Int32) → Option (Int32 × Int32 × (Nat → Int32))) (K2 : Int32 → Int32 → (Nat → Int32) → Option (Int32 × Int32 × (Nat → Int32))) (n : Nat) (by_ cm i : Int32) (st : Nat → Int32) (hb : ¬ by_ = 0) : Mod_read_L56 lanes lengths mcells k l f p4 K1 K2 (n + 1) by_ cm i st = K2 by_ cm st := by
  rw [Mod_read_L56]
  by_cases h : 3 * p4 ≤ i
  · rw [if_pos h]
  · rw [if_neg h, if_neg hb]
/-- the two loops, from the w-th DEBT on -/
theorem rd_sim {k l z : Nat} (hk : k < 4) (hl : l < 3) (hz : z ≤ 40) (hln : lanes k = nI l) (hlg : lengths k = nI z) (hce : ∀ i, i < 40 → cells i = mcells (40 * k + i)) {nn : Nat} (hnn : nn ≤ 13) (f : Int32) (st1 : Nat → Int32)
    (K1 : Int32 → Option (Int32 × Int32 × (Nat → Int32))) (K2 : Int32 → Int32 → Option (Int32 × Int32 × (Nat → Int32))) (M1 : Int32 → (Nat → Int32) → Option (Int32 × Int32 × (Nat → Int32))) (M2 : Int32 → Int32 → (Nat → Int32) → Option (Int32 × Int32 × (Nat → Int32))) :
    ∀ (d w n1 n2 : Nat) (st : Nat → Int32), w + d = nn → 2 * d + 1 < n1 → 4 * d + 1 < n2 → (w = 0 ∨ ∃ g, f = nI g ∧ g + 3 * w ≤ z) → RT N people law counters kind father comes wants cost coins (dAp cells f.toNatClampNeg debts w) st 0 → TOK N B coins (dAp cells f.toNatClampNeg debts w) → frI st1 st → (∀ v, v < w → ∃ i j, i < N ∧ j < N ∧ cells (f.toNatClampNeg + 3 * v) = nI i ∧ cells (f.toNatClampNeg + 3 * v + 1) = nI j) →
    (∃ w' st', w' ≤ nn ∧ Let_read_L42 (nI N) (nI l) (nI z) cells (nI l) f (nI nn) K1 K2 n1 0 (nI w) = K1 (nI w') ∧ Mod_read_L56 lanes lengths mcells (nI k) (nI l) f (nI nn) M1 M2 n2 0 (nI w) (nI (3 * w)) st = M1 (nI w') st' ∧ frI st1 st') ∨
    (∃ b w' st', w' ≤ nn ∧ Let_read_L42 (nI N) (nI l) (nI z) cells (nI l) f (nI nn) K1 K2 n1 0 (nI w) = K2 (nI b) (nI w') ∧ Mod_read_L56 lanes lengths mcells (nI k) (nI l) f (nI nn) M1 M2 n2 0 (nI w) (nI (3 * w)) st = M2 (nI b) (nI w') st' ∧ RT N people law counters kind father comes wants cost coins (dAp cells f.toNatClampNeg debts w') st' 0 ∧ TOK N B coins (dAp cells f.toNatClampNeg debts w') ∧ frI st1 st' ∧ (w' = 0 ∨ ∃ g, f = nI g ∧ g + 3 * w' ≤ 40) ∧ (∀ v, v < w' → ∃ i j, i < N ∧ j < N ∧ cells (f.toNatClampNeg + 3 * v) = nI i ∧ cells (f.toNatClampNeg + 3 * v + 1) = nI j)) := by
  intro d
  induction d with
  | zero =>
    intro w n1 n2 st hw h1 h2 hf hR hT hfr hall
    obtain ⟨n1, rfl⟩ : ∃ k, n1 = k + 1 := ⟨n1 - 1, by omega⟩
    obtain ⟨n2, rfl⟩ : ∃ k, n2 = k + 1 := ⟨n2 - 1, by omega⟩
    right
    refine ⟨0, w, st, by omega, ?_, ?_, hR, hT, hfr, ?_, hall⟩
    · rw [Let_read_L42, if_pos rfl, if_pos (nI_le (by omega) (by omega))]; rfl
    · rw [Mod_read_L56, show (3 : Int32) * nI nn = nI (3 * nn) by rw [show (3 : Int32) = nI 3 from rfl, pk_mul], if_pos (nI_le (by omega) (by omega))]; rfl
    · rcases hf with h | ⟨g, h, h'⟩
      · exact Or.inl h
      · exact Or.inr ⟨g, h, by omega⟩
  | succ d ih =>
    intro w n1 n2 st hw h1 h2 hf hR hT hfr hall
    obtain ⟨n1, rfl⟩ : ∃ k, n1 = k + 2 := ⟨n1 - 2, by omega⟩
    obtain ⟨n2, rfl⟩ : ∃ k, n2 = k + 4 := ⟨n2 - 4, by omega⟩
    have hN := hR.N7
    have hr := t32_rng f
    -- the place as it is computed
    have eat : (f + 3 * nI w).toInt = f.toInt + 3 * w ∨ (w = 0 ∧ f + 3 * nI w = f) := by
      rcases hf with rfl | ⟨g, rfl, hg⟩
      · right
        exact ⟨rfl, by rw [show (3 : Int32) * nI 0 = 0 by decide, i32_add0]⟩
      · left
        rw [show (3 : Int32) = nI 3 from rfl, pk_mul, nI_add, nI_toInt (by omega), nI_toInt (by omega)]
        omega
    have eat' : (f + 3 * nI w).toInt = f.toInt + 3 * w := by
      rcases eat with h | ⟨h, h'⟩
      · exact h
      · rw [h', h]; omega
    have eF : Sht_faultAsOf (nI l) (f + 3 * nI w) 3 (nI l) (nI z) = some (if 0 ≤ f.toInt + 3 * w ∧ f.toInt + 3 * w + 3 ≤ z then 0 else 2) := by
      unfold Sht_faultAsOf Sht_isThere
      rw [if_neg (show ¬ nI z = -1 from fun hh => nI_pos (n := z) (by omega) (by rw [hh]; decide)), show (3 : Int32) = nI 3 from rfl, E_fault hz (by omega)]
      simp only [bindS, jn, i10, if_false, if_true]
      rw [show (nI 3 : Int32) = 3 from rfl, eat']
      rfl
    have hL : Let_read_L42 (nI N) (nI l) (nI z) cells (nI l) f (nI nn) K1 K2 (n1 + 2) 0 (nI w) = (if 0 ≤ f.toInt + 3 * w ∧ f.toInt + 3 * w + 3 ≤ z then rdA cells 40 (f + 3 * nI w) (fun v_7 => rdA cells 40 ((f + 3 * nI w) + 1) (fun v_8 => rdA cells 40 ((f + 3 * nI w) + 2) (fun v_9 => (Twn_canBeDebt v_7 v_8 v_9 (nI N)).bind (fun o_10 => if o_10 = 0 then (K1 (nI w)) else (Let_read_L42 (nI N) (nI l) (nI z) cells (nI l) f (nI nn) K1 K2 (n1 + 1) 0 (nI (w + 1))))))) else K2 2 (nI w)) := by
      rw [Let_read_L42, if_pos rfl, if_neg (nI_ge (by omega) (by omega))]
      simp only [nmI]
      rw [eF]
      simp only [bindS, nI_a1]
      by_cases h : 0 ≤ f.toInt + 3 * w ∧ f.toInt + 3 * w + 3 ≤ z
      · simp only [eq_true h, if_true]
      · simp only [eq_false h, if_false]
        rw [if_neg (show ¬ (2 : Int32) = 0 by decide), Let_read_L42, if_neg (show ¬ (2 : Int32) = 0 by decide)]
    rw [hL]
    have s0 := rd_step (mcells := mcells) hk hl hz hln hlg hnn f M1 M2 (n2 + 3) (i := 3 * w) (by omega) (nI w) st
    have s1 := rd_step (mcells := mcells) hk hl hz hln hlg hnn f M1 M2 (n2 + 2) (i := 3 * w + 1) (by omega) (nI w) st
    have s2 := rd_step (mcells := mcells) hk hl hz hln hlg hnn f M1 M2 (n2 + 1) (i := 3 * w + 2) (by omega) (nI w) st
    rw [if_neg (show ¬ 3 * w % 3 = 2 by omega)] at s0
    rw [if_neg (show ¬ (3 * w + 1) % 3 = 2 by omega)] at s1
    rw [if_pos (show (3 * w + 2) % 3 = 2 by omega)] at s2
    have stop := fun n cm i => rd_stop (lanes := lanes) (lengths := lengths) (mcells := mcells) (nI k) (nI l) f (nI nn) M1 M2 n 2 cm i st (by decide)
    by_cases hin : 0 ≤ f.toInt + 3 * w ∧ f.toInt + 3 * w + 3 ≤ z
    · rw [if_pos hin]
      obtain ⟨g, hg, rfl⟩ : ∃ g, g + 3 * w + 3 ≤ z ∧ f = nI g := by
        rcases hf with rfl | ⟨g, rfl, hg⟩
        · obtain ⟨g, hg, rfl⟩ := nI_of (x := f) (by rw [t32_lt]; have : (0 : Int32).toInt = 0 := rfl; omega)
          exact ⟨g, by rw [nI_toInt hg] at hin; omega, rfl⟩
        · exact ⟨g, by rw [nI_toInt (by omega)] at hin; omega, rfl⟩
      have eg : (nI g).toInt = g := nI_toInt (by omega)
      rw [eg] at s0 s1 s2
      rw [if_pos (by omega)] at s0 s1 s2
      rw [s0, s1, s2]
      have ecl : (nI g).toNatClampNeg = g := nI_clamp (by omega)
      rw [ecl] at hR hT hall
      rw [ecl] at ih ⊢
      have i0 : (40 : Int32) * nI k + nI g + nI (3 * w + 2) - 2 = nI (40 * k + (g + 3 * w)) := by
        rw [show (40 : Int32) = nI 40 from rfl, pk_mul, nI_add, nI_add, show (2 : Int32) = nI 2 from rfl, pk_sub (by omega)]
        congr 1; omega
      have i1 : (40 : Int32) * nI k + nI g + nI (3 * w + 2) - 1 = nI (40 * k + (g + 3 * w + 1)) := by
        rw [show (40 : Int32) = nI 40 from rfl, pk_mul, nI_add, nI_add, show (1 : Int32) = nI 1 from rfl, pk_sub (by omega)]
        congr 1; omega
      have i2 : (40 : Int32) * nI k + nI g + nI (3 * w + 2) = nI (40 * k + (g + 3 * w + 2)) := by
        rw [show (40 : Int32) = nI 40 from rfl, pk_mul, nI_add, nI_add]
        congr 1; omega
      have j0 : nI g + 3 * nI w = nI (g + 3 * w) := by rw [show (3 : Int32) = nI 3 from rfl, pk_mul, nI_add]
      rw [i0, i1, i2, j0, show nI (g + 3 * w) + 1 = nI (g + 3 * w + 1) from nI_1 _, show nI (g + 3 * w) + 2 = nI (g + 3 * w + 2) by rw [show (2 : Int32) = nI 2 from rfl, nI_add]]
      rw [rdA_nI (f := cells) (by omega) (by omega), rdA_nI (f := cells) (by omega) (by omega), rdA_nI (f := cells) (by omega) (by omega)]
      rw [rdA_nI (f := mcells) (by omega) (by omega), rdA_nI (f := mcells) (by omega) (by omega), rdA_nI (f := mcells) (by omega) (by omega)]
      rw [← hce _ (show g + 3 * w < 40 by omega), ← hce _ (show g + 3 * w + 1 < 40 by omega), ← hce _ (show g + 3 * w + 2 < 40 by omega)]
      rw [E_canT]
      simp only [bindS]
      rcases E_debtsM hR (cells (g + 3 * w)) (cells (g + 3 * w + 1)) (cells (g + 3 * w + 2)) with ⟨hno, e⟩ | ⟨i, j, v, hi, hj, hij, hv, ea, eb, ev, ht, e⟩
      · left
        have hz0 : (if twoB N (cells (g + 3 * w)) (cells (g + 3 * w + 1)) = 0 then (0 : Int32) else if 0 ≤ cells (g + 3 * w + 2) ∧ cells (g + 3 * w + 2) ≤ 99 then 1 else 0) = 0 := by
          by_cases h : twoB N (cells (g + 3 * w)) (cells (g + 3 * w + 1)) = 0
          · rw [if_pos h]
          · rw [if_neg h, if_neg (fun hh => hno ⟨h, hh⟩)]
        rw [hz0, e]
        simp only [bindS, i00, if_true]
        rw [if_neg (show ¬ (0 : Int32) ≤ -1 by decide)]
        exact ⟨w, st, by omega, rfl, rfl, hfr⟩
      · have hz1 : (if twoB N (cells (g + 3 * w)) (cells (g + 3 * w + 1)) = 0 then (0 : Int32) else if 0 ≤ cells (g + 3 * w + 2) ∧ cells (g + 3 * w + 2) ≤ 99 then 1 else 0) = 1 := by
          rw [ht, if_neg (by decide), ev, if_pos ⟨(nI_0le (by omega)).mpr trivial, nI_le (b := 99) hv (by omega)⟩]
        rw [hz1, e]
        simp only [bindS, i10, if_false]
        obtain ⟨dv, hd1, hd2⟩ := hT.2 (7 * i + j) (by omega)
        rw [hd2, if_pos ((nI_0le (by omega)).mpr trivial), nI_a1]
        have hst : dAp cells g debts (w + 1) = upd (dAp cells g debts w) (7 * i + j) (nI v) := by
          show upd (dAp cells g debts w) (7 * (cells (g + 3 * w)).toNatClampNeg + (cells (g + 3 * w + 1)).toNatClampNeg) (cells (g + 3 * w + 2)) = _
          rw [ea, eb, ev, nI_clamp (by omega), nI_clamp (by omega)]
        have := ih (w + 1) (n1 + 1) (n2 + 1) (upd st (42 + (7 * i + j)) (cells (g + 3 * w + 2))) (by omega) (by omega) (by omega) (Or.inr ⟨g, rfl, by omega⟩) (by rw [hst, ev]; exact hR.setDebt0 (by omega) (by omega) hij _) (by rw [hst]; exact hT.setD (by omega) (by omega)) (fun m hm => by rw [upd_n (by omega)]; exact hfr m hm) (fun u hu => by
          by_cases eu : u = w
          · subst eu; exact ⟨i, j, hi, hj, ea, eb⟩
          · exact hall u (by omega))
        rw [show 3 * (w + 1) = 3 * w + 2 + 1 by omega] at this
        exact this
    · rw [if_neg hin]
      right
      refine ⟨2, w, st, by omega, rfl, ?_, hR, hT, hfr, ?_, hall⟩
      · rw [s0]
        by_cases c0 : 0 ≤ f.toInt + ((3 * w : Nat) : Int) ∧ f.toInt + ((3 * w : Nat) : Int) + 1 ≤ z
        · rw [if_pos c0, s1]
          by_cases c1 : 0 ≤ f.toInt + ((3 * w + 1 : Nat) : Int) ∧ f.toInt + ((3 * w + 1 : Nat) : Int) + 1 ≤ z
          · rw [if_pos c1, s2, if_neg (by omega), stop n2]
            rfl
          · rw [if_neg c1, stop (n2 + 1)]
            rfl
        · rw [if_neg c0, stop (n2 + 2)]
          rfl
      · rcases hf with h | ⟨g, h, h'⟩
        · exact Or.inl h
        · exact Or.inr ⟨g, h, by omega⟩
end READ
