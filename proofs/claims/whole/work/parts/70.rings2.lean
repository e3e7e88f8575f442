section RINGS
variable {N : Nat} {A : Nat → Nat} {people law counters : Int32} {kind father comes wants cost coins debts st : Nat → Int32}
theorem rg_in (hN : N ≤ 7) {L : Nat → Nat} {m : Nat} (hm : m < N) (K : (Nat → Int32) → Option (Int32 × (Nat → Int32))) :
    ∀ (d a n : Nat) (lets : Nat → Int32), a + d = N → d < n → (∀ j, j < N → lets j = nI (if j < a then fl L m j else L j)) →
    ∃ lets', Ord_ringed_L12 (nI N) (nI m) K n (nI a) lets = K lets' ∧ ∀ j, j < N → lets' j = nI (fl L m j) := by
  intro d
  induction d with
  | zero =>
    intro a n lets ha hn hl
    obtain ⟨n, rfl⟩ : ∃ k, n = k + 1 := ⟨n - 1, by omega⟩
    obtain rfl : a = N := by omega
    refine ⟨lets, ?_, fun j hj => by rw [hl j hj, if_pos hj]⟩
    rw [Ord_ringed_L12, if_pos (nI_le (by omega) (by omega))]
  | succ d ih =>
    intro a n lets ha hn hl
    obtain ⟨n, rfl⟩ : ∃ k, n = k + 1 := ⟨n - 1, by omega⟩
    have haN : a < N := by omega
    have ea : lets a = nI (L a) := by rw [hl a haN, if_neg (by omega)]
    have em : lets m = nI (L m) := by
      rw [hl m hm]
      by_cases h : m < a
      · rw [if_pos h, fl_s]
      · rw [if_neg h]
    rw [Ord_ringed_L12, if_neg (nI_ge haN (by omega)), rdA_nI (f := lets) (j := a) (by omega) (by omega), ea]
    simp only [nmI_e, nI_a1]
    by_cases hb : (L a).testBit m = true
    · rw [if_neg (fun hh => by rw [b_tst0 (by omega), bt_nI (by omega), hb] at hh; cases hh), rdA_nI (f := lets) (j := a) (by omega) (by omega), rdA_nI (f := lets) (j := m) (by omega) (by omega), wrA_nI (by omega) (by omega), ea, em, nx_or]
      exact ih (a + 1) n _ (by omega) (by omega) (fun j hj => by
        by_cases e : j = a
        · rw [e, upd_s, if_pos (by omega)]; unfold fl; rw [if_pos hb]
        · rw [upd_n e, hl j hj]
          by_cases h : j < a
          · rw [if_pos h, if_pos (by omega)]
          · rw [if_neg h, if_neg (by omega)])
    · have h0 : (L a).testBit m = false := by cases hh : (L a).testBit m <;> simp_all
      rw [if_pos ((b_tst0 (by omega)).mpr (by rw [bt_nI (by omega)]; exact h0))]
      exact ih (a + 1) n _ (by omega) (by omega) (fun j hj => by
        by_cases e : j = a
        · rw [e, ea, if_pos (by omega)]; unfold fl; rw [if_neg hb]
        · rw [hl j hj]
          by_cases h : j < a
          · rw [if_pos h, if_pos (by omega)]
          · rw [if_neg h, if_neg (by omega)])
theorem rg_out (hN : N ≤ 7) (K : (Nat → Int32) → Option (Int32 × (Nat → Int32))) :
    ∀ (d m n : Nat) (lets : Nat → Int32) (L : Nat → Nat), m + d = N → d < n → (∀ j, j < N → lets j = nI (L j)) → RIn N A L m →
    ∃ lets' L', Ord_ringed_L2 (nI N) K n (nI m) lets = K lets' ∧ (∀ j, j < N → lets' j = nI (L' j)) ∧ RIn N A L' N := by
  intro d
  induction d with
  | zero =>
    intro m n lets L hm hn hl hI
    obtain ⟨n, rfl⟩ : ∃ k, n = k + 1 := ⟨n - 1, by omega⟩
    obtain rfl : m = N := by omega
    refine ⟨lets, L, ?_, hl, hI⟩
    rw [Ord_ringed_L2, if_pos (nI_le (by omega) (by omega))]
  | succ d ih =>
    intro m n lets L hm hn hl hI
    obtain ⟨n, rfl⟩ : ∃ k, n = k + 1 := ⟨n - 1, by omega⟩
    have hmN : m < N := by omega
    obtain ⟨l1, e1, e2⟩ := rg_in (L := L) hN hmN (fun t => nmI (nI m + 1) (fun x => Ord_ringed_L2 (nI N) K n x t)) N 0 FU lets (by omega) (by unfold FU; omega) (fun j hj => by rw [hl j hj, if_neg (by omega)])
    obtain ⟨l2, L2, g1, g2, g3⟩ := ih (m + 1) n l1 (fl L m) (by omega) (by omega) e2 (RIn_s hmN hI)
    refine ⟨l2, L2, ?_, g2, g3⟩
    rw [Ord_ringed_L2, if_neg (nI_ge hmN (by omega))]
    refine Eq.trans e1 ?_
    simp only [nmI_e, nI_a1]
    exact g1
def rg (U : Nat → Nat) : Nat → Nat
  | 0 => 0
  | p + 1 => rg U p ||| (U p &&& 2 ^ p)
theorem rg_eq {U V : Nat → Nat} : ∀ n, (∀ p, p < n → U p = V p) → rg U n = rg V n := by
  intro n
  induction n with
  | zero => intro _; rfl
  | succ n ih =>
    intro h
    unfold rg
    rw [ih (fun p hp => h p (by omega)), h n (by omega)]
theorem rg_sum (hN : N ≤ 7) {lets : Nat → Int32} {L : Nat → Nat} (hl : ∀ j, j < N → lets j = nI (L j)) (K : Int32 → Option (Int32 × (Nat → Int32))) : ∀ (d p n : Nat), p + d = N → d < n → Ord_ringed_L64 (nI N) lets K n (nI (rg L p)) (nI p) = K (nI (rg L N)) := by
  intro d
  induction d with
  | zero =>
    intro p n hp hn
    obtain ⟨n, rfl⟩ : ∃ k, n = k + 1 := ⟨n - 1, by omega⟩
    obtain rfl : p = N := by omega
    rw [Ord_ringed_L64, if_pos (nI_le (by omega) (by omega))]
  | succ d ih =>
    intro p n hp hn
    obtain ⟨n, rfl⟩ : ∃ k, n = k + 1 := ⟨n - 1, by omega⟩
    have hpN : p < N := by omega
    have hih := ih (p + 1) n (by omega) (by omega)
    rw [show rg L (p + 1) = rg L p ||| (L p &&& 2 ^ p) from rfl] at hih
    rw [Ord_ringed_L64, if_neg (nI_ge hpN (by omega)), rdA_nI (by omega) (by omega), hl p hpN, one_sh p (by omega), nx_and, nx_or]
    simp only [nmI_e, nI_a1]
    exact hih
theorem E_ringed (hN : N ≤ 7) {lets : Nat → Int32} (hl : ∀ j, j < N → lets j = nI (A j)) (hAl : ∀ j, j < N → A j < 2 ^ N) : ∃ lets', Ord_ringed (nI N) lets = some (nI (rg (fun a => tq A a 49) N), lets') := by
  obtain ⟨l1, L, e1, e2, e3⟩ := rg_out (A := A) hN (fun t => Ord_ringed_L64 (nI N) t (fun x => some (x, t)) FU 0 0) N 0 FU lets A (by omega) (by unfold FU; omega) hl ⟨fun a _ => sB_refl _, fun a _ X _ h => h, fun a _ k hk => by omega⟩
  refine ⟨l1, ?_⟩
  have e4 := rg_sum hN e2 (fun x => some (x, l1)) N 0 FU (by omega) (by unfold FU; omega)
  rw [rg_eq (V := fun a => tq A a 49) N (fun p hp => RIn_tq hN hAl e3 hp)] at e4
  rw [show nI 0 = (0 : Int32) from rfl] at e1
  rw [show rg L 0 = 0 from rfl, show nI 0 = (0 : Int32) from rfl] at e4
  unfold Ord_ringed
  exact Eq.trans e1 e4
theorem md7 : ∀ k, k < 49 → nI k - nI k / 7 * 7 = nI (k % 7) := by decide +kernel
theorem rm_in (hR : RT N people law counters kind father comes wants cost coins debts st 0) (hA : ∀ j, A j = aS (mustV law kind father debts) j N) {p : Nat} (hp : p < N) (K : Int32 → Option Int32) : ∀ (d k n : Nat), k + d = 49 → d < n → Mod_rings_L21 st K n (nI (tq A p k)) (nI k) = K (nI (tq A p 49)) := by
  have hN := hR.N7
  have hAl : ∀ j, j < N → A j < 2 ^ N := fun j _ => by rw [hA]; exact aS_lt _ _ _
  have e0 : ∀ X : Nat, nI X ||| 0 = nI X := fun X => by rw [nL0, nx_or, Nat.or_zero]
  intro d
  induction d with
  | zero =>
    intro k n hk hn
    obtain ⟨n, rfl⟩ : ∃ k, n = k + 1 := ⟨n - 1, by omega⟩
    obtain rfl : k = 49 := by omega
    rw [Mod_rings_L21, if_pos (by decide)]
  | succ d ih =>
    intro k n hk hn
    obtain ⟨n, rfl⟩ : ∃ k, n = k + 1 := ⟨n - 1, by omega⟩
    have hih := ih (k + 1) n (by omega) (by omega)
    have hlt := tq_lt hAl hp k
    rw [tq_s] at hih
    rw [Mod_rings_L21, if_neg (show ¬ (49 : Int32) ≤ nI k from nI_ge (b := 49) (by omega) (by omega))]
    simp only [jn, nmI_e, nI_a1, e0]
    rw [md7 k (by omega)]
    generalize tq A p k = T at hih hlt ⊢
    generalize hkm : k % 7 = m at hih ⊢
    by_cases hb : T.testBit m = true
    · have hm := tb_N hlt hb
      rw [if_pos ((b_tst1 (by omega)).mpr (by rw [bt_nI (by omega)]; exact hb)), E_letsM hR hm]
      simp only [bindS]
      rw [nx_or, ← hA]
      rw [if_pos hb] at hih
      exact hih
    · rw [if_neg (fun hh => hb (by rw [b_tst1 (by omega), bt_nI (by omega)] at hh; exact hh))]
      rw [if_neg hb] at hih
      exact hih
theorem rm_out (hR : RT N people law counters kind father comes wants cost coins debts st 0) (hA : ∀ j, A j = aS (mustV law kind father debts) j N) : ∀ (d p n : Nat), p + d = N → d < n → Mod_rings_L4 st (fun x => some x) n (nI (rg (fun a => tq A a 49) p)) (nI p) = some (nI (rg (fun a => tq A a 49) N)) := by
  have hN := hR.N7
  have hm : st 93 = nI N := hR.many
  intro d
  induction d with
  | zero =>
    intro p n hp hn
    obtain ⟨n, rfl⟩ : ∃ k, n = k + 1 := ⟨n - 1, by omega⟩
    obtain rfl : p = N := by omega
    rw [Mod_rings_L4, E_manyM hm]
    simp only [bindS]
    rw [if_pos (nI_le (by omega) (by omega))]
  | succ d ih =>
    intro p n hp hn
    obtain ⟨n, rfl⟩ : ∃ k, n = k + 1 := ⟨n - 1, by omega⟩
    have hpN : p < N := by omega
    have hih := ih (p + 1) n (by omega) (by omega)
    rw [show rg (fun a => tq A a 49) (p + 1) = rg (fun a => tq A a 49) p ||| (tq A p 49 &&& 2 ^ p) from rfl] at hih
    have e := rm_in hR hA hpN (fun x3 => nmI (nI (rg (fun a => tq A a 49) p) ||| (x3 &&& ((1 : Int32) <<< (nI p &&& 31)))) (fun x1 => nmI (nI p + 1) (fun x2 => Mod_rings_L4 st (fun x => some x) n x1 x2))) 49 0 FU (by omega) (by unfold FU; omega)
    rw [show nI (tq A p 0) = nI (aS (mustV law kind father debts) p N) by rw [show tq A p 0 = A p from rfl, hA], show nI 0 = (0 : Int32) from rfl] at e
    rw [Mod_rings_L4, E_manyM hm]
    simp only [bindS]
    rw [if_neg (nI_ge hpN (by omega)), E_letsM hR hpN]
    simp only [bindS]
    refine Eq.trans e ?_
    simp only [nmI_e]
    rw [one_sh p (by omega), nx_and, nx_or, nI_a1]
    exact hih
theorem P_rings (hR : RT N people law counters kind father comes wants cost coins debts st 0) (ol : Nat → Int32) : ∃ o1 o2, Let_rings people law kind father debts ol = some o1 ∧ Mod_rings st = some o2 ∧ o1.1 = o2 := by
  have hN := hR.N7
  have hpp := hR.ppl
  subst hpp
  obtain ⟨lets', l1, l2⟩ := E_ask (law := law) (debts := debts) hN hR.fok ol
  obtain ⟨l3, e3⟩ := E_ringed (A := fun j => aS (mustV law kind father debts) j N) hN l2 (fun j _ => aS_lt _ _ _)
  have e4 := rm_out (A := fun j => aS (mustV law kind father debts) j N) hR (fun _ => rfl) N 0 FU (by omega) (by unfold FU; omega)
  rw [show rg (fun a => tq (fun j => aS (mustV law kind father debts) j N) a 49) 0 = 0 from rfl, show nI 0 = (0 : Int32) from rfl] at e4
  unfold Let_rings
  rw [l1]
  simp only [bindS]
  rw [e3]
  simp only [bindS]
  exact ⟨_, _, rfl, e4, rfl⟩
end RINGS
