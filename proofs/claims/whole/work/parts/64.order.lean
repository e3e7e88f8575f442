section ORDER
variable {N : Nat} {A cs wn : Nat → Nat} {people law counters : Int32} {kind father comes wants cost coins debts st : Nat → Int32}
abbrev CC (N : Nat) (A cs wn : Nat → Nat) (s : Nat) : Nat := (GW N A cs wn s).2
/-- who may be the next one; by cost: and it stays the least -/
def Q3 (N : Nat) (A cs wn : Nat → Nat) (b : Bool) (s p : Nat) : Bool := cfB A p s && (!b || decide (cs p * tkS wn s N + CC N A cs wn (s ||| 2 ^ p) = CC N A cs wn s))
theorem Q3_ok (b : Bool) : Qok N A (Q3 N A cs wn b) := fun s p _ h => by
  unfold Q3 at h
  cases hh : cfB A p s
  · rw [hh] at h; simp at h
  · rfl
theorem ch_1 (Q : Nat → Bool) (d p : Nat) : ch Q (d + 1) p = if Q p = true then p else ch Q d (p + 1) := rfl
theorem oi_in (hR : RT N people law counters kind father comes wants cost coins debts st 0) (hwn : ∀ p, p < N → wants p = nI (wn p)) (hw9 : ∀ p, p < N → wn p ≤ 9) (hcs : ∀ p, p < N → cost p = nI (cs p)) (hc9 : ∀ p, p < N → cs p ≤ 9) {wa ca ah : Nat → Int32} (hA : ∀ j, j < N → ah j = nI (A j)) (hAl : ∀ j, j < N → A j < 128)
    (hG : ∀ t, t < 2 ^ N → wa t = nI (GW N A cs wn t).1 ∧ ca t = nI (GW N A cs wn t).2) (hW : ∀ t, t < 2 ^ N → WW N A cs wn t ≠ 0) (b : Bool) {p2 : Int32} (hp2 : p2 = if b = true then 1 else 0) {s : Nat} (hs : s < 2 ^ N) (K : Int32 → Option Int32) :
    ∀ (d p n : Nat), p + d = N → d < n → ch (Q3 N A cs wn b s) d p < p + d → Mod_inOrder_L17 st wa ca ah p2 (nI s) K n (nI p) = K (nI (ch (Q3 N A cs wn b s) d p)) := by
  have hN := hR.N7
  have h128 := p128 hN
  intro d
  induction d with
  | zero => intro p n _ _ h; exact absurd h (by show ¬ p < p + 0; omega)
  | succ d ih =>
    intro p n hp hn hlt
    obtain ⟨n, rfl⟩ : ∃ k, n = k + 1 := ⟨n - 1, by omega⟩
    have hpN : p < N := by omega
    have skip : ¬ Q3 N A cs wn b s p = true → Mod_inOrder_L17 st wa ca ah p2 (nI s) K n (nI (p + 1)) = K (nI (ch (Q3 N A cs wn b s) (d + 1) p)) := fun hq => by
      rw [ch_1, if_neg hq] at hlt
      rw [ch_1, if_neg hq]
      exact ih (p + 1) n (by omega) (by omega) (by omega)
    rw [Mod_inOrder_L17, E_canM (A := A) (by omega) (hAl p hpN) (by omega) (hA p hpN)]
    simp only [bindS]
    by_cases hcf : cfB A p s = true
    · have hor := or_lt hs hpN
      have hw := hW _ hor
      have hwb := WW_b (A := A) (cs := cs) (wn := wn) hN hor
      simp only [hcf, if_true, i10, if_false]
      rw [one_sh p (by omega), nx_or, rdA_nI (f := wa) (j := s ||| 2 ^ p) (by omega) (by omega), (hG _ hor).1, if_neg (show ¬ nI (WW N A cs wn (s ||| 2 ^ p)) = 0 from fun hh => hw ((nI_eq (b := 0) (by omega) (by omega)).mp hh))]
      cases b with
      | false =>
        rw [if_pos (by rw [hp2]; rfl), ch_1, if_pos (by unfold Q3; rw [hcf]; rfl)]
      | true =>
        have e3 := (hR.cel p hpN).2.2.2.1
        rw [Nat.zero_add, hcs p hpN] at e3
        have b1 : CC N A cs wn s ≤ 1000000 := GW_le hN hs
        have b2 : CC N A cs wn (s ||| 2 ^ p) ≤ 1000000 := GW_le hN hor
        have b3 := tkS_le (wn := wn) s N hw9
        have b4 : cs p * tkS wn s N ≤ 9 * (9 * N) := Nat.mul_le_mul (hc9 p hpN) b3
        rw [if_neg (by rw [hp2]; decide), ix_cost, rdA_nI (f := st) (by omega) (by omega), e3, E_takM hR hwn]
        simp only [bindS]
        rw [rdA_nI (f := ca) (j := s ||| 2 ^ p) (by omega) (by omega), rdA_nI (f := ca) (j := s) (by omega) (by omega), (hG _ hor).2, (hG _ hs).2, pk_mul, nI_add]
        by_cases he : cs p * tkS wn s N + CC N A cs wn (s ||| 2 ^ p) = CC N A cs wn s
        · rw [if_pos (by rw [he]), ch_1, if_pos (by unfold Q3; rw [hcf]; simp [he])]
        · rw [if_neg (fun hh => he ((nI_eq (by omega) (by omega)).mp hh))]
          simp only [nmI_e, nI_a1]
          exact skip (by unfold Q3; simp [he])
    · simp only [hcf, if_false, i00, if_true, nmI_e, nI_a1, Bool.false_eq_true]
      exact skip (by unfold Q3; simp [hcf])
theorem oi_out (hR : RT N people law counters kind father comes wants cost coins debts st 0) (hwn : ∀ p, p < N → wants p = nI (wn p)) (hw9 : ∀ p, p < N → wn p ≤ 9) (hcs : ∀ p, p < N → cost p = nI (cs p)) (hc9 : ∀ p, p < N → cs p ≤ 9) {wa ca ah : Nat → Int32} (hA : ∀ j, j < N → ah j = nI (A j)) (hAl : ∀ j, j < N → A j < 128)
    (hG : ∀ t, t < 2 ^ N → wa t = nI (GW N A cs wn t).1 ∧ ca t = nI (GW N A cs wn t).2) (hW : ∀ t, t < 2 ^ N → WW N A cs wn t ≠ 0) (b : Bool) {p2 : Int32} (hp2 : p2 = if b = true then 1 else 0) {Q : Nat → Nat → Bool} (hQ : Q = Q3 N A cs wn b) (hall : ∀ j, j < N → ch (Q (sq Q N j)) N 0 < N) {i : Nat} (hi : i < N) :
    ∀ (d k n : Nat) (x : Int32), k + d = i → d + 1 < n → Mod_inOrder_L8 st wa ca ah (nI i) p2 (fun x => some x) n (nI (sq Q N k)) x (nI k) = some (nI (ch (Q (sq Q N i)) N 0)) := by
  have hN := hR.N7
  have step : ∀ (k n : Nat) (x : Int32), k ≤ i → Mod_inOrder_L8 st wa ca ah (nI i) p2 (fun x => some x) (n + 1) (nI (sq Q N k)) x (nI k) = Mod_inOrder_L8 st wa ca ah (nI i) p2 (fun x => some x) n (nI (sq Q N (k + 1))) (nI (ch (Q (sq Q N k)) N 0)) (nI (k + 1)) := fun k n x hk => by
    obtain ⟨hs, -⟩ := sq_pop (A := A) (Q := Q) hN (by rw [hQ]; exact Q3_ok b) k (by omega) (fun j hj => hall j (by omega))
    have hc := hall k (by omega)
    have e := oi_in (A := A) hR hwn hw9 hcs hc9 hA hAl hG hW b hp2 hs (fun x4 => nmI (nI (sq Q N k) ||| ((1 : Int32) <<< (x4 &&& 31))) (fun x3 => nmI (nI k + 1) (fun x5 => Mod_inOrder_L8 st wa ca ah (nI i) p2 (fun x => some x) n x3 x4 x5))) N 0 FU (by omega) (by unfold FU; omega) (by rw [← hQ]; omega)
    rw [← hQ] at e
    rw [Mod_inOrder_L8, if_neg (nI_nlt hk (by omega))]
    refine Eq.trans e ?_
    simp only [nmI_e]
    rw [one_sh _ (by omega), nx_or, nI_a1]
    rfl
  intro d
  induction d with
  | zero =>
    intro k n x hk hn
    obtain ⟨n, rfl⟩ : ∃ m, n = m + 1 + 1 := ⟨n - 2, by omega⟩
    obtain rfl : k = i := by omega
    rw [step k (n + 1) x (by omega), Mod_inOrder_L8, if_pos (nI_lt (by omega) (by omega))]
  | succ d ih =>
    intro k n x hk hn
    obtain ⟨n, rfl⟩ : ∃ m, n = m + 1 := ⟨n - 1, by omega⟩
    rw [step k n x (by omega)]
    exact ih (k + 1) n _ (by omega) (by omega)
theorem E_inOrder (hR : RT N people law counters kind father comes wants cost coins debts st 0) (hwn : ∀ p, p < N → wants p = nI (wn p)) (hw9 : ∀ p, p < N → wn p ≤ 9) (hcs : ∀ p, p < N → cost p = nI (cs p)) (hc9 : ∀ p, p < N → cs p ≤ 9) {wa ca ah : Nat → Int32} (hA : ∀ j, j < N → ah j = nI (A j)) (hAl : ∀ j, j < N → A j < 128)
    (hG : ∀ t, t < 2 ^ N → wa t = nI (GW N A cs wn t).1 ∧ ca t = nI (GW N A cs wn t).2) (hW : ∀ t, t < 2 ^ N → WW N A cs wn t ≠ 0) (b : Bool) {p2 : Int32} (hp2 : p2 = if b = true then 1 else 0) (hall : ∀ j, j < N → ch (Q3 N A cs wn b (sq (Q3 N A cs wn b) N j)) N 0 < N) {i : Nat} (hi : i < N) :
    Mod_inOrder (nI i) p2 st wa ca ah = some (nI (ch (Q3 N A cs wn b (sq (Q3 N A cs wn b) N i)) N 0)) := by
  have hN := hR.N7
  have h := oi_out (A := A) hR hwn hw9 hcs hc9 hA hAl hG hW b hp2 rfl hall hi i 0 FU 0 (by omega) (by unfold FU; omega)
  rw [show sq (Q3 N A cs wn b) N 0 = 0 from rfl, show nI 0 = (0 : Int32) from rfl] at h
  unfold Mod_inOrder
  exact h
/-- if there is an ORDER, each choice finds one -/
theorem sq_some (hN : N ≤ 7) {Q : Nat → Nat → Bool} (hQ : Qok N A Q) (hex : ∀ s, s < 2 ^ N → s ≠ 2 ^ N - 1 → ∃ p, p < N ∧ Q s p = true) : ∀ j, j < N → ch (Q (sq Q N j)) N 0 < N := by
  have h128 := p128 hN
  intro j
  induction j using Nat.strongRecOn with
  | ind j ih =>
    intro hj
    obtain ⟨hs, hp⟩ := sq_pop hN hQ j (by omega) (fun i hi => ih i hi (by omega))
    obtain ⟨p, hp1, hp2⟩ := hex _ hs (fun e => by
      have := pop_f N (by omega)
      rw [e, this] at hp
      omega)
    have := ch_ex _ hp2 N 0 (by omega) (by omega)
    omega
end ORDER
