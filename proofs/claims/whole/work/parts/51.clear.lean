/-! clear: whom to pay off -/
theorem sub_le : ∀ s, s < 128 → ∀ X, X < 128 → (nI s &&& (nI X ^^^ (-1)) = 0) → s ≤ X := by decide +kernel
theorem one_sh : ∀ b, b < 8 → (1 : Int32) <<< (nI b &&& 31) = nI (2 ^ b) := by decide +kernel
theorem nx_or (a b : Nat) : nI a ||| nI b = nI (a ||| b) := by
  apply Int32.toBitVec_inj.mp
  rw [Int32.toBitVec_or]
  show BitVec.ofNat 32 a ||| BitVec.ofNat 32 b = BitVec.ofNat 32 (a ||| b)
  apply BitVec.eq_of_toNat_eq
  simp [Nat.or_mod_two_pow]
section CLR
variable {N : Nat} {law counters : Int32} {kind father comes wants cost coins debts st : Nat → Int32}
/-- whom p owes, as a set: both ways -/
theorem owed_sim {people : Int32} (hR : RT N (nI N) law counters kind father comes wants cost coins debts st 0) {p : Nat} (hp : p < N)
    (K1 : Int32 → Option (Int32 × Int32 × Int32 × Int32 × Int32 × Int32 × Int32 × (Nat → Int32) × (Nat → Int32) × (Nat → Int32) × (Nat → Int32) × (Nat → Int32) × (Nat → Int32) × (Nat → Int32) × Int32 × (Nat → Int32) × (Nat → Int32) × (Nat → Int32)))
    (K2 : Int32 → Option (Int32 × Int32 × Int32 × (Nat → Int32) × (Nat → Int32) × (Nat → Int32) × (Nat → Int32))) :
    ∀ (d b n1 n2 X : Nat), b + d = N → d < n1 → d < n2 → X < 2 ^ b → ∃ X', X' < 2 ^ N ∧ Adv_seekPayOff_L11 (nI N) debts (nI p) K1 n1 (nI X) (nI b) = K1 (nI X') ∧ Mod_clear_L38 st (nI p) K2 n2 (nI X) (nI b) = K2 (nI X') := by
  have hN := hR.N7
  have hm : st 93 = nI N := hR.many
  intro d
  induction d with
  | zero =>
    intro b n1 n2 X hb h1 h2 hX
    obtain ⟨n1, rfl⟩ : ∃ k, n1 = k + 1 := ⟨n1 - 1, by omega⟩
    obtain ⟨n2, rfl⟩ : ∃ k, n2 = k + 1 := ⟨n2 - 1, by omega⟩
    obtain rfl : b = N := by omega
    refine ⟨X, hX, ?_, ?_⟩
    · rw [Adv_seekPayOff_L11, if_pos (nI_le (by omega) (by omega))]
    · rw [Mod_clear_L38, E_manyM hm]
      simp only [bindS]
      rw [if_pos (nI_le (by omega) (by omega))]
  | succ d ih =>
    intro b n1 n2 X hb h1 h2 hX
    obtain ⟨n1, rfl⟩ : ∃ k, n1 = k + 1 := ⟨n1 - 1, by omega⟩
    obtain ⟨n2, rfl⟩ : ∃ k, n2 = k + 1 := ⟨n2 - 1, by omega⟩
    have hbN : b < N := by omega
    have hp2 : 2 ^ (b + 1) = 2 * 2 ^ b := by rw [Nat.pow_succ]; omega
    rw [Adv_seekPayOff_L11, if_neg (nI_ge hbN (by omega)), E_owed (by omega) (by omega)]
    rw [Mod_clear_L38, E_manyM hm]
    unfold Mod_debtAt
    simp only [bindS, jn, nmI, nI_a1, ix_debt]
    rw [if_neg (nI_ge hbN (by omega)), rdA_nI (f := st) (by omega) (by omega), rd_debt hR (by omega) (by omega)]
    have hor : ∀ y, y = 0 ∨ y = 2 ^ b → X ||| y < 2 ^ (b + 1) := fun y hy => Nat.or_lt_two_pow (by omega) (by rcases hy with rfl | rfl <;> omega)
    have e0 : nI X ||| 0 = nI X := by rw [nL0, nx_or, Nat.or_zero]
    by_cases hz : debts (7 * p + b) ≤ 0
    · rw [if_pos hz, e0, if_pos hz]
      by_cases hbp : b = p
      · rw [if_pos (by rw [hbp])]
        exact ih (b + 1) n1 n2 X (by omega) (by omega) (by omega) (by omega)
      · rw [if_neg (fun hh => hbp ((nI_eq (by omega) (by omega)).mp hh))]
        exact ih (b + 1) n1 n2 X (by omega) (by omega) (by omega) (by omega)
    · have hbp : ¬ b = p := fun e => hz (by rw [e, hR.dia p (by omega)]; decide)
      rw [if_neg hz, if_neg (fun hh => hbp ((nI_eq (by omega) (by omega)).mp hh)), if_neg hz, one_sh b (by omega), nx_or]
      exact ih (b + 1) n1 n2 (X ||| 2 ^ b) (by omega) (by omega) (by omega) (hor _ (Or.inr rfl))
/-- p pays those of a set off, in the trial -/
theorem pays_sim {p : Nat} (hp : p < N) (s : Int32)
    (K1 : Int32 → (Nat → Int32) → (Nat → Int32) → Option (Int32 × Int32 × Int32 × Int32 × Int32 × Int32 × Int32 × (Nat → Int32) × (Nat → Int32) × (Nat → Int32) × (Nat → Int32) × (Nat → Int32) × (Nat → Int32) × (Nat → Int32) × Int32 × (Nat → Int32) × (Nat → Int32) × (Nat → Int32)))
    (K2 : Int32 → (Nat → Int32) → Option (Int32 × Int32 × Int32 × (Nat → Int32) × (Nat → Int32) × (Nat → Int32) × (Nat → Int32))) :
    ∀ (d b n1 n2 : Nat) (x : Int32) (cs ds st : Nat → Int32), b + d = N → d < n1 → d < n2 → RT N (nI N) law counters kind father comes wants cost cs ds st 282 → st 93 = nI N →
    ∃ x' cs' ds' st', Adv_tryPayOff_L11 (nI N) (nI p) s K1 n1 x (nI b) cs ds = K1 x' cs' ds' ∧ Mod_clear_L131 (nI p) s K2 n2 x (nI b) st = K2 x' st' ∧ RT N (nI N) law counters kind father comes wants cost cs' ds' st' 282 ∧ (∀ k, (k < 282 ∨ 376 ≤ k) → st' k = st k) := by
  intro d
  induction d with
  | zero =>
    intro b n1 n2 x cs ds st hb h1 h2 hR hm
    obtain ⟨n1, rfl⟩ : ∃ k, n1 = k + 1 := ⟨n1 - 1, by omega⟩
    obtain ⟨n2, rfl⟩ : ∃ k, n2 = k + 1 := ⟨n2 - 1, by omega⟩
    have hN := hR.N7
    refine ⟨x, cs, ds, st, ?_, ?_, hR, fun _ _ => rfl⟩
    · rw [Adv_tryPayOff_L11, if_pos (nI_le (by omega) (by omega))]
    · rw [Mod_clear_L131, E_manyM hm]
      simp only [bindS]
      rw [if_pos (nI_le (by omega) (by omega))]
  | succ d ih =>
    intro b n1 n2 x cs ds st hb h1 h2 hR hm
    obtain ⟨n1, rfl⟩ : ∃ k, n1 = k + 1 := ⟨n1 - 1, by omega⟩
    obtain ⟨n2, rfl⟩ : ∃ k, n2 = k + 1 := ⟨n2 - 1, by omega⟩
    have hN := hR.N7
    have hbN : b < N := by omega
    rw [Adv_tryPayOff_L11, if_neg (nI_ge hbN (by omega)), E_payOff (by omega) (by omega)]
    rw [Mod_clear_L131, E_manyM hm, nL282, E_paysAll (by omega) (by omega) (by omega)]
    simp only [bindS, jn, nmI, nI_a1]
    rw [if_neg (nI_ge hbN (by omega))]
    have ed : st (282 + (42 + 7 * p + b)) = ds (7 * p + b) := by rw [← hR.deb (7 * p + b) (by omega)]; congr 1; omega
    by_cases hz : bt s b = true
    · rw [if_neg (fun hh => by rw [(b_tst0 (show b < 32 by omega)).mp hh] at hz; cases hz), if_pos ((b_tst1 (show b < 32 by omega)).mpr hz), ed]
      obtain ⟨x', cs', ds', st', r1, r2, r3, r4⟩ := ih (b + 1) n1 n2 (x + ds (7 * p + b)) _ _ _ (by omega) (by omega) (by omega) (hR.pay hp hbN) (by rw [payM_out (by omega) (by omega) (by omega)]; exact hm)
      exact ⟨x', cs', ds', st', r1, r2, r3, fun k hk => by rw [r4 k hk, payM_out (by omega) (by omega) (by omega)]⟩
    · have hz0 : bt s b = false := by cases hh : bt s b <;> simp_all
      rw [if_pos ((b_tst0 (show b < 32 by omega)).mpr hz0), if_neg (fun hh => hz ((b_tst1 (show b < 32 by omega)).mp hh)), i32_add0]
      exact ih (b + 1) n1 n2 x cs ds st (by omega) (by omega) (by omega) hR hm
/-- what is found so far, on both sides -/
def RCl (s : Nat) (found co whom which least : Int32) : Prop := (found = 0 ∧ which = -4) ∨ (found = 1 ∧ co = least ∧ whom = which ∧ ∃ s', s' < s ∧ which = nI s')
theorem clear_1 (hR : RT N (nI N) law counters kind father comes wants cost coins debts st 0) {p t X s : Nat} (hp : p < N) (hs : s < 128) {n : Nat} {found co whom which least : Int32} (hC : RCl s found co whom which least) (k1 k2 k3 k4 k5 k6 k7 ones served fr queue busy servedIn : Nat → Int32) (b0 b1 : Int32)
    (K2 : Int32 → Int32 → Int32 → Int32 → (Nat → Int32) → (Nat → Int32) → (Nat → Int32) → (Nat → Int32) → Option (Int32 × Int32 × Int32 × (Nat → Int32) × (Nat → Int32) × (Nat → Int32) × (Nat → Int32))) (hsN : s < 2 ^ N) (hsub : nI s &&& (nI X ^^^ (-1)) = 0) :
    ∃ o which' least' b0' b1' st' queue' busy' servedIn', Adv_tryPayOff (nI p) (nI t) (nI s) found co whom k1 k2 k3 k4 k5 k6 k7 ones served fr (nI N) law counters kind father comes wants cost coins debts = some o ∧
      Mod_clear_L96 (nI p) (nI t) (nI X) K2 (n + 1) which least (nI s) b0 b1 st queue busy servedIn = Mod_clear_L96 (nI p) (nI t) (nI X) K2 n which' least' (nI (s + 1)) b0' b1' st' queue' busy' servedIn' ∧ RCl (s + 1) o.1 o.2.1 o.2.2.1 which' least' ∧ frm st st' := by
  have hN := hR.N7
  have hm : st 93 = nI N := hR.many
  have hp128 : 2 ^ N ≤ 128 := by
    have := Nat.pow_le_pow_right (show 0 < 2 by omega) hN
    omega
  rw [Mod_clear_L96, E_manyM hm]
  simp only [bindS]
  rw [one_sh N (by omega), if_neg (nI_ge hsN (by omega)), if_pos hsub, E_copies0]
  simp only [bindS]
  unfold Adv_tryPayOff
  rw [E_load]
  simp only [bindS]
  have hkeep : RCl (s + 1) found co whom which least := by
    rcases hC with h | ⟨h1, h2, h3, s', h4, h5⟩
    · exact Or.inl h
    · exact Or.inr ⟨h1, h2, h3, s', by omega, h5⟩
  have hRl := (hR.copied 282).load k1 k2 k3 k4 k5 k6 k7
  obtain ⟨x', cs', ds', st1, r1, r2, r3, r4⟩ := pays_sim (N := N) hp (nI s) (fun (x6_10 : Int32) (b1_town_coins_11 : Nat → Int32) (b1_town_debts_12 : Nat → Int32) => rdA coins 7 (nI p) (fun v_13 => if v_13 < x6_10 then (some (found, co, whom, (0 : Int32), nI N, law, counters, va_cpy kind k1 0 0 7, va_cpy father k2 0 0 7, va_cpy comes k3 0 0 7, va_cpy wants k4 0 0 7, va_cpy cost k5 0 0 7, b1_town_coins_11, b1_town_debts_12, (0 : Int32), ones, served, upd (upd fr 0 0) 1 0)) else (jn (fun (_u : Unit) => (Run_go 130 0 (nI N) law counters (va_cpy kind k1 0 0 7) (va_cpy father k2 0 0 7) (va_cpy comes k3 0 0 7) (va_cpy wants k4 0 0 7) b1_town_coins_11 b1_town_debts_12 0 ones served (upd (upd fr 0 0) 1 0)).bind (fun o_15 => rdA o_15.2.2.2.2.2.1 7 (nI p) (fun v_16 => if (nI t) < v_16 then (some (found, co, whom, o_15.1, nI N, law, counters, va_cpy kind k1 0 0 7, va_cpy father k2 0 0 7, va_cpy comes k3 0 0 7, va_cpy wants k4 0 0 7, va_cpy cost k5 0 0 7, o_15.2.1, o_15.2.2.1, o_15.2.2.2.1, o_15.2.2.2.2.1, o_15.2.2.2.2.2.1, o_15.2.2.2.2.2.2)) else (some (1, x6_10, nI s, o_15.1, nI N, law, counters, va_cpy kind k1 0 0 7, va_cpy father k2 0 0 7, va_cpy comes k3 0 0 7, va_cpy wants k4 0 0 7, va_cpy cost k5 0 0 7, o_15.2.1, o_15.2.2.1, o_15.2.2.2.1, o_15.2.2.2.2.1, o_15.2.2.2.2.2.1, o_15.2.2.2.2.2.2))))) (fun j79_14 => if found = 0 then (j79_14 ()) else (if x6_10 < co then (j79_14 ()) else (some (found, co, whom, (0 : Int32), nI N, law, counters, va_cpy kind k1 0 0 7, va_cpy father k2 0 0 7, va_cpy comes k3 0 0 7, va_cpy wants k4 0 0 7, va_cpy cost k5 0 0 7, b1_town_coins_11, b1_town_debts_12, (0 : Int32), ones, served, upd (upd fr 0 0) 1 0))))))) (fun (x8_40 : Int32) (t_state_41 : Nat → Int32) => rdA t_state_41 470 ((6 * nI p) + 4) (fun v_42 => if v_42 < x8_40 then (nmI (nI s + 1) (fun x7_43 => Mod_clear_L96 (nI p) (nI t) (nI X) K2 n which least x7_43 b0 b1 t_state_41 queue busy servedIn)) else (jn (fun (_u : Unit) => (Mod_runsTo 130 t_state_41 queue busy servedIn).bind (fun o_45 => rdA o_45.2.2.2.2.2 7 (nI p) (fun v_46 => jn (fun (y_48 : Int32) => if y_48 = nI s then (nmI (nI s + 1) (fun x7_50 => Mod_clear_L96 (nI p) (nI t) (nI X) K2 n y_48 x8_40 x7_50 o_45.1 o_45.2.1 o_45.2.2.1 o_45.2.2.2.1 o_45.2.2.2.2.1 o_45.2.2.2.2.2)) else (nmI (nI s + 1) (fun x7_49 => Mod_clear_L96 (nI p) (nI t) (nI X) K2 n y_48 least x7_49 o_45.1 o_45.2.1 o_45.2.2.1 o_45.2.2.2.1 o_45.2.2.2.2.1 o_45.2.2.2.2.2))) (fun j230_47 => if nI t < v_46 then (j230_47 which) else (j230_47 (nI s)))))) (fun j206_44 => if which = (-4) then (j206_44 ()) else (if least ≤ x8_40 then (nmI (nI s + 1) (fun x7_51 => Mod_clear_L96 (nI p) (nI t) (nI X) K2 n which least x7_51 b0 b1 t_state_41 queue busy servedIn)) else (j206_44 ())))))) N 0 FU FU 0 (va_cpy coins k6 0 0 7) (va_cpy debts k7 0 0 49) (cpp st 0 282 94) (by omega) (by unfold FU; omega) (by unfold FU; omega) hRl (by rw [cpp_out (by omega)]; exact hm)
  rw [show nI 0 = (0 : Int32) from rfl] at r1 r2
  rw [r1, r2]
  have fr1 : frm st st1 := fun k hk => by rw [r4 k (Or.inl hk), cpp_out (by omega)]
  have e4 := (hR.cel p hp).2.2.2.2
  rw [Nat.zero_add] at e4
  simp only [jn, nmI, nI_a1]
  rw [rdA_nI (f := coins) (by omega) (by omega), show 6 * nI p + 4 = nI (6 * p + 4) by rw [nL6, nL4, pk_mul, nI_add], rdA_nI (f := st1) (by omega) (by omega), fr1 _ (by omega), e4]
  by_cases hlt : coins p < x'
  · rw [if_pos hlt, if_pos hlt]
    exact ⟨_, which, least, b0, b1, st1, queue, busy, servedIn, rfl, rfl, hkeep, fr1⟩
  · rw [if_neg hlt, if_neg hlt]
    obtain ⟨L, paid, coins', debts', ones', served', free', st', queue', busy', servedIn', s1, s2, s3, s4, s5, s6, s7, s8⟩ := run_sim (N := N) (last := 130) (ones := ones) (served := served) (queue := queue) (busy := busy) (servedIn := servedIn) (free := upd (upd fr 0 0) 1 0) (Nat.le_refl _) r3 (by rw [upd_n (by omega), upd_s]) upd_s
    obtain ⟨v, v1, v2, v3, v4⟩ := s8 rfl p hp
    rw [show (130 : Int32) = nI 130 from rfl, s1, s2]
    simp only [bindS]
    rw [rdA_nI (f := served') (by omega) (by omega), rdA_nI (f := servedIn') (by omega) (by omega), v3, v4]
    have fr2 : frm st st' := fun k hk => by rw [s7 k (Or.inl hk), fr1 k hk]
    have hwne : ¬ which = nI s := by
      rcases hC with ⟨-, h⟩ | ⟨-, -, -, s', h4, h5⟩
      · rw [h]; exact fun hh => nI_pos (n := s) (by omega) (by rw [← hh]; decide)
      · rw [h5]; exact fun hh => by have := (nI_eq (by omega) (by omega)).mp hh; omega
    have go : ∃ o which' least' b0' b1' st'' queue'' busy'' servedIn'', (if nI t < nI v then (some (found, co, whom, paid, nI N, law, counters, va_cpy kind k1 0 0 7, va_cpy father k2 0 0 7, va_cpy comes k3 0 0 7, va_cpy wants k4 0 0 7, va_cpy cost k5 0 0 7, coins', debts', nI L, ones', served', free')) else (some ((1 : Int32), x', nI s, paid, nI N, law, counters, va_cpy kind k1 0 0 7, va_cpy father k2 0 0 7, va_cpy comes k3 0 0 7, va_cpy wants k4 0 0 7, va_cpy cost k5 0 0 7, coins', debts', nI L, ones', served', free'))) = some o ∧ (if nI t < nI v then (if which = nI s then Mod_clear_L96 (nI p) (nI t) (nI X) K2 n which x' (nI (s + 1)) (nI L) paid st' queue' busy' servedIn' else Mod_clear_L96 (nI p) (nI t) (nI X) K2 n which least (nI (s + 1)) (nI L) paid st' queue' busy' servedIn') else Mod_clear_L96 (nI p) (nI t) (nI X) K2 n (nI s) x' (nI (s + 1)) (nI L) paid st' queue' busy' servedIn') = Mod_clear_L96 (nI p) (nI t) (nI X) K2 n which' least' (nI (s + 1)) b0' b1' st'' queue'' busy'' servedIn'' ∧ RCl (s + 1) o.1 o.2.1 o.2.2.1 which' least' ∧ frm st st'' := by
      by_cases htv : nI t < nI v
      · rw [if_pos htv, if_pos htv, if_neg hwne]
        exact ⟨_, _, _, _, _, _, _, _, _, rfl, rfl, hkeep, fr2⟩
      · rw [if_neg htv, if_neg htv]
        exact ⟨_, _, _, _, _, _, _, _, _, rfl, rfl, Or.inr ⟨rfl, rfl, rfl, s, by omega, rfl⟩, fr2⟩
    simp only [if_true]
    rcases hC with ⟨rfl, rfl⟩ | ⟨rfl, rfl, rfl, s', h4, rfl⟩
    · rw [if_pos rfl, if_pos rfl]
      exact go
    · rw [if_neg (show ¬ (1 : Int32) = 0 by decide), if_neg (show ¬ nI s' = -4 from fun hh => nI_pos (n := s') (by omega) (by rw [hh]; decide))]
      by_cases hc : x' < co
      · rw [if_pos hc, if_neg (i32_nle.mpr hc)]
        exact go
      · rw [if_neg hc, if_pos (i32_nlt.mp hc)]
        exact ⟨_, _, _, _, _, _, _, _, _, rfl, rfl, hkeep, fr1⟩
end CLR
