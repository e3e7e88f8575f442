section DOOR2
variable {N : Nat} {law counters : Int32} {kind father comes wants cost coins debts : Nat → Int32}
theorem door_G {p b v : Nat} (hp : p < N) (hb : b < N) (hbp : b ≠ p) (k1 k2 k3 k4 k5 k6 k7 st : Nat → Int32) (hR : RT N (nI N) law counters kind father comes wants cost coins debts st 0) :
    RT N (nI N) law counters (va_cpy kind k1 0 0 7) (va_cpy father k2 0 0 7) (va_cpy comes k3 0 0 7) (va_cpy wants k4 0 0 7) (va_cpy cost k5 0 0 7) ((fun k6 => giveC (va_cpy coins k6 0 0 7) p b (nI v)) k6) ((fun k7 => upd (va_cpy debts k7 0 0 49) (7 * b + p) (debts (7 * b + p) + nI v)) k7) ((fun st => upd (giveM (cpp st 0 282 94) 282 p b (nI v)) (282 + (42 + 7 * b + p)) (debts (7 * b + p) + nI v)) st) 282 ∧ (∀ k, k < 282 → (fun st => upd (giveM (cpp st 0 282 94) 282 p b (nI v)) (282 + (42 + 7 * b + p)) (debts (7 * b + p) + nI v)) st k = st k) := by
  have hN := hR.N7
  constructor
  · have h1 := (((hR.copied 282).load k1 k2 k3 k4 k5 k6 k7).give hp hb (nI v)).setD (k := 7 * b + p) (by omega) (debts (7 * b + p) + nI v) (offd (by omega) (by omega) hbp)
    show RT N (nI N) law counters (va_cpy kind k1 0 0 7) (va_cpy father k2 0 0 7) (va_cpy comes k3 0 0 7) (va_cpy wants k4 0 0 7) (va_cpy cost k5 0 0 7) (giveC (va_cpy coins k6 0 0 7) p b (nI v)) (upd (va_cpy debts k7 0 0 49) (7 * b + p) (debts (7 * b + p) + nI v)) (upd (giveM (cpp st 0 282 94) 282 p b (nI v)) (282 + (42 + 7 * b + p)) (debts (7 * b + p) + nI v)) 282
    rw [show 282 + (42 + 7 * b + p) = 282 + 42 + (7 * b + p) by omega]
    exact h1
  · intro k hk
    show upd (giveM (cpp st 0 282 94) 282 p b (nI v)) (282 + (42 + 7 * b + p)) (debts (7 * b + p) + nI v) k = st k
    rw [upd_n (by omega), giveM_out (by omega) (by omega), cpp_out (by omega)]
/-- the wait of every trial -/
def WdA (N : Nat) (law counters : Int32) (kind father comes wants coins debts : Nat → Int32) (p : Nat) (W : Nat → Nat → Nat) : Prop := ∀ v b, b < N → b ≠ p → ∀ (k1 k2 k3 k4 k5 k6 k7 ones served fr : Nat → Int32), fr 0 = 0 → fr 1 = 0 → ∃ (paid L : Int32) (cs' ds' ones' served' fr' : Nat → Int32),
        Run_go 130 0 (nI N) law counters (va_cpy kind k1 0 0 7) (va_cpy father k2 0 0 7) (va_cpy comes k3 0 0 7) (va_cpy wants k4 0 0 7) ((fun k6 => giveC (va_cpy coins k6 0 0 7) p b (nI v)) k6) ((fun k7 => upd (va_cpy debts k7 0 0 49) (7 * b + p) (debts (7 * b + p) + nI v)) k7) 0 ones served fr = some (paid, cs', ds', L, ones', served', fr') ∧ served' p - va_cpy comes k3 0 0 7 p = nI (W v b)
def WdM (N : Nat) (law counters : Int32) (kind father comes wants cost coins debts : Nat → Int32) (p : Nat) (W : Nat → Nat → Nat) : Prop := ∀ v b, b < N → b ≠ p → ∀ (st queue busy servedIn : Nat → Int32), RT N (nI N) law counters kind father comes wants cost coins debts st 0 → ∃ (L paid : Int32) (st' queue' busy' servedIn' : Nat → Int32),
        Mod_runsTo 130 ((fun st => upd (giveM (cpp st 0 282 94) 282 p b (nI v)) (282 + (42 + 7 * b + p)) (debts (7 * b + p) + nI v)) st) queue busy servedIn = some (L, paid, st', queue', busy', servedIn') ∧ servedIn' p - st' (282 + 6 * p + 1) = nI (W v b) ∧ frm st st'
theorem Wd_ex {p : Nat} (hp : p < N) {st : Nat → Int32} (hR : RT N (nI N) law counters kind father comes wants cost coins debts st 0) : ∃ W : Nat → Nat → Nat, (∀ v b, W v b ≤ 130) ∧ WdA N law counters kind father comes wants coins debts p W ∧ WdM N law counters kind father comes wants cost coins debts p W := by
  have h : ∀ x : Nat × Nat, ∃ w, w ≤ 130 ∧ (x.2 < N → x.2 ≠ p → (∀ (k1 k2 k3 k4 k5 k6 k7 ones served fr : Nat → Int32), fr 0 = 0 → fr 1 = 0 → ∃ (paid L : Int32) (cs' ds' ones' served' fr' : Nat → Int32),
        Run_go 130 0 (nI N) law counters (va_cpy kind k1 0 0 7) (va_cpy father k2 0 0 7) (va_cpy comes k3 0 0 7) (va_cpy wants k4 0 0 7) (giveC (va_cpy coins k6 0 0 7) p x.2 (nI x.1)) (upd (va_cpy debts k7 0 0 49) (7 * x.2 + p) (debts (7 * x.2 + p) + nI x.1)) 0 ones served fr = some (paid, cs', ds', L, ones', served', fr') ∧ served' p - va_cpy comes k3 0 0 7 p = nI w) ∧
      (∀ (st queue busy servedIn : Nat → Int32), RT N (nI N) law counters kind father comes wants cost coins debts st 0 → ∃ (L paid : Int32) (st' queue' busy' servedIn' : Nat → Int32),
        Mod_runsTo 130 (upd (giveM (cpp st 0 282 94) 282 p x.2 (nI x.1)) (282 + (42 + 7 * x.2 + p)) (debts (7 * x.2 + p) + nI x.1)) queue busy servedIn = some (L, paid, st', queue', busy', servedIn') ∧ servedIn' p - st' (282 + 6 * p + 1) = nI w ∧ frm st st')) := by
    intro ⟨v, b⟩
    by_cases hb : b < N ∧ b ≠ p
    · obtain ⟨w, hw, hA, hM⟩ := trialG (fun k6 => giveC (va_cpy coins k6 0 0 7) p b (nI v)) (fun k7 => upd (va_cpy debts k7 0 0 49) (7 * b + p) (debts (7 * b + p) + nI v)) (fun st => upd (giveM (cpp st 0 282 94) 282 p b (nI v)) (282 + (42 + 7 * b + p)) (debts (7 * b + p) + nI v)) hp (door_G hp hb.1 hb.2) hR
      exact ⟨w, hw, fun _ _ => ⟨hA, hM⟩⟩
    · exact ⟨0, by omega, fun h1 h2 => absurd ⟨h1, h2⟩ hb⟩
  obtain ⟨W, hW⟩ := Classical.axiomOfChoice h
  exact ⟨fun v b => W (v, b), fun v b => (hW (v, b)).1, fun v b h1 h2 => ((hW (v, b)).2 h1 h2).1, fun v b h1 h2 => ((hW (v, b)).2 h1 h2).2⟩
variable {W : Nat → Nat → Nat} {w0 co p : Nat} {db : Nat → Nat}
theorem Vd_b (hN : N ≤ 7) {v b : Nat} (h : Vd N p co db v b) : v ≤ 50 ∧ b < 7 := ⟨h.2.1, by have := h.2.2.2.1; omega⟩
theorem doorA_in (hp : p < N) (hN : N ≤ 7) (hW : ∀ v b, W v b ≤ 130) (hw0 : w0 ≤ 130) (hA : WdA N law counters kind father comes wants coins debts p W) (hdb : ∀ b, b < N → debts (7 * b + p) = nI (db b) ∧ db b ≤ 999) (KL : K19) {v : Nat} (hv1 : 1 ≤ v) (hv : v ≤ 50) (hvc : v ≤ co) : ∀ (d b n : Nat) (f wt c wh r0 r1 r2 r3 r4 : Int32) (k1 k2 k3 k4 k5 k6 k7 ones served fr : Nat → Int32), b + d = N → d < n → RBd W w0 (fun v' b' => Vd N p co db v' b' ∧ (v' < v ∨ (v' = v ∧ b' < b))) f wt c wh →
    ∃ (f' wt' c' wh' r0' r1' r2' r3' r4' : Int32) (k1' k2' k3' k4' k5' k6' k7' ones' served' fr' : Nat → Int32), Adv_seekLoan_L40 (nI N) law counters kind father comes wants cost coins debts (nI p) (nI v) KL n (nI b) f wt c wh r0 r1 r2 r3 k1 k2 k3 k4 k5 k6 k7 r4 ones served fr = KL f' wt' c' wh' r0' r1' r2' r3' k1' k2' k3' k4' k5' k6' k7' r4' ones' served' fr' ∧ RBd W w0 (fun v' b' => Vd N p co db v' b' ∧ v' < v + 1) f' wt' c' wh' := by
  intro d
  induction d with
  | zero =>
    intro b n f wt c wh r0 r1 r2 r3 r4 k1 k2 k3 k4 k5 k6 k7 ones served fr hb hn hB
    obtain ⟨n, rfl⟩ : ∃ k, n = k + 1 := ⟨n - 1, by omega⟩
    obtain rfl : b = N := by omega
    refine ⟨f, wt, c, wh, r0, r1, r2, r3, r4, k1, k2, k3, k4, k5, k6, k7, ones, served, fr, ?_, hB.ext (fun v' b' => ⟨fun h => ⟨h.1, by omega⟩, fun h => ⟨h.1, by have := h.1.2.2.2.1; omega⟩⟩)⟩
    rw [Adv_seekLoan_L40, if_pos (nI_le (by omega) (by omega))]
  | succ d ih =>
    intro b n f wt c wh r0 r1 r2 r3 r4 k1 k2 k3 k4 k5 k6 k7 ones served fr hb hn hB
    obtain ⟨n, rfl⟩ : ∃ k, n = k + 1 := ⟨n - 1, by omega⟩
    rw [Adv_seekLoan_L40, if_neg (nI_ge (by omega) (by omega))]
    simp only [nmI, nI_a1]
    have skip : ¬ Vd N p co db v b → RBd W w0 (fun v' b' => Vd N p co db v' b' ∧ (v' < v ∨ (v' = v ∧ b' < b + 1))) f wt c wh := fun hno => hB.ext (fun v' b' => ⟨fun h => ⟨h.1, by omega⟩, fun h => ⟨h.1, by
      rcases h.2 with h2 | ⟨h2, h3⟩
      · exact Or.inl h2
      · by_cases e : b' = b
        · exact absurd (by rw [← h2, ← e]; exact h.1) hno
        · exact Or.inr ⟨h2, by omega⟩⟩⟩)
    by_cases hbp : b = p
    · rw [if_pos (by rw [hbp])]
      exact ih (b + 1) n f wt c wh r0 r1 r2 r3 r4 k1 k2 k3 k4 k5 k6 k7 ones served fr (by omega) (by omega) (skip (fun h => h.2.2.2.2.1 hbp))
    · rw [if_neg (fun hh => hbp ((nI_eq (by omega) (by omega)).mp hh)), E_owed (by omega) (by omega)]
      obtain ⟨e1, e2⟩ := hdb b (by omega)
      simp only [bindS]
      rw [e1, nI_add]
      by_cases h9 : db b + v ≤ 999
      · rw [if_neg (show ¬ (999 : Int32) < nI (db b + v) from fun hh => by have := (nI_ltI (a := 999) (by omega) (by omega)).mp hh; omega), E_load]
        simp only [bindS]
        rw [E_lendC (by omega) (by omega), cpy_in (show 7 * b + p < 49 by omega)]
        simp only [bindS]
        obtain ⟨pd, L, cs', ds', ones', served', fr', g1, g2⟩ := hA v b (by omega) hbp k1 k2 k3 k4 k5 k6 k7 ones served (upd (upd fr 0 0) 1 0) (by rw [upd_n (by omega), upd_s]) upd_s
        rw [E_weigh (by omega) g1 g2]
        simp only [bindS]
        have hV : Vd N p co db v b := ⟨hv1, hv, hvc, by omega, hbp, h9⟩
        refine ih (b + 1) n _ _ _ _ _ _ _ _ _ _ _ _ _ _ _ _ _ _ _ (by omega) (by omega) ((hB.stepA (v := v) (b := b) hW hw0 (fun v' b' h => Vd_b hN h.1) hv (by omega) (fun v' b' h => h.2)).ext ?_)
        intro v' b'
        constructor
        · rintro (⟨h1, h2⟩ | ⟨rfl, rfl⟩)
          · exact ⟨h1, by omega⟩
          · exact ⟨hV, by omega⟩
        · rintro ⟨h1, h2⟩
          by_cases e : v' = v ∧ b' = b
          · exact Or.inr e
          · exact Or.inl ⟨h1, by omega⟩
      · rw [if_pos (show (999 : Int32) < nI (db b + v) from nI_lt (a := 999) (by omega) (by omega))]
        exact ih (b + 1) n f wt c wh r0 r1 r2 r3 r4 k1 k2 k3 k4 k5 k6 k7 ones served fr (by omega) (by omega) (skip (fun h => h9 h.2.2.2.2.2))
theorem doorA_out (hp : p < N) (hN : N ≤ 7) (hW : ∀ v b, W v b ≤ 130) (hw0 : w0 ≤ 130) (hA : WdA N law counters kind father comes wants coins debts p W) (hdb : ∀ b, b < N → debts (7 * b + p) = nI (db b) ∧ db b ≤ 999) (KL : K19) {mx : Nat} (hmx : mx ≤ 50) (hmc : mx ≤ co) (hm2 : 50 ≤ mx ∨ co ≤ mx) : ∀ (d v n : Nat) (f wt c wh r0 r1 r2 r3 r4 : Int32) (k1 k2 k3 k4 k5 k6 k7 ones served fr : Nat → Int32), v + d = mx + 1 → 1 ≤ v → d < n → RBd W w0 (fun v' b' => Vd N p co db v' b' ∧ v' < v) f wt c wh →
    ∃ (f' wt' c' wh' r0' r1' r2' r3' r4' : Int32) (k1' k2' k3' k4' k5' k6' k7' ones' served' fr' : Nat → Int32), Adv_seekLoan_L23 (nI N) law counters kind father comes wants cost coins debts (nI p) (nI mx) KL n (nI v) f wt c wh r0 r1 r2 r3 k1 k2 k3 k4 k5 k6 k7 r4 ones served fr = KL f' wt' c' wh' r0' r1' r2' r3' k1' k2' k3' k4' k5' k6' k7' r4' ones' served' fr' ∧ RBd W w0 (fun v' b' => Vd N p co db v' b') f' wt' c' wh' := by
  intro d
  induction d with
  | zero =>
    intro v n f wt c wh r0 r1 r2 r3 r4 k1 k2 k3 k4 k5 k6 k7 ones served fr hd hv1 hn hB
    obtain ⟨n, rfl⟩ : ∃ k, n = k + 1 := ⟨n - 1, by omega⟩
    obtain rfl : v = mx + 1 := by omega
    refine ⟨f, wt, c, wh, r0, r1, r2, r3, r4, k1, k2, k3, k4, k5, k6, k7, ones, served, fr, ?_, hB.ext (fun v' b' => ⟨fun h => h.1, fun h => ⟨h, by have := h.2.1; have := h.2.2.1; omega⟩⟩)⟩
    rw [Adv_seekLoan_L23, if_pos (nI_lt (by omega) (by omega))]
  | succ d ih =>
    intro v n f wt c wh r0 r1 r2 r3 r4 k1 k2 k3 k4 k5 k6 k7 ones served fr hd hv1 hn hB
    obtain ⟨n, rfl⟩ : ∃ k, n = k + 1 := ⟨n - 1, by omega⟩
    rw [Adv_seekLoan_L23, if_neg (nI_nlt (by omega) (by omega))]
    by_cases hw : wt ≤ 0
    · rw [if_pos hw]
      refine ⟨f, wt, c, wh, r0, r1, r2, r3, r4, k1, k2, k3, k4, k5, k6, k7, ones, served, fr, rfl, ?_⟩
      rcases hB with ⟨rfl, rfl, h⟩ | ⟨rfl, v1, b1, h1, rfl, rfl, rfl, h3, h4⟩
      · rw [nI_le0 (by omega)] at hw
        exact Or.inl ⟨rfl, rfl, fun v' b' _ => by omega⟩
      · have := hW v1 b1
        rw [nI_le0 (by omega)] at hw
        refine Or.inr ⟨rfl, v1, b1, h1.1, rfl, rfl, rfl, h3, fun v' b' hs => ?_⟩
        have := h1.2
        by_cases hv' : v' < v
        · exact h4 v' b' ⟨hs, hv'⟩
        · omega
    · rw [if_neg hw]
      obtain ⟨f1, wt1, c1, wh1, r01, r11, r21, r31, r41, k11, k21, k31, k41, k51, k61, k71, ones1, served1, fr1, e1, e2⟩ := doorA_in hp hN hW hw0 hA hdb (fun f wt c wh r0 r1 r2 r3 k1 k2 k3 k4 k5 k6 k7 r4 ones served fr => nmI (nI v + 1) (fun x5 => Adv_seekLoan_L23 (nI N) law counters kind father comes wants cost coins debts (nI p) (nI mx) KL n x5 f wt c wh r0 r1 r2 r3 k1 k2 k3 k4 k5 k6 k7 r4 ones served fr)) hv1 (by omega) (by omega) N 0 FU f wt c wh r0 r1 r2 r3 r4 k1 k2 k3 k4 k5 k6 k7 ones served fr (by omega) (by unfold FU; omega) (hB.ext (fun v' b' => ⟨fun h => ⟨h.1, by omega⟩, fun h => ⟨h.1, by omega⟩⟩))
      obtain ⟨f2, wt2, c2, wh2, r02, r12, r22, r32, r42, k12, k22, k32, k42, k52, k62, k72, ones2, served2, fr2, g1, g2⟩ := ih (v + 1) n f1 wt1 c1 wh1 r01 r11 r21 r31 r41 k11 k21 k31 k41 k51 k61 k71 ones1 served1 fr1 (by omega) (by omega) (by omega) e2
      refine ⟨f2, wt2, c2, wh2, r02, r12, r22, r32, r42, k12, k22, k32, k42, k52, k62, k72, ones2, served2, fr2, ?_, g2⟩
      refine Eq.trans e1 ?_
      simp only [nmI, nI_a1]
      exact g1
theorem doorM_in (hp : p < N) (hN : N ≤ 7) (hW : ∀ v b, W v b ≤ 130) (hw0 : w0 ≤ 130) (hM : WdM N law counters kind father comes wants cost coins debts p W) (hdb : ∀ b, b < N → debts (7 * b + p) = nI (db b) ∧ db b ≤ 999) (hco : coins p = nI co) (hcoB : co < 2 ^ 31) (KM : K10) {b : Nat} (hb : b < N) : ∀ (d v n : Nat) (b0 b1 bw bq bc : Int32) (st queue busy servedIn : Nat → Int32), v + d = 51 → 1 ≤ v → d < n → RT N (nI N) law counters kind father comes wants cost coins debts st 0 → RBm W w0 (fun v' b' => Vd N p co db v' b' ∧ (b' < b ∨ (b' = b ∧ v' < v))) bw bq bc →
    ∃ (b0' b1' bw' bq' bc' : Int32) (st' queue' busy' servedIn' : Nat → Int32), Mod_door_L54 (nI p) (nI b) KM n (nI v) b0 b1 bw bq bc st queue busy servedIn = KM b0' b1' bw' bq' bc' st' queue' busy' servedIn' ∧ RBm W w0 (fun v' b' => Vd N p co db v' b' ∧ b' < b + 1) bw' bq' bc' ∧ frm st st' := by
  intro d
  induction d with
  | zero =>
    intro v n b0 b1 bw bq bc st queue busy servedIn hd hv1 hn hR hB
    obtain ⟨n, rfl⟩ : ∃ k, n = k + 1 := ⟨n - 1, by omega⟩
    obtain rfl : v = 51 := by omega
    refine ⟨b0, b1, bw, bq, bc, st, queue, busy, servedIn, ?_, hB.ext (fun v' b' => ⟨fun h => ⟨h.1, by omega⟩, fun h => ⟨h.1, by have := h.1.2.1; omega⟩⟩), fun _ _ => rfl⟩
    rw [Mod_door_L54, if_pos (by decide)]
  | succ d ih =>
    intro v n b0 b1 bw bq bc st queue busy servedIn hd hv1 hn hR hB
    obtain ⟨n, rfl⟩ : ∃ k, n = k + 1 := ⟨n - 1, by omega⟩
    have stop : (∀ v', v ≤ v' → ¬ Vd N p co db v' b) → RBm W w0 (fun v' b' => Vd N p co db v' b' ∧ b' < b + 1) bw bq bc := fun hno => hB.ext (fun v' b' => ⟨fun h => ⟨h.1, by omega⟩, fun h => ⟨h.1, by
      by_cases e : b' = b
      · by_cases e2 : v' < v
        · exact Or.inr ⟨e, e2⟩
        · exact absurd (by rw [← e]; exact h.1) (hno v' (by omega))
      · have := h.2
        exact Or.inl (by omega)⟩⟩)
    have e4 := (hR.cel p hp).2.2.2.2
    rw [Nat.zero_add] at e4
    rw [Mod_door_L54, if_neg (show ¬ (50 : Int32) < nI v from fun hh => by have := (nI_ltI (a := 50) (by omega) (by omega)).mp hh; omega), ix_coin, rdA_nI (f := st) (j := 6 * p + 4) (by omega) (by omega), e4, hco]
    by_cases hc : v ≤ co
    · rw [if_neg (nI_nlt hc hcoB)]
      by_cases hbp : b = p
      · rw [if_pos (by rw [hbp])]
        exact ⟨b0, b1, bw, bq, bc, st, queue, busy, servedIn, rfl, stop (fun v' _ h => h.2.2.2.2.1 hbp), fun _ _ => rfl⟩
      · rw [if_neg (fun hh => hbp ((nI_eq (by omega) (by omega)).mp hh))]
        obtain ⟨e1, e2⟩ := hdb b hb
        unfold Mod_debtAt
        simp only [bindS, ix_debt]
        rw [rdA_nI (f := st) (j := 42 + 7 * b + p) (by omega) (by omega), rd_debt hR (by omega) (by omega), e1, nI_add]
        by_cases h9 : db b + v ≤ 999
        · rw [if_neg (show ¬ (999 : Int32) < nI (db b + v) from fun hh => by have := (nI_ltI (a := 999) (by omega) (by omega)).mp hh; omega), E_copies0]
          simp only [bindS]
          rw [nL282, E_gives (by omega) (by omega) (by omega)]
          simp only [bindS, nmI, nI_add]
          rw [rdA_nI (f := giveM (cpp st 0 282 94) 282 p b (nI v)) (by omega) (by omega), wrA_nI (by omega) (by omega), giveM_out (by omega) (by omega), cpp_in (show 42 + 7 * b + p < 94 by omega), Nat.zero_add, rd_debt hR (by omega) (by omega)]
          obtain ⟨L2, pd2, st', queue', busy', servedIn', g3, g4, g5⟩ := hM v b hb hbp st queue busy servedIn hR
          rw [E_tries (by omega) g3 g4]
          simp only [bindS, nI_a1]
          have hV : Vd N p co db v b := ⟨hv1, by omega, hc, hb, hbp, h9⟩
          obtain ⟨b02, b12, bw2, bq2, bc2, st2, queue2, busy2, servedIn2, u1, u2, u3⟩ := ih (v + 1) n L2 pd2 _ _ _ st' queue' busy' servedIn' (by omega) (by omega) (by omega) (hR.pages (fun k hk => g5 _ (by omega))) ((hB.step (v := v) (b := b) hW hw0 (fun v' b' h => Vd_b hN h.1) (by omega) (by omega) (fun h => by have := h.2; omega)).ext (by
            intro v' b'
            constructor
            · rintro (⟨h1, h2⟩ | ⟨rfl, rfl⟩)
              · exact ⟨h1, by omega⟩
              · exact ⟨hV, by omega⟩
            · rintro ⟨h1, h2⟩
              by_cases e : v' = v ∧ b' = b
              · exact Or.inr e
              · exact Or.inl ⟨h1, by omega⟩))
          exact ⟨b02, b12, bw2, bq2, bc2, st2, queue2, busy2, servedIn2, u1, u2, fun k hk => by rw [u3 k hk, g5 k hk]⟩
        · rw [if_pos (show (999 : Int32) < nI (db b + v) from nI_lt (a := 999) (by omega) (by omega))]
          exact ⟨b0, b1, bw, bq, bc, st, queue, busy, servedIn, rfl, stop (fun v' h1 h => by have := h.2.2.2.2.2; omega), fun _ _ => rfl⟩
    · rw [if_pos (nI_lt (by omega) (by omega))]
      exact ⟨b0, b1, bw, bq, bc, st, queue, busy, servedIn, rfl, stop (fun v' h1 h => by have := h.2.2.1; omega), fun _ _ => rfl⟩
theorem doorM_out (hp : p < N) (hN : N ≤ 7) (hW : ∀ v b, W v b ≤ 130) (hw0 : w0 ≤ 130) (hM : WdM N law counters kind father comes wants cost coins debts p W) (hdb : ∀ b, b < N → debts (7 * b + p) = nI (db b) ∧ db b ≤ 999) (hco : coins p = nI co) (hcoB : co < 2 ^ 31) (KM : K10) : ∀ (d b n : Nat) (b0 b1 bw bq bc : Int32) (st queue busy servedIn : Nat → Int32), b + d = N → d < n → RT N (nI N) law counters kind father comes wants cost coins debts st 0 → RBm W w0 (fun v' b' => Vd N p co db v' b' ∧ b' < b) bw bq bc →
    ∃ (b0' b1' bw' bq' bc' : Int32) (st' queue' busy' servedIn' : Nat → Int32), Mod_door_L43 (nI p) KM n (nI b) b0 b1 bw bq bc st queue busy servedIn = KM b0' b1' bw' bq' bc' st' queue' busy' servedIn' ∧ RBm W w0 (fun v' b' => Vd N p co db v' b') bw' bq' bc' ∧ frm st st' := by
  intro d
  induction d with
  | zero =>
    intro b n b0 b1 bw bq bc st queue busy servedIn hd hn hR hB
    obtain ⟨n, rfl⟩ : ∃ k, n = k + 1 := ⟨n - 1, by omega⟩
    obtain rfl : b = N := by omega
    refine ⟨b0, b1, bw, bq, bc, st, queue, busy, servedIn, ?_, hB.ext (fun v' b' => ⟨fun h => h.1, fun h => ⟨h, h.2.2.2.1⟩⟩), fun _ _ => rfl⟩
    rw [Mod_door_L43, E_manyM hR.many]
    simp only [bindS]
    rw [if_pos (nI_le (by omega) (by omega))]
  | succ d ih =>
    intro b n b0 b1 bw bq bc st queue busy servedIn hd hn hR hB
    obtain ⟨n, rfl⟩ : ∃ k, n = k + 1 := ⟨n - 1, by omega⟩
    rw [Mod_door_L43, E_manyM hR.many]
    simp only [bindS]
    rw [if_neg (nI_ge (by omega) (by omega))]
    obtain ⟨b01, b11, bw1, bq1, bc1, st1, queue1, busy1, servedIn1, e1, e2, e3⟩ := doorM_in hp hN hW hw0 hM hdb hco hcoB (fun b0 b1 bw bq bc st queue busy servedIn => nmI (nI b + 1) (fun x3 => Mod_door_L43 (nI p) KM n x3 b0 b1 bw bq bc st queue busy servedIn)) (show b < N by omega) 50 1 FU b0 b1 bw bq bc st queue busy servedIn (by omega) (by omega) (by unfold FU; omega) hR (hB.ext (fun v' b' => ⟨fun h => ⟨h.1, by omega⟩, fun h => ⟨h.1, by have := h.1.1; omega⟩⟩))
    obtain ⟨b02, b12, bw2, bq2, bc2, st2, queue2, busy2, servedIn2, g1, g2, g3⟩ := ih (b + 1) n b01 b11 bw1 bq1 bc1 st1 queue1 busy1 servedIn1 (by omega) (by omega) (hR.pages (fun k hk => e3 _ (by omega))) e2
    refine ⟨b02, b12, bw2, bq2, bc2, st2, queue2, busy2, servedIn2, ?_, g2, fun k hk => by rw [g3 k hk, e3 k hk]⟩
    refine Eq.trans e1 ?_
    simp only [nmI, nI_a1]
    exact g1
theorem P_door {B : Nat} {people : Int32} {st : Nat → Int32} (hR : RT N people law counters kind father comes wants cost coins debts st 0) (hT : TOK N B coins debts) (hB : B < 2 ^ 30) (p w r0 r1 r2 r3 r4 f0 f1 f2 f3 b0 b1 b2 b3 b4 : Int32) (k1 k2 k3 k4 k5 k6 k7 ones served fr queue busy servedIn : Nat → Int32) :
    ∃ o1 o2, Let_door p w people law counters kind father comes wants cost coins debts r0 r1 r2 r3 k1 k2 k3 k4 k5 k6 k7 r4 ones served fr f0 f1 f2 f3 = some o1 ∧ Mod_door p w b0 b1 b2 b3 b4 st queue busy servedIn = some o2 ∧ o1.1 = o2.1 ∧ frm st o2.2.2.2.2.2.2.1 := by
  have hN := hR.N7
  have hpp := hR.ppl
  subst hpp
  unfold Let_door Mod_door
  rw [E_isOneT, E_isOneM hN hR.many, E_in32c w (lo := 0) (hi := 2) (a := 0) (b := 2) rfl rfl]
  simp only [bindS]
  rcases oneB_cases hN p with ⟨h1, j, hj, rfl⟩ | h1
  · simp only [h1, i10, if_false]
    rcases rng_cases (t := w) (hi := 2) (n := 2) rfl (by omega) with ⟨e1, e2, v, hv, rfl⟩ | e
    · simp only [eq_true (show 0 ≤ nI v ∧ nI v ≤ 2 from ⟨e1, e2⟩), if_true, i10, if_false]
      rw [if_neg (i32_nlt.mpr e1), if_pos e2]
      obtain ⟨w0, pd, L, cs0, ds0, ones0, served0, fr0, st0, queue0, busy0, servedIn0, g0, g1, g2, g3, g4⟩ := start_sim hR hj k1 k2 k3 k4 k5 k6 k7 ones served fr queue busy servedIn
      obtain ⟨W, hW, hA, hM⟩ := Wd_ex hj hR
      obtain ⟨co, hcB, hco⟩ := hT.1 j hj
      have hdb : ∀ b, b < N → debts (7 * b + j) = nI ((debts (7 * b + j)).toNatClampNeg) ∧ (debts (7 * b + j)).toNatClampNeg ≤ 999 := fun b hb => by
        obtain ⟨d, hd, he⟩ := hT.2 (7 * b + j) (by omega)
        rw [he, nI_clamp (by omega)]
        exact ⟨rfl, hd⟩
      obtain ⟨mx, m1, m2, m3, m4⟩ : ∃ mx, (if nI co < 50 then nI co else 50) = nI mx ∧ mx ≤ 50 ∧ mx ≤ co ∧ (50 ≤ mx ∨ co ≤ mx) := by
        by_cases h : co < 50
        · exact ⟨co, by rw [if_pos (show nI co < 50 from nI_lt (b := 50) h (by omega))], by omega, by omega, by omega⟩
        · exact ⟨50, by rw [if_neg (show ¬ nI co < 50 from nI_nlt (b := 50) (by omega) (by omega))]; rfl, by omega, by omega, by omega⟩
      unfold Adv_seekLoan
      rw [g1, g2]
      simp only [bindS]
      rw [g3, rdA_nI (f := coins) (by omega) (by omega), hco]
      simp only [bindS, nmI]
      rw [m1]
      obtain ⟨f2, wt2, c2, wh2, r02, r12, r22, r32, r42, k12, k22, k32, k42, k52, k62, k72, ones2, served2, fr2, u1, u2⟩ := doorA_out (co := co) (db := fun b => (debts (7 * b + j)).toNatClampNeg) hj hN hW g0 hA hdb (fun a1 a2 a3 a4 a5 a6 a7 a8 a9 a10 a11 a12 a13 a14 a15 a16 a17 a18 a19 => some (a1, a2, a3, a4, a5, a6, a7, a8, a9, a10, a11, a12, a13, a14, a15, a16, a17, a18, a19)) m2 m3 m4 mx 1 FU 0 (nI w0) f2 f3 pd (nI N) law counters L (va_cpy kind k1 0 0 7) (va_cpy father k2 0 0 7) (va_cpy comes k3 0 0 7) (va_cpy wants k4 0 0 7) (va_cpy cost k5 0 0 7) cs0 ds0 ones0 served0 fr0 (by omega) (by omega) (by unfold FU; omega) (Or.inl ⟨rfl, rfl, fun v' b' h => by have := h.1.1; omega⟩)
      obtain ⟨b03, b13, bw3, bq3, bc3, st3, queue3, busy3, servedIn3, y1, y2, y3⟩ := doorM_out (co := co) (db := fun b => (debts (7 * b + j)).toNatClampNeg) hj hN hW g0 hM hdb hco (by omega) (fun a1 a2 a3 a4 a5 a6 a7 a8 a9 => (Mod_best (nI v) a3 a4 a5).bind (fun o => some (o, a1, a2, a3, a4, a5, a6, a7, a8, a9))) N 0 FU L pd (nI w0) (-4) b4 st0 queue0 busy0 servedIn0 (by omega) (by unfold FU; omega) (hR.pages (fun k hk => g4 _ (by omega))) ⟨0, Or.inl ⟨rfl, rfl, fun v' b' h => by omega⟩, fun _ => rfl⟩
      rw [show nI 0 = (0 : Int32) from rfl] at y1
      rw [show nI 1 = (1 : Int32) from rfl] at u1
      rw [u1, y1]
      obtain ⟨x, x1, x2⟩ := u2.one hv y2 (fun v b h => Vd_b hN h)
      rw [x2]
      simp only [bindS]
      rw [x1]
      simp only [bindS]
      exact ⟨_, _, rfl, rfl, rfl, fun k hk => by rw [← g4 k hk]; exact y3 k hk⟩
    · simp only [eq_false e, if_false, i00, if_true]
      by_cases q : w < 0
      · rw [if_pos q]
        exact ⟨_, _, rfl, rfl, rfl, fun _ _ => rfl⟩
      · rw [if_neg q, if_neg (fun hh => e ⟨i32_nlt.mp q, hh⟩)]
        exact ⟨_, _, rfl, rfl, rfl, fun _ _ => rfl⟩
  · simp only [h1, i00, if_true]
    exact ⟨_, _, rfl, rfl, rfl, fun _ _ => rfl⟩
end DOOR2
