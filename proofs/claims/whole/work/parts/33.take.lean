/-! the front is taken; who has come -/
def shf (f : Nat → Int32) (i : Nat) : Nat → Int32 := fun k => if k < i then f (k + 1) else f k
theorem shf_0 (f : Nat → Int32) : shf f 0 = f := by funext k; simp [shf]
theorem shf_s (f : Nat → Int32) (i : Nat) : upd (shf f i) i (shf f i (i + 1)) = shf f (i + 1) := by
  funext k
  by_cases h : k = i
  · subst h
    rw [upd_s]
    unfold shf
    rw [if_neg (by omega), if_pos (by omega)]
  · rw [upd_n h]
    by_cases h2 : k < i
    · simp [shf, h2, Nat.lt_succ_of_lt h2]
    · simp [shf, h2, show ¬ k < i + 1 by omega]
theorem takeR_L (L : Nat) (hL : L < 7) (f : Nat → Int32) (K : (Nat → Int32) → Option (Int32 × Int32 × (Nat → Int32))) : ∀ (d i n : Nat), i + d = L → d < n → Row_takeFront_L29 (nI L) K n (nI i) (shf f i) = K (shf f L) := by
  intro d
  induction d with
  | zero =>
    intro i n h1 h2
    obtain ⟨n, rfl⟩ : ∃ k, n = k + 1 := ⟨n - 1, by omega⟩
    rw [Row_takeFront_L29, if_pos (nI_le (by omega) (by omega)), show i = L by omega]
  | succ d ih =>
    intro i n h1 h2
    obtain ⟨n, rfl⟩ : ∃ k, n = k + 1 := ⟨n - 1, by omega⟩
    rw [Row_takeFront_L29, if_neg (nI_ge (by omega) (by omega)), nI_a1, rdA_nI (by omega) (by omega), wrA_nI (by omega) (by omega), shf_s]
    exact ih (i + 1) n (by omega) (by omega)
theorem takeM_L (L : Nat) (hL : L < 7) (f : Nat → Int32) (K : (Nat → Int32) → Option (Int32 × Int32 × (Nat → Int32))) : ∀ (d i n : Nat), i + d = L → d < n → Mod_takesFront_L19 (nI L) K n (nI i) (shf f i) = K (shf f L) := by
  intro d
  induction d with
  | zero =>
    intro i n h1 h2
    obtain ⟨n, rfl⟩ : ∃ k, n = k + 1 := ⟨n - 1, by omega⟩
    rw [Mod_takesFront_L19, if_pos (nI_le (by omega) (by omega)), show i = L by omega]
  | succ d ih =>
    intro i n h1 h2
    obtain ⟨n, rfl⟩ : ∃ k, n = k + 1 := ⟨n - 1, by omega⟩
    rw [Mod_takesFront_L19, if_neg (nI_ge (by omega) (by omega)), nI_a1, rdA_nI (by omega) (by omega), wrA_nI (by omega) (by omega), shf_s]
    exact ih (i + 1) n (by omega) (by omega)
theorem E_takeR {L : Nat} (hL : L < 7) (f : Nat → Int32) : Row_takeFront (nI (L + 1)) f = some (f 0, nI L, shf f L) := by
  unfold Row_takeFront
  rw [if_neg (nI_ne0 (by omega) (by omega)), nL0, rdA_nI (by omega) (by omega)]
  simp only [nmI, nI_pred]
  have := takeR_L L hL f (fun g => some (f 0, nI L, g)) L 0 FU (by omega) (by unfold FU; omega)
  rw [shf_0] at this
  exact this
theorem E_takeM {L : Nat} (hL : L < 7) (f : Nat → Int32) : Mod_takesFront (nI (L + 1)) f = some (f 0, nI L, shf f L) := by
  unfold Mod_takesFront
  rw [nL0, rdA_nI (by omega) (by omega)]
  simp only [nmI, nI_pred]
  have := takeM_L L hL f (fun g => some (f 0, nI L, g)) L 0 FU (by omega) (by unfold FU; omega)
  rw [shf_0] at this
  exact this
/-- come ahead of the p-th of minute t -/
abbrev arrd (cm : Nat → Nat) (t p j : Nat) : Prop := cm j < t ∨ (cm j = t ∧ j < p)
def arrv (cm : Nat → Nat) (t p : Nat) : Nat → Nat
  | 0 => 0
  | n + 1 => arrv cm t p n + if arrd cm t p n then 1 else 0
theorem arrv_le (cm : Nat → Nat) (t p : Nat) : ∀ n, arrv cm t p n ≤ n := by
  intro n
  induction n with
  | zero => exact Nat.le_refl 0
  | succ n ih =>
    unfold arrv
    split <;> omega
theorem arrv_s (cm : Nat → Nat) (t p : Nat) : ∀ n, arrv cm t (p + 1) n = arrv cm t p n + if p < n ∧ cm p = t then 1 else 0 := by
  intro n
  induction n with
  | zero => simp [arrv]
  | succ n ih =>
    unfold arrv
    rw [ih]
    by_cases h1 : n = p
    · subst h1
      have e0 : ¬ (n < n ∧ cm n = t) := by omega
      rw [if_neg e0]
      by_cases h2 : cm n = t
      · rw [if_pos (show arrd cm t (n + 1) n from Or.inr ⟨h2, by omega⟩), if_neg (show ¬ arrd cm t n n by unfold arrd; omega), if_pos ⟨by omega, h2⟩]
      · rw [if_neg (show ¬ (n < n + 1 ∧ cm n = t) from fun h => h2 h.2)]
        by_cases h3 : cm n < t
        · rw [if_pos (show arrd cm t (n + 1) n from Or.inl h3), if_pos (show arrd cm t n n from Or.inl h3)]
        · rw [if_neg (show ¬ arrd cm t (n + 1) n by unfold arrd; omega), if_neg (show ¬ arrd cm t n n by unfold arrd; omega)]
    · have e1 : arrd cm t (p + 1) n ↔ arrd cm t p n := by unfold arrd; omega
      have e2 : (p < n + 1 ∧ cm p = t) ↔ (p < n ∧ cm p = t) := by omega
      simp only [e1, e2]
      omega
theorem arrv_n (cm : Nat → Nat) (t p : Nat) : ∀ n, n ≤ p → arrv cm (t + 1) 0 n = arrv cm t p n := by
  intro n
  induction n with
  | zero => intro _; rfl
  | succ n ih =>
    intro h
    unfold arrv
    rw [ih (by omega)]
    have e1 : arrd cm (t + 1) 0 n ↔ arrd cm t p n := by unfold arrd; omega
    simp only [e1]
theorem arrv_mono (cm : Nat → Nat) (t : Nat) (N : Nat) : ∀ p, arrv cm t 0 N ≤ arrv cm t p N := by
  intro p
  induction p with
  | zero => exact Nat.le_refl _
  | succ p ih => rw [arrv_s]; omega
/-- somebody comes at t: more have come behind it -/
theorem arrv_ev (cm : Nat → Nat) (t N j : Nat) (hj : j < N) (h : cm j = t) : ∀ p, j < p → arrv cm t 0 N + 1 ≤ arrv cm t p N := by
  intro p
  induction p with
  | zero => intro h; omega
  | succ p ih =>
    intro hp
    rw [arrv_s]
    by_cases h1 : j = p
    · subst h1
      rw [if_pos ⟨hj, h⟩]
      have := arrv_mono cm t N j
      omega
    · have := ih (by omega)
      omega
theorem arrv_all (cm : Nat → Nat) (t p : Nat) : ∀ n, (∀ j, j < n → cm j < t) → arrv cm t p n = n := by
  intro n
  induction n with
  | zero => intro _; rfl
  | succ n ih =>
    intro h
    unfold arrv
    rw [ih (fun j hj => h j (by omega)), if_pos (show arrd cm t p n from Or.inl (h n (by omega)))]
theorem arrv_none (cm : Nat → Nat) (t p : Nat) : ∀ N, (∀ j, j < N → ¬ cm j = t) → arrv cm t p N = arrv cm t 0 N := by
  induction p with
  | zero => intro N _; rfl
  | succ p ih =>
    intro N h
    rw [arrv_s, ih N h]
    by_cases hp : p < N ∧ cm p = t
    · exact absurd hp.2 (h p hp.1)
    · rw [if_neg hp]; rfl
