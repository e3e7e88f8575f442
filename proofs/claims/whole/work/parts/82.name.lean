/-! NAMES: the nine words, as Strings and as letters cut out of one row -/
def cu : List Nat := [0, 3, 11, 14, 18, 23, 28, 33, 37, 40]
def CLt (cuts letters : Nat → Int32) : Prop := (∀ i, i < 10 → cuts i = nI (cu.getD i 0)) ∧ ∀ i, i < 9 → ∀ k, k < sxN i → letters (cu.getD i 0 + k) = sxC i k
def sxW (i k : Nat) : Nat := (sxC i k).toNatClampNeg
theorem cu_1 : ∀ i, i < 9 → cu.getD (i + 1) 0 = cu.getD i 0 + sxN i ∧ cu.getD i 0 + sxN i ≤ 40 := by decide +kernel
theorem sxW_1 : ∀ i, i < 9 → ∀ k, k < sxN i → sxC i k = nI (sxW i k) ∧ sxW i k < 128 := by decide +kernel
theorem by_w1 : ∀ b, b < 256 → ∀ w, w < 128 → ((nI b).toInt8.toInt32 = nI w ↔ b = w) := by decide +kernel
/-- the letters from k on, d of them, are those of word i -/
def am (c : Nat → Nat) (p1 i : Nat) : Nat → Nat → Bool
  | 0, _ => true
  | d + 1, k => if c (p1 + k) = sxW i k then am c p1 i d (k + 1) else false
def mtB (c : Nat → Nat) (p1 p2 i : Nat) : Bool := decide (p2 - p1 = sxN i) && am c p1 i (sxN i) 0
theorem am_at {c : Nat → Nat} {p1 i : Nat} : ∀ d k, am c p1 i d k = true → ∀ j, j < d → c (p1 + (k + j)) = sxW i (k + j) := by
  intro d
  induction d with
  | zero => intro k _ j hj; omega
  | succ d ih =>
    intro k h j hj
    unfold am at h
    by_cases e : c (p1 + k) = sxW i k
    · rw [if_pos e] at h
      cases j with
      | zero => exact e
      | succ j =>
        have := ih (k + 1) h j (by omega)
        rw [show k + (j + 1) = k + 1 + j by omega]
        exact this
    · rw [if_neg e] at h; cases h
theorem sx_dist : ∀ i, i < 9 → ∀ j, j < 9 → sxN i = sxN j → (∀ k, k < sxN i → sxW i k = sxW j k) → i = j := by decide +kernel
theorem mt_one {c : Nat → Nat} {p1 p2 i j : Nat} (hi : i < 9) (hj : j < 9) (h1 : mtB c p1 p2 i = true) (h2 : mtB c p1 p2 j = true) : i = j := by
  unfold mtB at h1 h2
  simp only [Bool.and_eq_true, decide_eq_true_eq] at h1 h2
  refine sx_dist i hi j hj (by omega) (fun k hk => ?_)
  have a1 := am_at _ 0 h1.2 k hk
  have a2 := am_at _ 0 h2.2 k (by omega)
  rw [Nat.zero_add] at a1 a2
  omega
section NAME
variable {n : Nat} {c : Nat → Nat} {tb tp cuts letters : Nat → Int32}
theorem in_loop (h : CH n c tb tp) {p1 p2 i : Nat} (hi : i < 9) (h2 : p2 ≤ n) (hl : p1 + sxN i = p2) (K58 K66 : Option Int32) : ∀ (d k f : Nat), k + d = sxN i → d < f → Rdr_isNamed_L28 (nI p1) tb i K58 K66 f (nI k) = if am c p1 i d k = true then K66 else K58 := by
  have h4 := h.1
  intro d
  induction d with
  | zero =>
    intro k f hk hf
    obtain ⟨f, rfl⟩ : ∃ m, f = m + 1 := ⟨f - 1, by omega⟩
    rw [Rdr_isNamed_L28, if_pos (nI_le (by omega) (by omega)), if_pos (show am c p1 i 0 k = true from rfl)]
  | succ d ih =>
    intro k f hk hf
    obtain ⟨f, rfl⟩ : ∃ m, f = m + 1 := ⟨f - 1, by omega⟩
    obtain ⟨c1, c2, c3⟩ := h.2 (p1 + k) (by omega)
    obtain ⟨w1, w2⟩ := sxW_1 i hi k (by omega)
    rw [Rdr_isNamed_L28, if_neg (nI_ge (by omega) (by omega)), nI_add, rdA_nI (by omega) (by omega), rdA_nI (by omega) (by omega), c3, w1]
    simp only [nmI_e, nI_a1]
    unfold am
    by_cases e : c (p1 + k) = sxW i k
    · rw [if_pos ((by_w1 _ c1 _ w2).mpr e), if_pos e]
      exact ih (k + 1) f (by omega) (by omega)
    · rw [if_neg (fun hh => e ((by_w1 _ c1 _ w2).mp hh)), if_neg e, if_neg (by decide)]
theorem E_isNamed (h : CH n c tb tp) {p1 p2 i k : Nat} (hi : i < 9) (h1 : p1 ≤ p2) (h2 : p2 ≤ n) (hk : k < 4) : Rdr_isNamed i (nI p2) (srt k) (nI p1) tb = some (if k = 1 ∧ mtB c p1 p2 i = true then 1 else 0) := by
  have h4 := h.1
  have h9 := sx_2 i hi
  unfold Rdr_isNamed
  by_cases e : k = 1
  · rw [if_pos (show srt k = 1 by rw [e]; rfl), pk_sub h1]
    by_cases hl : p2 - p1 = sxN i
    · rw [if_pos (by rw [hl])]
      have hin := in_loop h hi h2 (show p1 + sxN i = p2 by omega) (some 0) (some 1) (sxN i) 0 FU (by omega) (by unfold FU; omega)
      rw [show nI 0 = (0 : Int32) from rfl] at hin
      rw [hin]
      unfold mtB
      by_cases ha : am c p1 i (sxN i) 0 = true
      · rw [if_pos ha, if_pos ⟨e, by rw [ha]; simp [hl]⟩]
      · rw [if_neg ha, if_neg (fun hh => ha (by simpa [hl] using hh.2))]
    · rw [if_neg (fun hh => hl ((nI_eq (by omega) (by omega)).mp hh)), if_neg]
      intro hh
      unfold mtB at hh
      simp [hl] at hh
  · rw [if_neg (show ¬ srt k = 1 from fun hc => by
      unfold srt at hc
      by_cases k0 : k = 0
      · rw [if_pos k0] at hc; exact absurd hc (by decide)
      · rw [if_neg k0] at hc; exact e ((nI_eq (b := 1) (by omega) (by omega)).mp hc)), if_neg (fun hh => e hh.1)]
theorem nh_in0 (tn sp he x1 : Int32) (K : Int32 → Option Int32) (f : Nat) (x3 : Int32) : Mod_nameHere_L51 tn sp he tp cuts letters x1 K (f + 1) 0 x3 = K 0 := by
  rw [Mod_nameHere_L51, if_pos rfl]
theorem nh_in (h : CH n c tb tp) (hC : CLt cuts letters) {p1 p2 i : Nat} (hi : i < 9) (h2 : p2 ≤ n) (hl : p1 + sxN i = p2) (K : Int32 → Option Int32) : ∀ (d k f : Nat), k + d = sxN i → d + 1 < f → Mod_nameHere_L51' (nI n) (nI p2) (nI p1) tp cuts letters (nI i) K f 1 (nI k) = if am c p1 i d k = true then K 1 else K 0 := by
  have h4 := h.1
  have hcu := (cu_1 i hi).2
  intro d
  induction d with
  | zero =>
    intro k f hk hf
    obtain ⟨f, rfl⟩ : ∃ m, f = m + 1 := ⟨f - 1, by omega⟩
    rw [Mod_nameHere_L51', if_neg (by decide), pk_sub (by omega), if_pos (nI_le (by omega) (by omega)), if_pos (show am c p1 i 0 k = true from rfl)]
  | succ d ih =>
    intro k f hk hf
    obtain ⟨f, rfl⟩ : ∃ m, f = m + 1 + 1 := ⟨f - 2, by omega⟩
    obtain ⟨c1, c2, c3⟩ := h.2 (p1 + k) (by omega)
    obtain ⟨w1, w2⟩ := sxW_1 i hi k (by omega)
    rw [Mod_nameHere_L51', if_neg (by decide), pk_sub (by omega), if_neg (nI_ge (by omega) (by omega)), nI_add, E_byteAt h (by omega)]
    simp only [bindS]
    rw [rdA_nI (f := cuts) (by omega) (by omega), hC.1 i (by omega), nI_add, rdA_nI (f := letters) (by omega) (by omega), hC.2 i hi k (by omega), w1]
    simp only [nmI_e, nI_a1]
    unfold am
    by_cases e : c (p1 + k) = sxW i k
    · rw [if_pos (by rw [e]), if_pos e]
      exact ih (k + 1) (f + 1) (by omega) (by omega)
    · rw [if_neg (fun hh => e ((nI_eq (by omega) (by omega)).mp hh)), if_neg e, Mod_nameHere_L51', if_pos rfl, if_neg (by decide)]
theorem nh_out (h : CH n c tb tp) (hC : CLt cuts letters) {p1 p2 : Nat} (h1 : p1 ≤ p2) (h2 : p2 ≤ n) : ∀ (d i f : Nat), i + d = 9 → d < f → Mod_nameHere_L2 (nI n) (nI p2) (nI p1) 1 tp cuts letters (fun x => some x) (some (-4)) f (nI i) = some (if ch (mtB c p1 p2) d i < 9 then nI (ch (mtB c p1 p2) d i) else -4) := by
  have h4 := h.1
  intro d
  induction d with
  | zero =>
    intro i f hi hf
    obtain ⟨f, rfl⟩ : ∃ m, f = m + 1 := ⟨f - 1, by omega⟩
    rw [Mod_nameHere_L2, if_pos (show (9 : Int32) ≤ nI i from nI_le (a := 9) (by omega) (by omega)), if_neg (show ¬ ch (mtB c p1 p2) 0 i < 9 by show ¬ i < 9; omega)]
  | succ d ih =>
    intro i f hi hf
    obtain ⟨f, rfl⟩ : ∃ m, f = m + 1 := ⟨f - 1, by omega⟩
    have hi9 : i < 9 := by omega
    have h9 := sx_2 i hi9
    have hih := ih (i + 1) f (by omega) (by omega)
    rw [Mod_nameHere_L2, if_neg (show ¬ (9 : Int32) ≤ nI i from nI_ge (b := 9) hi9 (by omega)), if_pos rfl]
    simp only [nmI_e, nI_a1]
    rw [rdA_nI (f := cuts) (by omega) (by omega), rdA_nI (f := cuts) (by omega) (by omega), hC.1 _ (by omega), hC.1 _ (by omega), (cu_1 i hi9).1, pk_sub h1, pk_sub (show cu.getD i 0 ≤ cu.getD i 0 + sxN i by omega), show cu.getD i 0 + sxN i - cu.getD i 0 = sxN i by omega, ch_1]
    by_cases hl : p2 - p1 = sxN i
    · rw [if_pos (by rw [hl])]
      have hin := nh_in h hC hi9 h2 (show p1 + sxN i = p2 by omega) (fun x2 => if x2 = 0 then Mod_nameHere_L2 (nI n) (nI p2) (nI p1) 1 tp cuts letters (fun x => some x) (some (-4)) f (nI (i + 1)) else some (nI i)) (sxN i) 0 FU (by omega) (by unfold FU; omega)
      rw [show nI 0 = (0 : Int32) from rfl] at hin
      rw [hin]
      by_cases ha : am c p1 i (sxN i) 0 = true
      · rw [if_pos ha, if_pos (show mtB c p1 p2 i = true by unfold mtB; rw [ha]; simp [hl]), if_pos hi9]
        simp only [i10, if_false]
      · rw [if_neg ha, if_neg (show ¬ mtB c p1 p2 i = true from fun hh => ha (by unfold mtB at hh; simpa [hl] using hh))]
        simp only [i00, if_true]
        exact hih
    · rw [if_neg (fun hh => hl ((nI_eq (by omega) (by omega)).mp hh)), show FU = 999 + 1 from rfl, nh_in0, if_neg (show ¬ mtB c p1 p2 i = true from fun hh => by unfold mtB at hh; simp [hl] at hh)]
      simp only [i00, if_true]
      exact hih
theorem nh_not {tok : Int32} (ht : tok ≠ 1) (tn sp he : Int32) : Mod_nameHere tn sp he tok tp cuts letters = some (-4) := by
  unfold Mod_nameHere
  rw [show FU = 999 + 1 from rfl, Mod_nameHere_L2, if_neg (by decide), if_neg ht]
/-- the word that a TOKEN is: 9 is none -/
theorem E_name (h : CH n c tb tp) (hC : CLt cuts letters) {p1 p2 k : Nat} (h1 : p1 ≤ p2) (h2 : p2 ≤ n) (hk : k < 4) : ∃ w, w ≤ 9 ∧ (k ≠ 1 → w = 9) ∧ (∀ i, i < 9 → Rdr_isNamed i (nI p2) (srt k) (nI p1) tb = some (if w = i then 1 else 0)) ∧ Mod_nameHere (nI n) (nI p2) (nI p1) (nI k) tp cuts letters = some (if w < 9 then nI w else -4) := by
  by_cases e : k = 1
  · subst e
    refine ⟨ch (mtB c p1 p2) 9 0, (ch_le _ 9 0).2, fun hh => absurd rfl hh, fun i hi => ?_, ?_⟩
    · rw [E_isNamed h hi h1 h2 hk]
      by_cases hm : mtB c p1 p2 i = true
      · have hlt := ch_ex _ hm 9 0 (by omega) (by omega)
        have := mt_one (by omega) hi (ch_q (mtB c p1 p2) 9 0 hlt) hm
        rw [if_pos ⟨rfl, hm⟩, if_pos this]
      · rw [if_neg (fun hh => hm hh.2), if_neg]
        intro hh
        have hq := ch_q (mtB c p1 p2) 9 0 (by omega)
        rw [hh] at hq
        exact hm hq
    · unfold Mod_nameHere
      exact nh_out h hC h1 h2 9 0 FU (by omega) (by unfold FU; omega)
  · refine ⟨9, Nat.le_refl _, fun _ => rfl, fun i hi => ?_, ?_⟩
    · rw [E_isNamed h hi h1 h2 hk, if_neg (fun hh => e hh.1), if_neg (by omega)]
    · rw [if_neg (by omega)]
      exact nh_not (fun hh => e ((nI_eq (b := 1) (by omega) (by omega)).mp hh)) _ _ _
end NAME
