/-! plain facts: ints of 32 bits, reads and writes at known places -/
theorem t32_lt {a b : Int32} : a < b ↔ a.toInt < b.toInt := Int32.lt_iff_toInt_lt
theorem t32_le {a b : Int32} : a ≤ b ↔ a.toInt ≤ b.toInt := Int32.le_iff_toInt_le
theorem t32_eq {a b : Int32} : a = b ↔ a.toInt = b.toInt := Int32.toInt_inj.symm
theorem t32_rng (a : Int32) : -2147483648 ≤ a.toInt ∧ a.toInt < 2147483648 := ⟨by have := Int32.le_toInt a; omega, by have := Int32.toInt_lt a; omega⟩
theorem t32_add {a b : Int32} (h1 : -2147483648 ≤ a.toInt + b.toInt) (h2 : a.toInt + b.toInt < 2147483648) : (a + b).toInt = a.toInt + b.toInt := by
  rw [Int32.toInt_add]
  exact Int.bmod_eq_of_le (by omega) (by omega)
theorem t32_sub {a b : Int32} (h1 : -2147483648 ≤ a.toInt - b.toInt) (h2 : a.toInt - b.toInt < 2147483648) : (a - b).toInt = a.toInt - b.toInt := by
  rw [Int32.toInt_sub]
  exact Int.bmod_eq_of_le (by omega) (by omega)
theorem t32_mul {a b : Int32} (h1 : -2147483648 ≤ a.toInt * b.toInt) (h2 : a.toInt * b.toInt < 2147483648) : (a * b).toInt = a.toInt * b.toInt := by
  rw [Int32.toInt_mul]
  exact Int.bmod_eq_of_le (by omega) (by omega)
theorem rdA_nI {α : Type} {f : Nat → Int32} {n j : Nat} {k : Int32 → Option α} (h : j < n) (hn : n < 2 ^ 31) : rdA f n (nI j) k = k (f j) := by
  unfold rdA
  rw [if_neg (show ¬ (nI j < 0 ∨ n ≤ (nI j).toNatClampNeg) from vp_in_nI h hn), nI_clamp (by omega)]
theorem wrA_nI {α : Type} {f : Nat → Int32} {n j : Nat} {x : Int32} {k : (Nat → Int32) → Option α} (h : j < n) (hn : n < 2 ^ 31) : wrA f n (nI j) x k = k (upd f j x) := by
  unfold wrA
  rw [if_neg (show ¬ (nI j < 0 ∨ n ≤ (nI j).toNatClampNeg) from vp_in_nI h hn), nI_clamp (by omega)]
theorem upd_s {f : Nat → Int32} {k : Nat} {x : Int32} : upd f k x k = x := pk_us
theorem upd_n {f : Nat → Int32} {k j : Nat} {x : Int32} (h : j ≠ k) : upd f k x j = f j := pk_un h
theorem upd_if {f : Nat → Int32} {k j : Nat} {x : Int32} : upd f k x j = if j = k then x else f j := by
  by_cases h : j = k
  · subst h; rw [upd_s, if_pos rfl]
  · rw [upd_n h, if_neg h]
/-- small numbers as numbers of ours -/
theorem nL0 : (0 : Int32) = nI 0 := rfl
theorem nL1 : (1 : Int32) = nI 1 := rfl
theorem nL2 : (2 : Int32) = nI 2 := rfl
theorem nL3 : (3 : Int32) = nI 3 := rfl
theorem nL4 : (4 : Int32) = nI 4 := rfl
theorem nL5 : (5 : Int32) = nI 5 := rfl
theorem nL6 : (6 : Int32) = nI 6 := rfl
theorem nL7 : (7 : Int32) = nI 7 := rfl
theorem nL8 : (8 : Int32) = nI 8 := rfl
theorem nL42 : (42 : Int32) = nI 42 := rfl
theorem nL91 : (91 : Int32) = nI 91 := rfl
theorem nL92 : (92 : Int32) = nI 92 := rfl
theorem nL93 : (93 : Int32) = nI 93 := rfl
theorem nL282 : (282 : Int32) = nI 282 := rfl
theorem nL374 : (374 : Int32) = nI 374 := rfl
theorem nL375 : (375 : Int32) = nI 375 := rfl
theorem ix_debt (a b : Nat) : (42 + 7 * nI a) + nI b = nI (42 + 7 * a + b) := by rw [nL42, nL7, pk_mul, nI_add, nI_add]
theorem ix_owed (a b : Nat) : nI a * 7 + nI b = nI (7 * a + b) := by rw [nL7, pk_mul, nI_add, Nat.mul_comm a 7]
theorem nI_add0 (a : Nat) : nI a + 0 = nI a := by rw [nL0, nI_add, Nat.add_zero]
theorem i32_add0 (a : Int32) : a + 0 = a := by simp
theorem i32_0add (a : Int32) : 0 + a = a := by simp
theorem nI_m1 {n : Nat} (h : 0 < n) : nI n - 1 = nI (n - 1) := by
  obtain ⟨k, rfl⟩ : ∃ k, n = k + 1 := ⟨n - 1, by omega⟩
  exact nI_pred k
theorem nI_a1 (n : Nat) : nI n + 1 = nI (n + 1) := nI_1 n
theorem nI_am1 {n : Nat} (h : 0 < n) : nI n + (-1) = nI (n - 1) := sb_m1 h
theorem nI_le0 {n : Nat} (h : n < 2 ^ 31) : nI n ≤ 0 ↔ n = 0 := by
  rw [nL0, nI_leI h (by omega)]; omega
theorem nI_lt0 {n : Nat} (h : n < 2 ^ 31) : nI n < 0 ↔ False := by
  rw [nL0, nI_ltI h (by omega)]; simp
theorem nI_0lt {n : Nat} (h : n < 2 ^ 31) : 0 < nI n ↔ 0 < n := by
  rw [nL0, nI_ltI (by omega) h]
theorem nI_0le {n : Nat} (h : n < 2 ^ 31) : 0 ≤ nI n ↔ True := by
  rw [nL0, nI_leI (by omega) h]; simp
/-- an Int32 that is one of the first n: its number -/
theorem nI_cases {p : Int32} {N : Nat} (hN : N < 2 ^ 31) : (∃ j : Nat, j < N ∧ p = nI j) ∨ (p < 0 ∨ nI N ≤ p) := by
  rcases pk_ix p hN with h | h | h
  · exact Or.inr (Or.inl h)
  · exact Or.inr (Or.inr h)
  · exact Or.inl h
theorem FU_s : FU = 999 + 1 := rfl
/-- 64 bits -/
theorem t64_lt {a b : Int64} : a < b ↔ a.toInt < b.toInt := Int64.lt_iff_toInt_lt
theorem t64_le {a b : Int64} : a ≤ b ↔ a.toInt ≤ b.toInt := Int64.le_iff_toInt_le
theorem E_in (v lo hi : Int64) : Mod_in v lo hi = some (if lo ≤ v ∧ v ≤ hi then 1 else 0) := by
  unfold Mod_in
  by_cases h1 : v < lo
  · rw [if_pos ((lg_cmp_lt v lo).mpr h1), if_neg (by rw [t64_le]; rw [t64_lt] at h1; omega)]
  · rw [if_neg (fun h => h1 ((lg_cmp_lt v lo).mp h))]
    by_cases h2 : hi < v
    · rw [if_pos ((lg_cmp_gt v hi).mpr h2), if_neg (by rw [t64_le, t64_le]; rw [t64_lt] at h2; omega)]
    · rw [if_neg (fun h => h2 ((lg_cmp_gt v hi).mp h)), if_pos (by rw [t64_le, t64_le]; rw [t64_lt] at h1 h2; omega)]
theorem i64_le (a b : Int32) : a.toInt64 ≤ b.toInt64 ↔ a ≤ b := by
  rw [t64_le, t32_le]; simp
theorem E_in32 (v lo hi : Int32) : Mod_in v.toInt64 lo.toInt64 hi.toInt64 = some (if lo ≤ v ∧ v ≤ hi then 1 else 0) := by
  rw [E_in]; simp only [i64_le]
