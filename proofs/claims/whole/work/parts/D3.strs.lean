abbrev fxs : List Cond := flatC (Jvm.Cond.and given_1 narrow_1)
theorem fx_n : ∀ i, i < 9 → sxL.getD i 0 < 2 ^ 31 := by decide
set_option maxRecDepth 100000 in
theorem fx_ex : ∀ i, i < 9 → Cond.exactly (Term.string RX2 (sxP.getD i 0)) "java/lang/String" ∈ fxs := by decide +kernel
set_option maxRecDepth 100000 in
theorem fx_co : ∀ i, i < 9 → Cond.eq (.field (Term.string RX2 (sxP.getD i 0)) "java/lang/String" "coder" "B") (.int 0) ∈ fxs := by decide +kernel
set_option maxRecDepth 100000 in
theorem fx_ar : ∀ i, i < 9 → Cond.arrayOf (Term.field (Term.string RX2 (sxP.getD i 0)) "java/lang/String" "value" "[B") .byte ∈ fxs := by decide +kernel
set_option maxRecDepth 100000 in
theorem fx_le : ∀ i, i < 9 → Cond.eq (.length (Term.field (Term.string RX2 (sxP.getD i 0)) "java/lang/String" "value" "[B")) (.int (Int32.ofNat (sxL.getD i 0))) ∈ fxs := by decide +kernel
set_option maxRecDepth 100000 in
theorem fx_el : ∀ i, i < 9 → ∀ j, j < sxL.getD i 0 → Cond.eq (.elem (Term.field (Term.string RX2 (sxP.getD i 0)) "java/lang/String" "value" "[B") (.int (Int32.ofNat j))) (.int ((sxB.getD i []).getD j 0)) ∈ fxs := by decide +kernel
set_option maxRecDepth 100000 in
theorem fx_ne : ∀ i, i < 9 → ∀ j, j < 9 → i ≠ j → Cond.not (Cond.eq (Term.string RX2 (sxP.getD i 0)) (Term.string RX2 (sxP.getD j 0))) ∈ fxs ∨ Cond.not (Cond.eq (Term.string RX2 (sxP.getD j 0)) (Term.string RX2 (sxP.getD i 0))) ∈ fxs := by decide +kernel
set_option maxRecDepth 100000 in
theorem fx_c1 : Cond.eq (.static "java/lang/String" "COMPACT_STRINGS" "Z") (.int 1) ∈ fxs := by decide +kernel
set_option maxRecDepth 100000 in
theorem fx_c2 : Cond.isRef (.static "jdk/internal/util/Preconditions" "SIOOBE_FORMATTER" "Ljava/util/function/BiFunction;") ∈ fxs := by decide +kernel
def sxI : List Nat := [398, 463, 468, 486, 481, 482, 483, 484, 485]
set_option maxRecDepth 100000 in
theorem fx_sr : ∀ i, i < 9 → lw_tbl[sxI.getD i 0]? = some (Cond.stringRef RX2 (sxP.getD i 0) (sxT.getD i "")) := by decide +kernel
theorem lw_SX {s : State} {b : Addr} (hts : ∀ w ∈ lw_tbl, w.before #[Value.ref b] s = true) {A : Nat → Prop} (hgv : (Jvm.Cond.and given_1 narrow_1).before #[Value.ref b] s = true) (hA : ∀ a : Nat, a < s.heap.size → ¬ A a) : ∃ kK kV : Nat → Nat, SX kK kV A s s.heap := by
  have hs := flat_of_before _ hgv
  obtain ⟨kK, kV, h1, h2⟩ := vk_Sof (args := #[Value.ref b]) (s := s) (N := 9) (tm := fun i => .string RX2 (sxP.getD i 0)) (len := sxL) (byt := sxB) (A := A) fx_n (fun i hi => hs _ (fx_ex i hi)) (fun i hi => hs _ (fx_co i hi)) (fun i hi => hs _ (fx_ar i hi)) (fun i hi => hs _ (fx_le i hi)) (fun i hi j hj => hs _ (fx_el i hi j hj)) (fun i j hi hj hij => (fx_ne i hi j hj hij).imp (hs _) (hs _)) hA
  exact ⟨kK, kV, h1, fun i hi => vk_R.of (A := #[Value.ref b]) (lw_rd hts _ (fx_sr i hi)) (h2 i hi), va_Zof (lw_rd hts 412 (by decide +kernel)) (lw_rd hts 62 (by decide +kernel)) (va_eqt (hs _ fx_c1)) hA, va_Zqof (lw_rd hts 428 (by decide +kernel)) (lw_rd hts 64 (by decide +kernel)) (hs _ fx_c2) hA⟩
