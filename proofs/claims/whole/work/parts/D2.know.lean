theorem lw_rd {s : State} {b : Addr} (hts : ∀ w ∈ lw_tbl, w.before #[Value.ref b] s = true) (i : Nat) {w : Cond} (h : lw_tbl[i]? = some w) : w.before #[Value.ref b] s = true := hts w (List.mem_of_getElem? h)
theorem lw_arr {s : State} {b : Addr} {ty : FieldType} (h : (Cond.arrayClass ty).before #[Value.ref b] s = true) : ∃ cA, ArrOfT s cA ty ∧ s.vm.findClass ("[" ++ ty.toString) = some cA := by
  obtain ⟨cA, kA, comp, h1, h2, h3⟩ := Cond.arrayClass_spec h
  exact ⟨cA, fun n z => ⟨fun k h => (by cases h), kA, h2, comp, h3⟩, h1⟩
theorem lw_arq {s : State} {b : Addr} {C : String} (h : (Cond.arrayOver (.object C)).before #[Value.ref b] s = true) : ∃ cA, ArrOfT s cA (.object C) ∧ va_RA s cA (.object C) := by
  obtain ⟨comp, cA, kA, h1, h2, h3, h4, h5⟩ := Cond.arrayOver_spec h
  exact ⟨cA, fun n z => ⟨fun k h => (by cases h), kA, h3, comp, h4⟩, kA, comp, h3, h4, h1, h5⟩
set_option maxRecDepth 100000 in
theorem lw_K {s : State} {b : Addr} (hts : ∀ w ∈ lw_tbl, w.before #[Value.ref b] s = true) : ∃ (D : va_G) (cI cB cZ cS cT : ClassId), va_K D vwCl (tys5 cI cB cZ cS cT) s := by
  obtain ⟨c0, i0, k0⟩ := u_known (C := RX0) (T := TX0) (N := 4) (n := 4) hts lwi_wsX00 (lw_rd hts 246 (w := .instantiable RX0 4) (by decide +kernel))
  obtain ⟨c1, i1, k1⟩ := u_known (C := RX1) (T := TX1) (N := 5) (n := 5) hts lwi_wsX10 (lw_rd hts 268 (w := .instantiable RX1 5) (by decide +kernel))
  obtain ⟨c2, i2, k2⟩ := u_known (C := RX2) (T := TX2) (N := 9) (n := 9) hts lwi_wsX20 (lw_rd hts 77 (w := .instantiable RX2 9) (by decide +kernel))
  obtain ⟨c3, i3, k3⟩ := u_known (C := RX3) (T := TX3) (N := 2) (n := 2) hts lwi_wsX30 (lw_rd hts 208 (w := .instantiable RX3 2) (by decide +kernel))
  obtain ⟨c4, i4, k4⟩ := u_known (C := RX4) (T := TX4) (N := 5) (n := 5) hts lwi_wsX40 (lw_rd hts 200 (w := .instantiable RX4 5) (by decide +kernel))
  obtain ⟨c5, i5, k5⟩ := u_known (C := RX5) (T := TX5) (N := 3) (n := 3) hts lwi_wsX50 (lw_rd hts 296 (w := .instantiable RX5 3) (by decide +kernel))
  obtain ⟨c6, i6, k6⟩ := u_known (C := RX6) (T := TX6) (N := 2) (n := 2) hts lwi_wsX60 (lw_rd hts 83 (w := .instantiable RX6 2) (by decide +kernel))
  obtain ⟨c7, i7, k7⟩ := u_known (C := RX7) (T := TX7) (N := 10) (n := 10) hts lwi_wsX70 (lw_rd hts 100 (w := .instantiable RX7 10) (by decide +kernel))
  obtain ⟨c8, i8, k8⟩ := u_known (C := RX8) (T := TX8) (N := 12) (n := 12) hts lwi_wsX80 (lw_rd hts 69 (w := .instantiable RX8 12) (by decide +kernel))
  obtain ⟨c9, i9, k9⟩ := u_known (C := RX9) (T := TX9) (N := 34) (n := 34) hts lwi_wsX90 (lw_rd hts 909 (w := .instantiable RX9 34) (by decide +kernel))
  obtain ⟨cI, aI, fI⟩ := lw_arr (ty := .int) (lw_rd hts 164 (by decide +kernel))
  obtain ⟨cB, aB, fB⟩ := lw_arr (ty := .byte) (lw_rd hts 98 (by decide +kernel))
  obtain ⟨cZ, aZ, fZ⟩ := lw_arr (ty := .boolean) (lw_rd hts 223 (by decide +kernel))
  obtain ⟨cS, aS, fS⟩ := lw_arq (C := "LetsIn$Sheet") (lw_rd hts 295 (by decide +kernel))
  obtain ⟨cT, aT, fT⟩ := lw_arq (C := "LetsIn$Town") (lw_rd hts 198 (by decide +kernel))
  refine ⟨(fun k => match k with | 0 => c0 | 1 => c1 | 2 => c2 | 3 => c3 | 4 => c4 | 5 => c5 | 6 => c6 | 7 => c7 | 8 => c8 | _ => c9, fun k => match k with | 0 => i0 | 1 => i1 | 2 => i2 | 3 => i3 | 4 => i4 | 5 => i5 | 6 => i6 | 7 => i7 | 8 => i8 | _ => i9), cI, cB, cZ, cS, cT, ?_, ?_⟩
  · intro k q hq
    match k, hq with
    | 0, hq => cases hq; exact k0
    | 1, hq => cases hq; exact k1
    | 2, hq => cases hq; exact k2
    | 3, hq => cases hq; exact k3
    | 4, hq => cases hq; exact k4
    | 5, hq => cases hq; exact k5
    | 6, hq => cases hq; exact k6
    | 7, hq => cases hq; exact k7
    | 8, hq => cases hq; exact k8
    | 9, hq => cases hq; exact k9
    | k + 10, hq => exact absurd (List.getElem?_eq_some_iff.mp hq).1 (by simp)
  · intro k q hq
    match k, hq with
    | 0, hq => cases hq; exact ⟨aI, fI⟩
    | 1, hq => cases hq; exact ⟨aB, fB⟩
    | 2, hq => cases hq; exact ⟨aZ, fZ⟩
    | 3, hq => cases hq; exact ⟨aS, fS⟩
    | 4, hq => cases hq; exact ⟨aT, fT⟩
    | k + 5, hq => exact absurd (List.getElem?_eq_some_iff.mp hq).1 (by simp)
theorem lw_NX {s : State} {b : Addr} (hts : ∀ w ∈ lw_tbl, w.before #[Value.ref b] s = true) : NX s := by
  refine ⟨fun i q hq => ?_, va_AO.of (lw_rd hts 198 (by decide +kernel)), va_AO.of (lw_rd hts 295 (by decide +kernel))⟩
  match i, hq with
  | 0, hq => cases hq; exact va_Nw.of (A := #[Value.ref b]) rfl (lw_rd hts 78 (by decide +kernel))
  | 1, hq => cases hq; exact va_Nw.of (A := #[Value.ref b]) rfl (lw_rd hts 197 (by decide +kernel))
  | 2, hq => cases hq; exact va_Nw.of (A := #[Value.ref b]) rfl (lw_rd hts 201 (by decide +kernel))
  | 3, hq => cases hq; exact va_Nw.of (A := #[Value.ref b]) rfl (lw_rd hts 247 (by decide +kernel))
  | 4, hq => cases hq; exact va_Nw.of (A := #[Value.ref b]) rfl (lw_rd hts 269 (by decide +kernel))
  | 5, hq => cases hq; exact va_Nw.of (A := #[Value.ref b]) rfl (lw_rd hts 293 (by decide +kernel))
  | 6, hq => cases hq; exact va_Nw.of (A := #[Value.ref b]) rfl (lw_rd hts 297 (by decide +kernel))
  | 7, hq => cases hq; exact va_Nw.of (A := #[Value.ref b]) rfl (lw_rd hts 274 (by decide +kernel))
  | 8, hq => cases hq; exact va_Nw.of (A := #[Value.ref b]) rfl (lw_rd hts 84 (by decide +kernel))
  | 9, hq => cases hq; exact va_Nw.of (A := #[Value.ref b]) rfl (lw_rd hts 101 (by decide +kernel))
  | 10, hq => cases hq; exact va_Nw.of (A := #[Value.ref b]) rfl (lw_rd hts 206 (by decide +kernel))
  | 11, hq => cases hq; exact va_Nw.of (A := #[Value.ref b]) rfl (lw_rd hts 209 (by decide +kernel))
  | k + 12, hq => exact absurd (List.getElem?_eq_some_iff.mp hq).1 (by simp [nxM])
