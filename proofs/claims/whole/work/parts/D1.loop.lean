theorem lw_go {L i : Nat} (hL : L ≤ 2560) (hi : i ≤ L) (h : ¬ Int32.ofNat L - 5 < nI i) : i + 5 ≤ L := by
  have e : (Int32.ofNat L - 5).toInt = (L : Int) - 5 := by
    have h5 : (5 : Int32).toInt = 5 := by decide
    have hl : (Int32.ofNat L).toInt = (L : Int) := nI_toInt (n := L) (by omega)
    rw [Int32.toInt_sub, hl, h5]
    exact Int.bmod_eq_of_le (by omega) (by omega)
  rw [Int32.lt_iff_toInt_lt, e, nI_toInt (by omega)] at h
  omega
set_option maxHeartbeats 8000000 in
set_option maxRecDepth 100000 in
/-- the law's loop, from its head -/
theorem law_loop {p : Program} {l : Launch} {e : Env} {s : State} {m : MethodId} {below : List Frame} {meth : Method} {c : Code} {b L : Nat} {xs : Nat → Int32} {A : Nat → Prop} {D : va_G} {cI cB cZ cS cT : ClassId} {q8 q9 : Nat} {Q : State → Prop} {kK kV : Nat → Nat} (hx : p.tables.exec = Jvm.exec) (hb : c.code = cL_law) (hml : c.maxLocals = 4) (hown : s.vm.findClass RL = some m.cls) (hts : ∀ w ∈ wsL_law, w.before #[Value.ref b] s = true) (hX : va_X b L xs s s.heap) (hbl : b < s.heap.size) (hbA : ¬ A b) (hA : ∀ q : Nat, s.heap.size ≤ q → A q) (hL : L ≤ 2560) (hK : va_K D vwCl (tys5 cI cB cZ cS cT) s) (hXS : SX kK kV A s s.heap)
    (kend : ∀ (H : Heap) (locs : List Loc) (ls : Array Slot), va_S A s.heap H locs → W p l e room_1 s m #[Value.ref b] below meth c H locs 88 2934 Q (F0 m 1374 ls [])) :
    ∀ (n i B : Nat), i ≤ L → L + 1 ≤ i + n → B ≤ 1000 * i + 50 → ∀ (w8 w9 : va_W), LV cI cB cZ cS cT q8 q9 B w8 w9 → ∀ (H : Heap) (locs : List Loc), va_P D vwCl (w8 ++ w9) H → va_D A (w8 ++ w9) → va_S A s.heap H locs → ∀ ls : Array Slot, lv_has ls 4 [(0, .ref b), (1, .ref q8), (2, .ref q9), (3, .int (nI i))] → W p l e room_1 s m #[Value.ref b] below meth c H locs 88 2934 Q (F0 m 18 ls []) := by
  intro n
  induction n with
  | zero =>
    intro i B h1 h2
    exact absurd h2 (by omega)
  | succ n ih =>
    intro i B hi hin hBi w8 w9 hV H locs hP hD hS ls hl
    refine lv_iload_n hx hb dL_law_18 rfl (lv_at hl 3 rfl) ?_
    refine lv_aload_n hx hb dL_law_19 rfl (lv_at hl 0 rfl) ?_
    refine va_slen hx hb hX hbl hbA hS dL_law_20 ?_
    refine lv_iconst (v := 5) hx hb dL_law_21 (by decide) ?_
    refine lv_isub hx hb dL_law_22 ?_
    refine lv_icmp_gt (tgt := 1374) hx hb dL_law_23 (by decide) (fun _ => kend _ _ _ hS) (fun hgo => ?_)
    have hi5 : i + 5 ≤ L := lw_go hL hi hgo
    have hB : B < 2 ^ 30 := by omega
    have h0 : vp_in (nI i) L := vp_in_nI (by omega) (by omega)
    refine lv_aload_n hx hb dL_law_26 rfl (lv_at hl 0 rfl) ?_
    refine lv_iload_n hx hb dL_law_27 rfl (lv_at hl 3 rfl) ?_
    refine va_sld hx hb hX hbl hbA hS h0 dL_law_28 ?_
    refine lv_bipush (v := 63) hx hb dL_law_29 (by decide) ?_
    refine lv_iand hx hb dL_law_31 ?_
    refine lv_topi (fun x _ => ?_)
    have K : ∀ B2 : Nat, B2 ≤ B + 1000 → ∀ (w8 w9 : va_W) (H : Heap) (locs : List Loc), LV cI cB cZ cS cT q8 q9 B2 w8 w9 → va_P D vwCl (w8 ++ w9) H → va_D A (w8 ++ w9) → va_S A s.heap H locs → W p l e room_1 s m #[Value.ref b] below meth c H locs 88 2934 Q (F0 m 1368 ls []) := by
      intro B2 hB2 w8 w9 H locs hV hP hD hS
      refine lv_iinc (v := nI (i + 5)) (lv' := [(3, .int (nI (i + 5))), (0, .ref b), (1, .ref q8), (2, .ref q9)]) hx hb dL_law_1368 hl (k := 3) rfl (nI_add i 5) (by decide) rfl (fun ls hl => ?_)
      refine lv_goto (tgt := 18) hx hb dL_law_1371 (by decide) ?_
      exact ih (i + 5) B2 hi5 (by omega) (by omega) w8 w9 hV H locs hP hD hS ls (lv_sub hl [1, 2, 3, 0] rfl)
    by_cases h1 : x.toInt < 0
    · exact lv_tableOut (tgt := 1368) hx hb dL_law_32 (Or.inl h1) (by decide) (K B (by omega) w8 w9 H locs hV hP hD hS)
    by_cases h2 : 39 < x.toInt
    · exact lv_tableOut (tgt := 1368) hx hb dL_law_32 (Or.inr h2) (by decide) (K B (by omega) w8 w9 H locs hV hP hD hS)
    have K2 := K (B + 1000) (Nat.le_refl _)
    obtain ⟨z, hz⟩ : ∃ z : Nat, x.toInt = (z : Int) := ⟨x.toInt.toNat, by omega⟩
    have hz2 : z < 40 := by omega
    rw [hz] at h1 h2
    clear K ih
    match z, hz, hz2, h1, h2 with
    | 0, hz, _, h1, h2 =>
      refine lv_tableIn (off := 176) (tgt := 208) hx hb dL_law_32 (by rw [hz]; decide) (by rw [hz]; decide) (by rw [hz]; rfl) (by decide) ?_
      exact lk_feed hx hb hml hown hts hX hbl hbA hA hL hi5 hK hV hB hP hD hS hl K2
    | 1, hz, _, h1, h2 =>
      refine lv_tableIn (off := 229) (tgt := 261) hx hb dL_law_32 (by rw [hz]; decide) (by rw [hz]; decide) (by rw [hz]; rfl) (by decide) ?_
      exact lk_end hx hb hml hown hts hX hbl hbA hA hL hi5 hK hV hB hP hD hS hl K2
    | 2, hz, _, h1, h2 =>
      refine lv_tableIn (off := 252) (tgt := 284) hx hb dL_law_32 (by rw [hz]; decide) (by rw [hz]; decide) (by rw [hz]; rfl) (by decide) ?_
      exact lk_town hx hb hml hown hts hX hbl hbA hA hL hi5 hK hXS hV hB hP hD hS hl K2
    | 3, hz, _, h1, h2 =>
      refine lv_tableIn (off := 265) (tgt := 297) hx hb dL_law_32 (by rw [hz]; decide) (by rw [hz]; decide) (by rw [hz]; rfl) (by decide) ?_
      exact lk_fault hx hb hml hown hts hX hbl hbA hA hL hi5 hK hV hB hP hD hS hl K2
    | 4, hz, _, h1, h2 =>
      refine lv_tableIn (off := 278) (tgt := 310) hx hb dL_law_32 (by rw [hz]; decide) (by rw [hz]; decide) (by rw [hz]; rfl) (by decide) ?_
      exact lk_rule hx hb hml hown hts hX hbl hbA hA hL hi5 hK hV hB hP hD hS hl K2
    | 5, hz, _, h1, h2 =>
      refine lv_tableIn (off := 301) (tgt := 333) hx hb dL_law_32 (by rw [hz]; decide) (by rw [hz]; decide) (by rw [hz]; rfl) (by decide) ?_
      exact lk_one hx hb hml hown hts hX hbl hbA hA hL hi5 hK hV hB hP hD hS hl K2
    | 6, hz, _, h1, h2 =>
      refine lv_tableIn (off := 334) (tgt := 366) hx hb dL_law_32 (by rw [hz]; decide) (by rw [hz]; decide) (by rw [hz]; rfl) (by decide) ?_
      exact lk_owes hx hb hml hown hts hX hbl hbA hA hL hi5 hK hV hB hP hD hS hl K2
    | 7, hz, _, h1, h2 =>
      refine lv_tableIn (off := 367) (tgt := 399) hx hb dL_law_32 (by rw [hz]; decide) (by rw [hz]; decide) (by rw [hz]; rfl) (by decide) ?_
      exact lk_must hx hb hml hown hts hX hbl hbA hA hL hi5 hK hV hB hP hD hS hl K2
    | 8, hz, _, h1, h2 =>
      refine lv_tableIn (off := 400) (tgt := 432) hx hb dL_law_32 (by rw [hz]; decide) (by rw [hz]; decide) (by rw [hz]; rfl) (by decide) ?_
      exact lk_law hx hb hml hown hts hX hbl hbA hA hL hi5 hK hV hB hP hD hS hl K2
    | 9, hz, _, h1, h2 =>
      refine lv_tableIn (off := 423) (tgt := 455) hx hb dL_law_32 (by rw [hz]; decide) (by rw [hz]; decide) (by rw [hz]; rfl) (by decide) ?_
      exact lk_counters hx hb hml hown hts hX hbl hbA hA hL hi5 hK hV hB hP hD hS hl K2
    | 10, hz, _, h1, h2 =>
      refine lv_tableIn (off := 446) (tgt := 478) hx hb dL_law_32 (by rw [hz]; decide) (by rw [hz]; decide) (by rw [hz]; rfl) (by decide) ?_
      exact lk_comes hx hb hml hown hts hX hbl hbA hA hL hi5 hK hV hB hP hD hS hl K2
    | 11, hz, _, h1, h2 =>
      refine lv_tableIn (off := 479) (tgt := 511) hx hb dL_law_32 (by rw [hz]; decide) (by rw [hz]; decide) (by rw [hz]; rfl) (by decide) ?_
      exact lk_debt hx hb hml hown hts hX hbl hbA hA hL hi5 hK hV hB hP hD hS hl K2
    | 12, hz, _, h1, h2 =>
      refine lv_tableIn (off := 522) (tgt := 554) hx hb dL_law_32 (by rw [hz]; decide) (by rw [hz]; decide) (by rw [hz]; rfl) (by decide) ?_
      exact lk_pay hx hb hml hown hts hX hbl hbA hA hL hi5 hK hV hB hP hD hS hl K2
    | 13, hz, _, h1, h2 =>
      refine lv_tableIn (off := 555) (tgt := 587) hx hb dL_law_32 (by rw [hz]; decide) (by rw [hz]; decide) (by rw [hz]; rfl) (by decide) ?_
      exact lk_lend hx hb hml hown hts hX hbl hbA hA hL hi5 hK hV hB hP hD hS hl K2
    | 14, hz, _, h1, h2 =>
      refine lv_tableIn (off := 598) (tgt := 630) hx hb dL_law_32 (by rw [hz]; decide) (by rw [hz]; decide) (by rw [hz]; rfl) (by decide) ?_
      exact lk_sell hx hb hml hown hts hX hbl hbA hA hL hi5 hK hV hB hP hD hS hl K2
    | 15, hz, _, h1, h2 =>
      refine lv_tableIn (off := 641) (tgt := 673) hx hb dL_law_32 (by rw [hz]; decide) (by rw [hz]; decide) (by rw [hz]; rfl) (by decide) ?_
      exact lk_served hx hb hml hown hts hX hbl hbA hA hL hi5 hK hV hB hP hD hS hl K2
    | 16, hz, _, h1, h2 =>
      refine lv_tableIn (off := 664) (tgt := 696) hx hb dL_law_32 (by rw [hz]; decide) (by rw [hz]; decide) (by rw [hz]; rfl) (by decide) ?_
      exact lk_waits hx hb hml hown hts hX hbl hbA hA hL hi5 hK hV hB hP hD hS hl K2
    | 17, hz, _, h1, h2 =>
      refine lv_tableIn (off := 687) (tgt := 719) hx hb dL_law_32 (by rw [hz]; decide) (by rw [hz]; decide) (by rw [hz]; rfl) (by decide) ?_
      exact lk_place hx hb hml hown hts hX hbl hbA hA hL hi5 hK hV hB hP hD hS hl K2
    | 18, hz, _, h1, h2 =>
      refine lv_tableIn (off := 720) (tgt := 752) hx hb dL_law_32 (by rw [hz]; decide) (by rw [hz]; decide) (by rw [hz]; rfl) (by decide) ?_
      exact lk_row hx hb hml hown hts hX hbl hbA hA hL hi5 hK hV hB hP hD hS hl K2
    | 19, hz, _, h1, h2 =>
      refine lv_tableIn (off := 753) (tgt := 785) hx hb dL_law_32 (by rw [hz]; decide) (by rw [hz]; decide) (by rw [hz]; rfl) (by decide) ?_
      exact lk_all hx hb hml hown hts hX hbl hbA hA hL hi5 hK hV hB hP hD hS hl K2
    | 20, hz, _, h1, h2 =>
      refine lv_tableIn (off := 776) (tgt := 808) hx hb dL_law_32 (by rw [hz]; decide) (by rw [hz]; decide) (by rw [hz]; rfl) (by decide) ?_
      exact lk_poor hx hb hml hown hts hX hbl hbA hA hL hi5 hK hV hB hP hD hS hl K2
    | 21, hz, _, h1, h2 =>
      refine lv_tableIn (off := 809) (tgt := 841) hx hb dL_law_32 (by rw [hz]; decide) (by rw [hz]; decide) (by rw [hz]; rfl) (by decide) ?_
      exact lk_stands hx hb hml hown hts hX hbl hbA hA hL hi5 hK hV hB hP hD hS hl K2
    | 22, hz, _, h1, h2 =>
      refine lv_tableIn (off := 832) (tgt := 864) hx hb dL_law_32 (by rw [hz]; decide) (by rw [hz]; decide) (by rw [hz]; rfl) (by decide) ?_
      exact lk_order hx hb hml hown hts hX hbl hbA hA hL hi5 hK hV hB hP hD hS hl K2
    | 23, hz, _, h1, h2 =>
      refine lv_tableIn (off := 855) (tgt := 887) hx hb dL_law_32 (by rw [hz]; decide) (by rw [hz]; decide) (by rw [hz]; rfl) (by decide) ?_
      exact lk_rings hx hb hml hown hts hX hbl hbA hA hL hi5 hK hV hB hP hD hS hl K2
    | 24, hz, _, h1, h2 =>
      refine lv_tableIn (off := 868) (tgt := 900) hx hb dL_law_32 (by rw [hz]; decide) (by rw [hz]; decide) (by rw [hz]; rfl) (by decide) ?_
      exact lk_shop hx hb hml hown hts hX hbl hbA hA hL hi5 hK hV hB hP hD hS hl K2
    | 25, hz, _, h1, h2 =>
      refine lv_tableIn (off := 891) (tgt := 923) hx hb dL_law_32 (by rw [hz]; decide) (by rw [hz]; decide) (by rw [hz]; rfl) (by decide) ?_
      exact lk_clear hx hb hml hown hts hX hbl hbA hA hL hi5 hK hV hB hP hD hS hl K2
    | 26, hz, _, h1, h2 =>
      refine lv_tableIn (off := 934) (tgt := 966) hx hb dL_law_32 (by rw [hz]; decide) (by rw [hz]; decide) (by rw [hz]; rfl) (by decide) ?_
      exact lk_door hx hb hml hown hts hX hbl hbA hA hL hi5 hK hV hB hP hD hS hl K2
    | 27, hz, _, h1, h2 =>
      refine lv_tableIn (off := 967) (tgt := 999) hx hb dL_law_32 (by rw [hz]; decide) (by rw [hz]; decide) (by rw [hz]; rfl) (by decide) ?_
      exact lk_buy hx hb hml hown hts hX hbl hbA hA hL hi5 hK hV hB hP hD hS hl K2
    | 28, hz, _, h1, h2 =>
      refine lv_tableIn (off := 1000) (tgt := 1032) hx hb dL_law_32 (by rw [hz]; decide) (by rw [hz]; decide) (by rw [hz]; rfl) (by decide) ?_
      exact lk_see hx hb hml hown hts hX hbl hbA hA hL hi5 hK hV hB hP hD hS hl K2
    | 29, hz, _, h1, h2 =>
      refine lv_tableIn (off := 1023) (tgt := 1055) hx hb dL_law_32 (by rw [hz]; decide) (by rw [hz]; decide) (by rw [hz]; rfl) (by decide) ?_
      exact lk_forget hx hb hml hown hts hX hbl hbA hA hL hi5 hK hV hB hP hD hS hl K2
    | 30, hz, _, h1, h2 =>
      refine lv_tableIn (off := 1036) (tgt := 1068) hx hb dL_law_32 (by rw [hz]; decide) (by rw [hz]; decide) (by rw [hz]; rfl) (by decide) ?_
      exact lk_told hx hb hml hown hts hX hbl hbA hA hL hi5 hK hV hB hP hD hS hl K2
    | 31, hz, _, h1, h2 =>
      refine lv_tableIn (off := 1069) (tgt := 1101) hx hb dL_law_32 (by rw [hz]; decide) (by rw [hz]; decide) (by rw [hz]; rfl) (by decide) ?_
      exact lk_judge hx hb hml hown hts hX hbl hbA hA hL hi5 hK hV hB hP hD hS hl K2
    | 32, hz, _, h1, h2 =>
      refine lv_tableIn (off := 1082) (tgt := 1114) hx hb dL_law_32 (by rw [hz]; decide) (by rw [hz]; decide) (by rw [hz]; rfl) (by decide) ?_
      exact lk_day hx hb hml hown hts hX hbl hbA hA hL hi5 hK hV hB hP hD hS hl K2
    | 33, hz, _, h1, h2 =>
      refine lv_tableIn (off := 1115) (tgt := 1147) hx hb dL_law_32 (by rw [hz]; decide) (by rw [hz]; decide) (by rw [hz]; rfl) (by decide) ?_
      exact lk_keep hx hb hml hown hts hX hbl hbA hA hL hi5 hK hV hB hP hD hS hl K2
    | 34, hz, _, h1, h2 =>
      refine lv_tableIn (off := 1138) (tgt := 1170) hx hb dL_law_32 (by rw [hz]; decide) (by rw [hz]; decide) (by rw [hz]; rfl) (by decide) ?_
      exact lk_back hx hb hml hown hts hX hbl hbA hA hL hi5 hK hV hB hP hD hS hl K2
    | 35, hz, _, h1, h2 =>
      refine lv_tableIn (off := 1161) (tgt := 1193) hx hb dL_law_32 (by rw [hz]; decide) (by rw [hz]; decide) (by rw [hz]; rfl) (by decide) ?_
      exact lk_sheet hx hb hml hown hts hX hbl hbA hA hL hi5 hK hV hB hP hD hS hl K2
    | 36, hz, _, h1, h2 =>
      refine lv_tableIn (off := 1204) (tgt := 1236) hx hb dL_law_32 (by rw [hz]; decide) (by rw [hz]; decide) (by rw [hz]; rfl) (by decide) ?_
      exact lk_lay hx hb hml hown hts hX hbl hbA hA hL hi5 hK hV hB hP hD hS hl K2
    | 37, hz, _, h1, h2 =>
      refine lv_tableIn (off := 1247) (tgt := 1279) hx hb dL_law_32 (by rw [hz]; decide) (by rw [hz]; decide) (by rw [hz]; rfl) (by decide) ?_
      exact lk_read hx hb hml hown hts hX hbl hbA hA hL hi5 hK hV hB hP hD hS hl K2
    | 38, hz, _, h1, h2 =>
      refine lv_tableIn (off := 1300) (tgt := 1332) hx hb dL_law_32 (by rw [hz]; decide) (by rw [hz]; decide) (by rw [hz]; rfl) (by decide) ?_
      exact lk_torn hx hb hml hown hts hX hbl hbA hA hL hi5 hK hV hB hP hD hS hl K2
    | 39, hz, _, h1, h2 =>
      refine lv_tableIn (off := 1313) (tgt := 1345) hx hb dL_law_32 (by rw [hz]; decide) (by rw [hz]; decide) (by rw [hz]; rfl) (by decide) ?_
      exact lk_count hx hb hml hown hts hX hbl hbA hA hL hi5 hK hV hB hP hD hS hl K2
    | z + 40, hz, hz2, _, _ => exact absurd hz2 (by omega)
