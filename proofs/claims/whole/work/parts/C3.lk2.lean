section LWK
variable {p : Program} {l : Launch} {e : Env} {s : State} {m : MethodId} {below : List Frame} {meth : Method} {c : Code} {b L : Nat} {xs : Nat → Int32} {H : Heap} {locs : List Loc} {ls : Array Slot} {A : Nat → Prop} {D : va_G} {cI cB cZ cS cT : ClassId} {q8 q9 B i : Nat} {w8 w9 : va_W} {Q : State → Prop}
set_option maxHeartbeats 4000000 in
set_option maxRecDepth 100000 in
theorem lk_comes (hx : p.tables.exec = Jvm.exec) (hb : c.code = cL_law) (hml : c.maxLocals = 4) (hown : s.vm.findClass RL = some m.cls) (hts : ∀ w ∈ wsL_law, w.before #[Value.ref b] s = true) (hX : va_X b L xs s s.heap) (hbl : b < s.heap.size) (hbA : ¬ A b) (hA : ∀ q : Nat, s.heap.size ≤ q → A q) (hL : L ≤ 2560) (hi : i + 5 ≤ L) (hK : va_K D vwCl (tys5 cI cB cZ cS cT) s) (hV : LV cI cB cZ cS cT q8 q9 B w8 w9) (hB : B < 2 ^ 30) (hP : va_P D vwCl (w8 ++ w9) H) (hD : va_D A (w8 ++ w9)) (hS : va_S A s.heap H locs) (hl : lv_has ls 4 [(0, .ref b), (1, .ref q8), (2, .ref q9), (3, .int (nI i))])
    (kk : ∀ (w8' w9' : va_W) (H : Heap) (locs : List Loc), LV cI cB cZ cS cT q8 q9 (B + 1000) w8' w9' → va_P D vwCl (w8' ++ w9') H → va_D A (w8' ++ w9') → va_S A s.heap H locs → W p l e room_1 s m #[Value.ref b] below meth c H locs 88 2934 Q (F0 m 1368 ls [])) : W p l e room_1 s m #[Value.ref b] below meth c H locs 88 2934 Q (F0 m 478 ls []) := by
  have h1 : vp_in (nI i + 1) L := by
    rw [show nI i + 1 = nI (i + 1) from nI_add i 1]
    exact vp_in_nI (by omega) (by omega)
  have h2 : vp_in (nI i + 2) L := by
    rw [show nI i + 2 = nI (i + 2) from nI_add i 2]
    exact vp_in_nI (by omega) (by omega)
  obtain ⟨r, w8', w9', k8, k9, hV2⟩ := cs_comes (l := l) (D := D) hV hB (xs (nI i + 1).toNatClampNeg) (xs (nI i + 2).toNatClampNeg)
  refine lv_aload_n hx hb dL_law_478 rfl (lv_at hl 1 rfl) ?_
  refine lv_aload_n hx hb dL_law_479 rfl (lv_at hl 0 rfl) ?_
  refine lv_iload_n hx hb dL_law_480 rfl (lv_at hl 3 rfl) ?_
  refine lv_iconst (v := 1) hx hb dL_law_481 (by decide) ?_
  refine lv_iadd hx hb dL_law_482 ?_
  refine va_sld hx hb hX hbl hbA hS h1 dL_law_483 ?_
  refine lv_aload_n hx hb dL_law_484 rfl (lv_at hl 0 rfl) ?_
  refine lv_iload_n hx hb dL_law_485 rfl (lv_at hl 3 rfl) ?_
  refine lv_iconst (v := 2) hx hb dL_law_486 (by decide) ?_
  refine lv_iadd hx hb dL_law_487 ?_
  refine va_sld hx hb hX hbl hbA hS h2 dL_law_488 ?_
  refine lw_call (As := [.int (xs (nI i + 1).toNatClampNeg), .int (xs (nI i + 2).toNatClampNeg)]) (rest := []) ⟨hx, hb, hml, hown, hts⟩ k8 (cwV 2 hts gL_law_X8_comes rfl rfl rfl (by decide +kernel) ⟨Nat.le_of_ble_eq_true rfl, Nat.le_of_ble_eq_true rfl⟩) hK hP hD hS hA 8 rfl rfl hV.h8 rfl hl.1 rfl (Nat.le_of_ble_eq_true rfl) dL_law_489 ⟨Nat.le_of_ble_eq_true rfl, Nat.le_of_ble_eq_true rfl⟩ (fun H locs hP hD hS => ?_)
  refine lv_aload_n hx hb dL_law_492 rfl (lv_at hl 2 rfl) ?_
  refine lv_aload_n hx hb dL_law_493 rfl (lv_at hl 0 rfl) ?_
  refine lv_iload_n hx hb dL_law_494 rfl (lv_at hl 3 rfl) ?_
  refine lv_iconst (v := 1) hx hb dL_law_495 (by decide) ?_
  refine lv_iadd hx hb dL_law_496 ?_
  refine va_sld hx hb hX hbl hbA hS h1 dL_law_497 ?_
  refine lv_aload_n hx hb dL_law_498 rfl (lv_at hl 0 rfl) ?_
  refine lv_iload_n hx hb dL_law_499 rfl (lv_at hl 3 rfl) ?_
  refine lv_iconst (v := 2) hx hb dL_law_500 (by decide) ?_
  refine lv_iadd hx hb dL_law_501 ?_
  refine va_sld hx hb hX hbl hbA hS h2 dL_law_502 ?_
  refine lw_call (As := [.int (xs (nI i + 1).toNatClampNeg), .int (xs (nI i + 2).toNatClampNeg)]) (rest := [.int r]) ⟨hx, hb, hml, hown, hts⟩ k9 (cwV 2 hts gL_law_X9_comes rfl rfl rfl (by decide +kernel) ⟨Nat.le_of_ble_eq_true rfl, Nat.le_of_ble_eq_true rfl⟩) hK hP hD hS hA 9 rfl rfl hV.h9 rfl hl.1 rfl (Nat.le_of_ble_eq_true rfl) dL_law_503 ⟨Nat.le_of_ble_eq_true rfl, Nat.le_of_ble_eq_true rfl⟩ (fun H locs hP hD hS => ?_)
  exact lv_icmp_eq (tgt := 1368) hx hb dL_law_506 (by decide) (fun _ => kk _ _ _ _ hV2 hP hD hS) (fun h => absurd rfl h)
set_option maxHeartbeats 4000000 in
set_option maxRecDepth 100000 in
theorem lk_debt (hx : p.tables.exec = Jvm.exec) (hb : c.code = cL_law) (hml : c.maxLocals = 4) (hown : s.vm.findClass RL = some m.cls) (hts : ∀ w ∈ wsL_law, w.before #[Value.ref b] s = true) (hX : va_X b L xs s s.heap) (hbl : b < s.heap.size) (hbA : ¬ A b) (hA : ∀ q : Nat, s.heap.size ≤ q → A q) (hL : L ≤ 2560) (hi : i + 5 ≤ L) (hK : va_K D vwCl (tys5 cI cB cZ cS cT) s) (hV : LV cI cB cZ cS cT q8 q9 B w8 w9) (hB : B < 2 ^ 30) (hP : va_P D vwCl (w8 ++ w9) H) (hD : va_D A (w8 ++ w9)) (hS : va_S A s.heap H locs) (hl : lv_has ls 4 [(0, .ref b), (1, .ref q8), (2, .ref q9), (3, .int (nI i))])
    (kk : ∀ (w8' w9' : va_W) (H : Heap) (locs : List Loc), LV cI cB cZ cS cT q8 q9 (B + 1000) w8' w9' → va_P D vwCl (w8' ++ w9') H → va_D A (w8' ++ w9') → va_S A s.heap H locs → W p l e room_1 s m #[Value.ref b] below meth c H locs 88 2934 Q (F0 m 1368 ls [])) : W p l e room_1 s m #[Value.ref b] below meth c H locs 88 2934 Q (F0 m 511 ls []) := by
  have h1 : vp_in (nI i + 1) L := by
    rw [show nI i + 1 = nI (i + 1) from nI_add i 1]
    exact vp_in_nI (by omega) (by omega)
  have h2 : vp_in (nI i + 2) L := by
    rw [show nI i + 2 = nI (i + 2) from nI_add i 2]
    exact vp_in_nI (by omega) (by omega)
  have h3 : vp_in (nI i + 3) L := by
    rw [show nI i + 3 = nI (i + 3) from nI_add i 3]
    exact vp_in_nI (by omega) (by omega)
  obtain ⟨r, w8', w9', k8, k9, hV2⟩ := cs_debt (l := l) (D := D) hV hB (xs (nI i + 1).toNatClampNeg) (xs (nI i + 2).toNatClampNeg) (xs (nI i + 3).toNatClampNeg)
  refine lv_aload_n hx hb dL_law_511 rfl (lv_at hl 1 rfl) ?_
  refine lv_aload_n hx hb dL_law_512 rfl (lv_at hl 0 rfl) ?_
  refine lv_iload_n hx hb dL_law_513 rfl (lv_at hl 3 rfl) ?_
  refine lv_iconst (v := 1) hx hb dL_law_514 (by decide) ?_
  refine lv_iadd hx hb dL_law_515 ?_
  refine va_sld hx hb hX hbl hbA hS h1 dL_law_516 ?_
  refine lv_aload_n hx hb dL_law_517 rfl (lv_at hl 0 rfl) ?_
  refine lv_iload_n hx hb dL_law_518 rfl (lv_at hl 3 rfl) ?_
  refine lv_iconst (v := 2) hx hb dL_law_519 (by decide) ?_
  refine lv_iadd hx hb dL_law_520 ?_
  refine va_sld hx hb hX hbl hbA hS h2 dL_law_521 ?_
  refine lv_aload_n hx hb dL_law_522 rfl (lv_at hl 0 rfl) ?_
  refine lv_iload_n hx hb dL_law_523 rfl (lv_at hl 3 rfl) ?_
  refine lv_iconst (v := 3) hx hb dL_law_524 (by decide) ?_
  refine lv_iadd hx hb dL_law_525 ?_
  refine va_sld hx hb hX hbl hbA hS h3 dL_law_526 ?_
  refine lw_call (As := [.int (xs (nI i + 1).toNatClampNeg), .int (xs (nI i + 2).toNatClampNeg), .int (xs (nI i + 3).toNatClampNeg)]) (rest := []) ⟨hx, hb, hml, hown, hts⟩ k8 (cwV 3 hts gL_law_X8_debt rfl rfl rfl (by decide +kernel) ⟨Nat.le_of_ble_eq_true rfl, Nat.le_of_ble_eq_true rfl⟩) hK hP hD hS hA 8 rfl rfl hV.h8 rfl hl.1 rfl (Nat.le_of_ble_eq_true rfl) dL_law_527 ⟨Nat.le_of_ble_eq_true rfl, Nat.le_of_ble_eq_true rfl⟩ (fun H locs hP hD hS => ?_)
  refine lv_aload_n hx hb dL_law_530 rfl (lv_at hl 2 rfl) ?_
  refine lv_aload_n hx hb dL_law_531 rfl (lv_at hl 0 rfl) ?_
  refine lv_iload_n hx hb dL_law_532 rfl (lv_at hl 3 rfl) ?_
  refine lv_iconst (v := 1) hx hb dL_law_533 (by decide) ?_
  refine lv_iadd hx hb dL_law_534 ?_
  refine va_sld hx hb hX hbl hbA hS h1 dL_law_535 ?_
  refine lv_aload_n hx hb dL_law_536 rfl (lv_at hl 0 rfl) ?_
  refine lv_iload_n hx hb dL_law_537 rfl (lv_at hl 3 rfl) ?_
  refine lv_iconst (v := 2) hx hb dL_law_538 (by decide) ?_
  refine lv_iadd hx hb dL_law_539 ?_
  refine va_sld hx hb hX hbl hbA hS h2 dL_law_540 ?_
  refine lv_aload_n hx hb dL_law_541 rfl (lv_at hl 0 rfl) ?_
  refine lv_iload_n hx hb dL_law_542 rfl (lv_at hl 3 rfl) ?_
  refine lv_iconst (v := 3) hx hb dL_law_543 (by decide) ?_
  refine lv_iadd hx hb dL_law_544 ?_
  refine va_sld hx hb hX hbl hbA hS h3 dL_law_545 ?_
  refine lw_call (As := [.int (xs (nI i + 1).toNatClampNeg), .int (xs (nI i + 2).toNatClampNeg), .int (xs (nI i + 3).toNatClampNeg)]) (rest := [.int r]) ⟨hx, hb, hml, hown, hts⟩ k9 (cwV 3 hts gL_law_X9_debt rfl rfl rfl (by decide +kernel) ⟨Nat.le_of_ble_eq_true rfl, Nat.le_of_ble_eq_true rfl⟩) hK hP hD hS hA 9 rfl rfl hV.h9 rfl hl.1 rfl (Nat.le_of_ble_eq_true rfl) dL_law_546 ⟨Nat.le_of_ble_eq_true rfl, Nat.le_of_ble_eq_true rfl⟩ (fun H locs hP hD hS => ?_)
  exact lv_icmp_eq (tgt := 1368) hx hb dL_law_549 (by decide) (fun _ => kk _ _ _ _ hV2 hP hD hS) (fun h => absurd rfl h)
set_option maxHeartbeats 4000000 in
set_option maxRecDepth 100000 in
theorem lk_pay (hx : p.tables.exec = Jvm.exec) (hb : c.code = cL_law) (hml : c.maxLocals = 4) (hown : s.vm.findClass RL = some m.cls) (hts : ∀ w ∈ wsL_law, w.before #[Value.ref b] s = true) (hX : va_X b L xs s s.heap) (hbl : b < s.heap.size) (hbA : ¬ A b) (hA : ∀ q : Nat, s.heap.size ≤ q → A q) (hL : L ≤ 2560) (hi : i + 5 ≤ L) (hK : va_K D vwCl (tys5 cI cB cZ cS cT) s) (hV : LV cI cB cZ cS cT q8 q9 B w8 w9) (hB : B < 2 ^ 30) (hP : va_P D vwCl (w8 ++ w9) H) (hD : va_D A (w8 ++ w9)) (hS : va_S A s.heap H locs) (hl : lv_has ls 4 [(0, .ref b), (1, .ref q8), (2, .ref q9), (3, .int (nI i))])
    (kk : ∀ (w8' w9' : va_W) (H : Heap) (locs : List Loc), LV cI cB cZ cS cT q8 q9 (B + 1000) w8' w9' → va_P D vwCl (w8' ++ w9') H → va_D A (w8' ++ w9') → va_S A s.heap H locs → W p l e room_1 s m #[Value.ref b] below meth c H locs 88 2934 Q (F0 m 1368 ls [])) : W p l e room_1 s m #[Value.ref b] below meth c H locs 88 2934 Q (F0 m 554 ls []) := by
  have h1 : vp_in (nI i + 1) L := by
    rw [show nI i + 1 = nI (i + 1) from nI_add i 1]
    exact vp_in_nI (by omega) (by omega)
  have h2 : vp_in (nI i + 2) L := by
    rw [show nI i + 2 = nI (i + 2) from nI_add i 2]
    exact vp_in_nI (by omega) (by omega)
  obtain ⟨r, w8', w9', k8, k9, hV2⟩ := cs_pay (l := l) (D := D) hV hB (xs (nI i + 1).toNatClampNeg) (xs (nI i + 2).toNatClampNeg)
  refine lv_aload_n hx hb dL_law_554 rfl (lv_at hl 1 rfl) ?_
  refine lv_aload_n hx hb dL_law_555 rfl (lv_at hl 0 rfl) ?_
  refine lv_iload_n hx hb dL_law_556 rfl (lv_at hl 3 rfl) ?_
  refine lv_iconst (v := 1) hx hb dL_law_557 (by decide) ?_
  refine lv_iadd hx hb dL_law_558 ?_
  refine va_sld hx hb hX hbl hbA hS h1 dL_law_559 ?_
  refine lv_aload_n hx hb dL_law_560 rfl (lv_at hl 0 rfl) ?_
  refine lv_iload_n hx hb dL_law_561 rfl (lv_at hl 3 rfl) ?_
  refine lv_iconst (v := 2) hx hb dL_law_562 (by decide) ?_
  refine lv_iadd hx hb dL_law_563 ?_
  refine va_sld hx hb hX hbl hbA hS h2 dL_law_564 ?_
  refine lw_call (As := [.int (xs (nI i + 1).toNatClampNeg), .int (xs (nI i + 2).toNatClampNeg)]) (rest := []) ⟨hx, hb, hml, hown, hts⟩ k8 (cwV 2 hts gL_law_X8_pay rfl rfl rfl (by decide +kernel) ⟨Nat.le_of_ble_eq_true rfl, Nat.le_of_ble_eq_true rfl⟩) hK hP hD hS hA 8 rfl rfl hV.h8 rfl hl.1 rfl (Nat.le_of_ble_eq_true rfl) dL_law_565 ⟨Nat.le_of_ble_eq_true rfl, Nat.le_of_ble_eq_true rfl⟩ (fun H locs hP hD hS => ?_)
  refine lv_aload_n hx hb dL_law_568 rfl (lv_at hl 2 rfl) ?_
  refine lv_aload_n hx hb dL_law_569 rfl (lv_at hl 0 rfl) ?_
  refine lv_iload_n hx hb dL_law_570 rfl (lv_at hl 3 rfl) ?_
  refine lv_iconst (v := 1) hx hb dL_law_571 (by decide) ?_
  refine lv_iadd hx hb dL_law_572 ?_
  refine va_sld hx hb hX hbl hbA hS h1 dL_law_573 ?_
  refine lv_aload_n hx hb dL_law_574 rfl (lv_at hl 0 rfl) ?_
  refine lv_iload_n hx hb dL_law_575 rfl (lv_at hl 3 rfl) ?_
  refine lv_iconst (v := 2) hx hb dL_law_576 (by decide) ?_
  refine lv_iadd hx hb dL_law_577 ?_
  refine va_sld hx hb hX hbl hbA hS h2 dL_law_578 ?_
  refine lw_call (As := [.int (xs (nI i + 1).toNatClampNeg), .int (xs (nI i + 2).toNatClampNeg)]) (rest := [.int r]) ⟨hx, hb, hml, hown, hts⟩ k9 (cwV 2 hts gL_law_X9_pay rfl rfl rfl (by decide +kernel) ⟨Nat.le_of_ble_eq_true rfl, Nat.le_of_ble_eq_true rfl⟩) hK hP hD hS hA 9 rfl rfl hV.h9 rfl hl.1 rfl (Nat.le_of_ble_eq_true rfl) dL_law_579 ⟨Nat.le_of_ble_eq_true rfl, Nat.le_of_ble_eq_true rfl⟩ (fun H locs hP hD hS => ?_)
  exact lv_icmp_eq (tgt := 1368) hx hb dL_law_582 (by decide) (fun _ => kk _ _ _ _ hV2 hP hD hS) (fun h => absurd rfl h)
set_option maxHeartbeats 4000000 in
set_option maxRecDepth 100000 in
theorem lk_lend (hx : p.tables.exec = Jvm.exec) (hb : c.code = cL_law) (hml : c.maxLocals = 4) (hown : s.vm.findClass RL = some m.cls) (hts : ∀ w ∈ wsL_law, w.before #[Value.ref b] s = true) (hX : va_X b L xs s s.heap) (hbl : b < s.heap.size) (hbA : ¬ A b) (hA : ∀ q : Nat, s.heap.size ≤ q → A q) (hL : L ≤ 2560) (hi : i + 5 ≤ L) (hK : va_K D vwCl (tys5 cI cB cZ cS cT) s) (hV : LV cI cB cZ cS cT q8 q9 B w8 w9) (hB : B < 2 ^ 30) (hP : va_P D vwCl (w8 ++ w9) H) (hD : va_D A (w8 ++ w9)) (hS : va_S A s.heap H locs) (hl : lv_has ls 4 [(0, .ref b), (1, .ref q8), (2, .ref q9), (3, .int (nI i))])
    (kk : ∀ (w8' w9' : va_W) (H : Heap) (locs : List Loc), LV cI cB cZ cS cT q8 q9 (B + 1000) w8' w9' → va_P D vwCl (w8' ++ w9') H → va_D A (w8' ++ w9') → va_S A s.heap H locs → W p l e room_1 s m #[Value.ref b] below meth c H locs 88 2934 Q (F0 m 1368 ls [])) : W p l e room_1 s m #[Value.ref b] below meth c H locs 88 2934 Q (F0 m 587 ls []) := by
  have h1 : vp_in (nI i + 1) L := by
    rw [show nI i + 1 = nI (i + 1) from nI_add i 1]
    exact vp_in_nI (by omega) (by omega)
  have h2 : vp_in (nI i + 2) L := by
    rw [show nI i + 2 = nI (i + 2) from nI_add i 2]
    exact vp_in_nI (by omega) (by omega)
  have h3 : vp_in (nI i + 3) L := by
    rw [show nI i + 3 = nI (i + 3) from nI_add i 3]
    exact vp_in_nI (by omega) (by omega)
  obtain ⟨r, w8', w9', k8, k9, hV2⟩ := cs_lend (l := l) (D := D) hV hB (xs (nI i + 1).toNatClampNeg) (xs (nI i + 2).toNatClampNeg) (xs (nI i + 3).toNatClampNeg)
  refine lv_aload_n hx hb dL_law_587 rfl (lv_at hl 1 rfl) ?_
  refine lv_aload_n hx hb dL_law_588 rfl (lv_at hl 0 rfl) ?_
  refine lv_iload_n hx hb dL_law_589 rfl (lv_at hl 3 rfl) ?_
  refine lv_iconst (v := 1) hx hb dL_law_590 (by decide) ?_
  refine lv_iadd hx hb dL_law_591 ?_
  refine va_sld hx hb hX hbl hbA hS h1 dL_law_592 ?_
  refine lv_aload_n hx hb dL_law_593 rfl (lv_at hl 0 rfl) ?_
  refine lv_iload_n hx hb dL_law_594 rfl (lv_at hl 3 rfl) ?_
  refine lv_iconst (v := 2) hx hb dL_law_595 (by decide) ?_
  refine lv_iadd hx hb dL_law_596 ?_
  refine va_sld hx hb hX hbl hbA hS h2 dL_law_597 ?_
  refine lv_aload_n hx hb dL_law_598 rfl (lv_at hl 0 rfl) ?_
  refine lv_iload_n hx hb dL_law_599 rfl (lv_at hl 3 rfl) ?_
  refine lv_iconst (v := 3) hx hb dL_law_600 (by decide) ?_
  refine lv_iadd hx hb dL_law_601 ?_
  refine va_sld hx hb hX hbl hbA hS h3 dL_law_602 ?_
  refine lw_call (As := [.int (xs (nI i + 1).toNatClampNeg), .int (xs (nI i + 2).toNatClampNeg), .int (xs (nI i + 3).toNatClampNeg)]) (rest := []) ⟨hx, hb, hml, hown, hts⟩ k8 (cwV 3 hts gL_law_X8_lend rfl rfl rfl (by decide +kernel) ⟨Nat.le_of_ble_eq_true rfl, Nat.le_of_ble_eq_true rfl⟩) hK hP hD hS hA 8 rfl rfl hV.h8 rfl hl.1 rfl (Nat.le_of_ble_eq_true rfl) dL_law_603 ⟨Nat.le_of_ble_eq_true rfl, Nat.le_of_ble_eq_true rfl⟩ (fun H locs hP hD hS => ?_)
  refine lv_aload_n hx hb dL_law_606 rfl (lv_at hl 2 rfl) ?_
  refine lv_aload_n hx hb dL_law_607 rfl (lv_at hl 0 rfl) ?_
  refine lv_iload_n hx hb dL_law_608 rfl (lv_at hl 3 rfl) ?_
  refine lv_iconst (v := 1) hx hb dL_law_609 (by decide) ?_
  refine lv_iadd hx hb dL_law_610 ?_
  refine va_sld hx hb hX hbl hbA hS h1 dL_law_611 ?_
  refine lv_aload_n hx hb dL_law_612 rfl (lv_at hl 0 rfl) ?_
  refine lv_iload_n hx hb dL_law_613 rfl (lv_at hl 3 rfl) ?_
  refine lv_iconst (v := 2) hx hb dL_law_614 (by decide) ?_
  refine lv_iadd hx hb dL_law_615 ?_
  refine va_sld hx hb hX hbl hbA hS h2 dL_law_616 ?_
  refine lv_aload_n hx hb dL_law_617 rfl (lv_at hl 0 rfl) ?_
  refine lv_iload_n hx hb dL_law_618 rfl (lv_at hl 3 rfl) ?_
  refine lv_iconst (v := 3) hx hb dL_law_619 (by decide) ?_
  refine lv_iadd hx hb dL_law_620 ?_
  refine va_sld hx hb hX hbl hbA hS h3 dL_law_621 ?_
  refine lw_call (As := [.int (xs (nI i + 1).toNatClampNeg), .int (xs (nI i + 2).toNatClampNeg), .int (xs (nI i + 3).toNatClampNeg)]) (rest := [.int r]) ⟨hx, hb, hml, hown, hts⟩ k9 (cwV 3 hts gL_law_X9_lend rfl rfl rfl (by decide +kernel) ⟨Nat.le_of_ble_eq_true rfl, Nat.le_of_ble_eq_true rfl⟩) hK hP hD hS hA 9 rfl rfl hV.h9 rfl hl.1 rfl (Nat.le_of_ble_eq_true rfl) dL_law_622 ⟨Nat.le_of_ble_eq_true rfl, Nat.le_of_ble_eq_true rfl⟩ (fun H locs hP hD hS => ?_)
  exact lv_icmp_eq (tgt := 1368) hx hb dL_law_625 (by decide) (fun _ => kk _ _ _ _ hV2 hP hD hS) (fun h => absurd rfl h)
set_option maxHeartbeats 4000000 in
set_option maxRecDepth 100000 in
theorem lk_sell (hx : p.tables.exec = Jvm.exec) (hb : c.code = cL_law) (hml : c.maxLocals = 4) (hown : s.vm.findClass RL = some m.cls) (hts : ∀ w ∈ wsL_law, w.before #[Value.ref b] s = true) (hX : va_X b L xs s s.heap) (hbl : b < s.heap.size) (hbA : ¬ A b) (hA : ∀ q : Nat, s.heap.size ≤ q → A q) (hL : L ≤ 2560) (hi : i + 5 ≤ L) (hK : va_K D vwCl (tys5 cI cB cZ cS cT) s) (hV : LV cI cB cZ cS cT q8 q9 B w8 w9) (hB : B < 2 ^ 30) (hP : va_P D vwCl (w8 ++ w9) H) (hD : va_D A (w8 ++ w9)) (hS : va_S A s.heap H locs) (hl : lv_has ls 4 [(0, .ref b), (1, .ref q8), (2, .ref q9), (3, .int (nI i))])
    (kk : ∀ (w8' w9' : va_W) (H : Heap) (locs : List Loc), LV cI cB cZ cS cT q8 q9 (B + 1000) w8' w9' → va_P D vwCl (w8' ++ w9') H → va_D A (w8' ++ w9') → va_S A s.heap H locs → W p l e room_1 s m #[Value.ref b] below meth c H locs 88 2934 Q (F0 m 1368 ls [])) : W p l e room_1 s m #[Value.ref b] below meth c H locs 88 2934 Q (F0 m 630 ls []) := by
  have h1 : vp_in (nI i + 1) L := by
    rw [show nI i + 1 = nI (i + 1) from nI_add i 1]
    exact vp_in_nI (by omega) (by omega)
  have h2 : vp_in (nI i + 2) L := by
    rw [show nI i + 2 = nI (i + 2) from nI_add i 2]
    exact vp_in_nI (by omega) (by omega)
  have h3 : vp_in (nI i + 3) L := by
    rw [show nI i + 3 = nI (i + 3) from nI_add i 3]
    exact vp_in_nI (by omega) (by omega)
  obtain ⟨r, w8', w9', k8, k9, hV2⟩ := cs_sell (l := l) (D := D) hV hB (xs (nI i + 1).toNatClampNeg) (xs (nI i + 2).toNatClampNeg) (xs (nI i + 3).toNatClampNeg)
  refine lv_aload_n hx hb dL_law_630 rfl (lv_at hl 1 rfl) ?_
  refine lv_aload_n hx hb dL_law_631 rfl (lv_at hl 0 rfl) ?_
  refine lv_iload_n hx hb dL_law_632 rfl (lv_at hl 3 rfl) ?_
  refine lv_iconst (v := 1) hx hb dL_law_633 (by decide) ?_
  refine lv_iadd hx hb dL_law_634 ?_
  refine va_sld hx hb hX hbl hbA hS h1 dL_law_635 ?_
  refine lv_aload_n hx hb dL_law_636 rfl (lv_at hl 0 rfl) ?_
  refine lv_iload_n hx hb dL_law_637 rfl (lv_at hl 3 rfl) ?_
  refine lv_iconst (v := 2) hx hb dL_law_638 (by decide) ?_
  refine lv_iadd hx hb dL_law_639 ?_
  refine va_sld hx hb hX hbl hbA hS h2 dL_law_640 ?_
  refine lv_aload_n hx hb dL_law_641 rfl (lv_at hl 0 rfl) ?_
  refine lv_iload_n hx hb dL_law_642 rfl (lv_at hl 3 rfl) ?_
  refine lv_iconst (v := 3) hx hb dL_law_643 (by decide) ?_
  refine lv_iadd hx hb dL_law_644 ?_
  refine va_sld hx hb hX hbl hbA hS h3 dL_law_645 ?_
  refine lw_call (As := [.int (xs (nI i + 1).toNatClampNeg), .int (xs (nI i + 2).toNatClampNeg), .int (xs (nI i + 3).toNatClampNeg)]) (rest := []) ⟨hx, hb, hml, hown, hts⟩ k8 (cwV 3 hts gL_law_X8_sell rfl rfl rfl (by decide +kernel) ⟨Nat.le_of_ble_eq_true rfl, Nat.le_of_ble_eq_true rfl⟩) hK hP hD hS hA 8 rfl rfl hV.h8 rfl hl.1 rfl (Nat.le_of_ble_eq_true rfl) dL_law_646 ⟨Nat.le_of_ble_eq_true rfl, Nat.le_of_ble_eq_true rfl⟩ (fun H locs hP hD hS => ?_)
  refine lv_aload_n hx hb dL_law_649 rfl (lv_at hl 2 rfl) ?_
  refine lv_aload_n hx hb dL_law_650 rfl (lv_at hl 0 rfl) ?_
  refine lv_iload_n hx hb dL_law_651 rfl (lv_at hl 3 rfl) ?_
  refine lv_iconst (v := 1) hx hb dL_law_652 (by decide) ?_
  refine lv_iadd hx hb dL_law_653 ?_
  refine va_sld hx hb hX hbl hbA hS h1 dL_law_654 ?_
  refine lv_aload_n hx hb dL_law_655 rfl (lv_at hl 0 rfl) ?_
  refine lv_iload_n hx hb dL_law_656 rfl (lv_at hl 3 rfl) ?_
  refine lv_iconst (v := 2) hx hb dL_law_657 (by decide) ?_
  refine lv_iadd hx hb dL_law_658 ?_
  refine va_sld hx hb hX hbl hbA hS h2 dL_law_659 ?_
  refine lv_aload_n hx hb dL_law_660 rfl (lv_at hl 0 rfl) ?_
  refine lv_iload_n hx hb dL_law_661 rfl (lv_at hl 3 rfl) ?_
  refine lv_iconst (v := 3) hx hb dL_law_662 (by decide) ?_
  refine lv_iadd hx hb dL_law_663 ?_
  refine va_sld hx hb hX hbl hbA hS h3 dL_law_664 ?_
  refine lw_call (As := [.int (xs (nI i + 1).toNatClampNeg), .int (xs (nI i + 2).toNatClampNeg), .int (xs (nI i + 3).toNatClampNeg)]) (rest := [.int r]) ⟨hx, hb, hml, hown, hts⟩ k9 (cwV 3 hts gL_law_X9_sell rfl rfl rfl (by decide +kernel) ⟨Nat.le_of_ble_eq_true rfl, Nat.le_of_ble_eq_true rfl⟩) hK hP hD hS hA 9 rfl rfl hV.h9 rfl hl.1 rfl (Nat.le_of_ble_eq_true rfl) dL_law_665 ⟨Nat.le_of_ble_eq_true rfl, Nat.le_of_ble_eq_true rfl⟩ (fun H locs hP hD hS => ?_)
  exact lv_icmp_eq (tgt := 1368) hx hb dL_law_668 (by decide) (fun _ => kk _ _ _ _ hV2 hP hD hS) (fun h => absurd rfl h)
set_option maxHeartbeats 4000000 in
set_option maxRecDepth 100000 in
theorem lk_served (hx : p.tables.exec = Jvm.exec) (hb : c.code = cL_law) (hml : c.maxLocals = 4) (hown : s.vm.findClass RL = some m.cls) (hts : ∀ w ∈ wsL_law, w.before #[Value.ref b] s = true) (hX : va_X b L xs s s.heap) (hbl : b < s.heap.size) (hbA : ¬ A b) (hA : ∀ q : Nat, s.heap.size ≤ q → A q) (hL : L ≤ 2560) (hi : i + 5 ≤ L) (hK : va_K D vwCl (tys5 cI cB cZ cS cT) s) (hV : LV cI cB cZ cS cT q8 q9 B w8 w9) (hB : B < 2 ^ 30) (hP : va_P D vwCl (w8 ++ w9) H) (hD : va_D A (w8 ++ w9)) (hS : va_S A s.heap H locs) (hl : lv_has ls 4 [(0, .ref b), (1, .ref q8), (2, .ref q9), (3, .int (nI i))])
    (kk : ∀ (w8' w9' : va_W) (H : Heap) (locs : List Loc), LV cI cB cZ cS cT q8 q9 (B + 1000) w8' w9' → va_P D vwCl (w8' ++ w9') H → va_D A (w8' ++ w9') → va_S A s.heap H locs → W p l e room_1 s m #[Value.ref b] below meth c H locs 88 2934 Q (F0 m 1368 ls [])) : W p l e room_1 s m #[Value.ref b] below meth c H locs 88 2934 Q (F0 m 673 ls []) := by
  have h1 : vp_in (nI i + 1) L := by
    rw [show nI i + 1 = nI (i + 1) from nI_add i 1]
    exact vp_in_nI (by omega) (by omega)
  obtain ⟨r, w8', w9', k8, k9, hV2⟩ := cs_served (l := l) (D := D) hV hB (xs (nI i + 1).toNatClampNeg)
  refine lv_aload_n hx hb dL_law_673 rfl (lv_at hl 1 rfl) ?_
  refine lv_aload_n hx hb dL_law_674 rfl (lv_at hl 0 rfl) ?_
  refine lv_iload_n hx hb dL_law_675 rfl (lv_at hl 3 rfl) ?_
  refine lv_iconst (v := 1) hx hb dL_law_676 (by decide) ?_
  refine lv_iadd hx hb dL_law_677 ?_
  refine va_sld hx hb hX hbl hbA hS h1 dL_law_678 ?_
  refine lw_call (As := [.int (xs (nI i + 1).toNatClampNeg)]) (rest := []) ⟨hx, hb, hml, hown, hts⟩ k8 (cwV 1 hts gL_law_X8_served rfl rfl rfl (by decide +kernel) ⟨Nat.le_of_ble_eq_true rfl, Nat.le_of_ble_eq_true rfl⟩) hK hP hD hS hA 8 rfl rfl hV.h8 rfl hl.1 rfl (Nat.le_of_ble_eq_true rfl) dL_law_679 ⟨Nat.le_of_ble_eq_true rfl, Nat.le_of_ble_eq_true rfl⟩ (fun H locs hP hD hS => ?_)
  refine lv_aload_n hx hb dL_law_682 rfl (lv_at hl 2 rfl) ?_
  refine lv_aload_n hx hb dL_law_683 rfl (lv_at hl 0 rfl) ?_
  refine lv_iload_n hx hb dL_law_684 rfl (lv_at hl 3 rfl) ?_
  refine lv_iconst (v := 1) hx hb dL_law_685 (by decide) ?_
  refine lv_iadd hx hb dL_law_686 ?_
  refine va_sld hx hb hX hbl hbA hS h1 dL_law_687 ?_
  refine lw_call (As := [.int (xs (nI i + 1).toNatClampNeg)]) (rest := [.int r]) ⟨hx, hb, hml, hown, hts⟩ k9 (cwV 1 hts gL_law_X9_served rfl rfl rfl (by decide +kernel) ⟨Nat.le_of_ble_eq_true rfl, Nat.le_of_ble_eq_true rfl⟩) hK hP hD hS hA 9 rfl rfl hV.h9 rfl hl.1 rfl (Nat.le_of_ble_eq_true rfl) dL_law_688 ⟨Nat.le_of_ble_eq_true rfl, Nat.le_of_ble_eq_true rfl⟩ (fun H locs hP hD hS => ?_)
  exact lv_icmp_eq (tgt := 1368) hx hb dL_law_691 (by decide) (fun _ => kk _ _ _ _ hV2 hP hD hS) (fun h => absurd rfl h)
set_option maxHeartbeats 4000000 in
set_option maxRecDepth 100000 in
theorem lk_waits (hx : p.tables.exec = Jvm.exec) (hb : c.code = cL_law) (hml : c.maxLocals = 4) (hown : s.vm.findClass RL = some m.cls) (hts : ∀ w ∈ wsL_law, w.before #[Value.ref b] s = true) (hX : va_X b L xs s s.heap) (hbl : b < s.heap.size) (hbA : ¬ A b) (hA : ∀ q : Nat, s.heap.size ≤ q → A q) (hL : L ≤ 2560) (hi : i + 5 ≤ L) (hK : va_K D vwCl (tys5 cI cB cZ cS cT) s) (hV : LV cI cB cZ cS cT q8 q9 B w8 w9) (hB : B < 2 ^ 30) (hP : va_P D vwCl (w8 ++ w9) H) (hD : va_D A (w8 ++ w9)) (hS : va_S A s.heap H locs) (hl : lv_has ls 4 [(0, .ref b), (1, .ref q8), (2, .ref q9), (3, .int (nI i))])
    (kk : ∀ (w8' w9' : va_W) (H : Heap) (locs : List Loc), LV cI cB cZ cS cT q8 q9 (B + 1000) w8' w9' → va_P D vwCl (w8' ++ w9') H → va_D A (w8' ++ w9') → va_S A s.heap H locs → W p l e room_1 s m #[Value.ref b] below meth c H locs 88 2934 Q (F0 m 1368 ls [])) : W p l e room_1 s m #[Value.ref b] below meth c H locs 88 2934 Q (F0 m 696 ls []) := by
  have h1 : vp_in (nI i + 1) L := by
    rw [show nI i + 1 = nI (i + 1) from nI_add i 1]
    exact vp_in_nI (by omega) (by omega)
  obtain ⟨r, w8', w9', k8, k9, hV2⟩ := cs_waits (l := l) (D := D) hV hB (xs (nI i + 1).toNatClampNeg)
  refine lv_aload_n hx hb dL_law_696 rfl (lv_at hl 1 rfl) ?_
  refine lv_aload_n hx hb dL_law_697 rfl (lv_at hl 0 rfl) ?_
  refine lv_iload_n hx hb dL_law_698 rfl (lv_at hl 3 rfl) ?_
  refine lv_iconst (v := 1) hx hb dL_law_699 (by decide) ?_
  refine lv_iadd hx hb dL_law_700 ?_
  refine va_sld hx hb hX hbl hbA hS h1 dL_law_701 ?_
  refine lw_call (As := [.int (xs (nI i + 1).toNatClampNeg)]) (rest := []) ⟨hx, hb, hml, hown, hts⟩ k8 (cwV 1 hts gL_law_X8_waits rfl rfl rfl (by decide +kernel) ⟨Nat.le_of_ble_eq_true rfl, Nat.le_of_ble_eq_true rfl⟩) hK hP hD hS hA 8 rfl rfl hV.h8 rfl hl.1 rfl (Nat.le_of_ble_eq_true rfl) dL_law_702 ⟨Nat.le_of_ble_eq_true rfl, Nat.le_of_ble_eq_true rfl⟩ (fun H locs hP hD hS => ?_)
  refine lv_aload_n hx hb dL_law_705 rfl (lv_at hl 2 rfl) ?_
  refine lv_aload_n hx hb dL_law_706 rfl (lv_at hl 0 rfl) ?_
  refine lv_iload_n hx hb dL_law_707 rfl (lv_at hl 3 rfl) ?_
  refine lv_iconst (v := 1) hx hb dL_law_708 (by decide) ?_
  refine lv_iadd hx hb dL_law_709 ?_
  refine va_sld hx hb hX hbl hbA hS h1 dL_law_710 ?_
  refine lw_call (As := [.int (xs (nI i + 1).toNatClampNeg)]) (rest := [.int r]) ⟨hx, hb, hml, hown, hts⟩ k9 (cwV 1 hts gL_law_X9_waits rfl rfl rfl (by decide +kernel) ⟨Nat.le_of_ble_eq_true rfl, Nat.le_of_ble_eq_true rfl⟩) hK hP hD hS hA 9 rfl rfl hV.h9 rfl hl.1 rfl (Nat.le_of_ble_eq_true rfl) dL_law_711 ⟨Nat.le_of_ble_eq_true rfl, Nat.le_of_ble_eq_true rfl⟩ (fun H locs hP hD hS => ?_)
  exact lv_icmp_eq (tgt := 1368) hx hb dL_law_714 (by decide) (fun _ => kk _ _ _ _ hV2 hP hD hS) (fun h => absurd rfl h)
set_option maxHeartbeats 4000000 in
set_option maxRecDepth 100000 in
theorem lk_place (hx : p.tables.exec = Jvm.exec) (hb : c.code = cL_law) (hml : c.maxLocals = 4) (hown : s.vm.findClass RL = some m.cls) (hts : ∀ w ∈ wsL_law, w.before #[Value.ref b] s = true) (hX : va_X b L xs s s.heap) (hbl : b < s.heap.size) (hbA : ¬ A b) (hA : ∀ q : Nat, s.heap.size ≤ q → A q) (hL : L ≤ 2560) (hi : i + 5 ≤ L) (hK : va_K D vwCl (tys5 cI cB cZ cS cT) s) (hV : LV cI cB cZ cS cT q8 q9 B w8 w9) (hB : B < 2 ^ 30) (hP : va_P D vwCl (w8 ++ w9) H) (hD : va_D A (w8 ++ w9)) (hS : va_S A s.heap H locs) (hl : lv_has ls 4 [(0, .ref b), (1, .ref q8), (2, .ref q9), (3, .int (nI i))])
    (kk : ∀ (w8' w9' : va_W) (H : Heap) (locs : List Loc), LV cI cB cZ cS cT q8 q9 (B + 1000) w8' w9' → va_P D vwCl (w8' ++ w9') H → va_D A (w8' ++ w9') → va_S A s.heap H locs → W p l e room_1 s m #[Value.ref b] below meth c H locs 88 2934 Q (F0 m 1368 ls [])) : W p l e room_1 s m #[Value.ref b] below meth c H locs 88 2934 Q (F0 m 719 ls []) := by
  have h1 : vp_in (nI i + 1) L := by
    rw [show nI i + 1 = nI (i + 1) from nI_add i 1]
    exact vp_in_nI (by omega) (by omega)
  have h2 : vp_in (nI i + 2) L := by
    rw [show nI i + 2 = nI (i + 2) from nI_add i 2]
    exact vp_in_nI (by omega) (by omega)
  obtain ⟨r, w8', w9', k8, k9, hV2⟩ := cs_place (l := l) (D := D) hV hB (xs (nI i + 1).toNatClampNeg) (xs (nI i + 2).toNatClampNeg)
  refine lv_aload_n hx hb dL_law_719 rfl (lv_at hl 1 rfl) ?_
  refine lv_aload_n hx hb dL_law_720 rfl (lv_at hl 0 rfl) ?_
  refine lv_iload_n hx hb dL_law_721 rfl (lv_at hl 3 rfl) ?_
  refine lv_iconst (v := 1) hx hb dL_law_722 (by decide) ?_
  refine lv_iadd hx hb dL_law_723 ?_
  refine va_sld hx hb hX hbl hbA hS h1 dL_law_724 ?_
  refine lv_aload_n hx hb dL_law_725 rfl (lv_at hl 0 rfl) ?_
  refine lv_iload_n hx hb dL_law_726 rfl (lv_at hl 3 rfl) ?_
  refine lv_iconst (v := 2) hx hb dL_law_727 (by decide) ?_
  refine lv_iadd hx hb dL_law_728 ?_
  refine va_sld hx hb hX hbl hbA hS h2 dL_law_729 ?_
  refine lw_call (As := [.int (xs (nI i + 1).toNatClampNeg), .int (xs (nI i + 2).toNatClampNeg)]) (rest := []) ⟨hx, hb, hml, hown, hts⟩ k8 (cwV 2 hts gL_law_X8_place rfl rfl rfl (by decide +kernel) ⟨Nat.le_of_ble_eq_true rfl, Nat.le_of_ble_eq_true rfl⟩) hK hP hD hS hA 8 rfl rfl hV.h8 rfl hl.1 rfl (Nat.le_of_ble_eq_true rfl) dL_law_730 ⟨Nat.le_of_ble_eq_true rfl, Nat.le_of_ble_eq_true rfl⟩ (fun H locs hP hD hS => ?_)
  refine lv_aload_n hx hb dL_law_733 rfl (lv_at hl 2 rfl) ?_
  refine lv_aload_n hx hb dL_law_734 rfl (lv_at hl 0 rfl) ?_
  refine lv_iload_n hx hb dL_law_735 rfl (lv_at hl 3 rfl) ?_
  refine lv_iconst (v := 1) hx hb dL_law_736 (by decide) ?_
  refine lv_iadd hx hb dL_law_737 ?_
  refine va_sld hx hb hX hbl hbA hS h1 dL_law_738 ?_
  refine lv_aload_n hx hb dL_law_739 rfl (lv_at hl 0 rfl) ?_
  refine lv_iload_n hx hb dL_law_740 rfl (lv_at hl 3 rfl) ?_
  refine lv_iconst (v := 2) hx hb dL_law_741 (by decide) ?_
  refine lv_iadd hx hb dL_law_742 ?_
  refine va_sld hx hb hX hbl hbA hS h2 dL_law_743 ?_
  refine lw_call (As := [.int (xs (nI i + 1).toNatClampNeg), .int (xs (nI i + 2).toNatClampNeg)]) (rest := [.int r]) ⟨hx, hb, hml, hown, hts⟩ k9 (cwV 2 hts gL_law_X9_place rfl rfl rfl (by decide +kernel) ⟨Nat.le_of_ble_eq_true rfl, Nat.le_of_ble_eq_true rfl⟩) hK hP hD hS hA 9 rfl rfl hV.h9 rfl hl.1 rfl (Nat.le_of_ble_eq_true rfl) dL_law_744 ⟨Nat.le_of_ble_eq_true rfl, Nat.le_of_ble_eq_true rfl⟩ (fun H locs hP hD hS => ?_)
  exact lv_icmp_eq (tgt := 1368) hx hb dL_law_747 (by decide) (fun _ => kk _ _ _ _ hV2 hP hD hS) (fun h => absurd rfl h)
set_option maxHeartbeats 4000000 in
set_option maxRecDepth 100000 in
theorem lk_row (hx : p.tables.exec = Jvm.exec) (hb : c.code = cL_law) (hml : c.maxLocals = 4) (hown : s.vm.findClass RL = some m.cls) (hts : ∀ w ∈ wsL_law, w.before #[Value.ref b] s = true) (hX : va_X b L xs s s.heap) (hbl : b < s.heap.size) (hbA : ¬ A b) (hA : ∀ q : Nat, s.heap.size ≤ q → A q) (hL : L ≤ 2560) (hi : i + 5 ≤ L) (hK : va_K D vwCl (tys5 cI cB cZ cS cT) s) (hV : LV cI cB cZ cS cT q8 q9 B w8 w9) (hB : B < 2 ^ 30) (hP : va_P D vwCl (w8 ++ w9) H) (hD : va_D A (w8 ++ w9)) (hS : va_S A s.heap H locs) (hl : lv_has ls 4 [(0, .ref b), (1, .ref q8), (2, .ref q9), (3, .int (nI i))])
    (kk : ∀ (w8' w9' : va_W) (H : Heap) (locs : List Loc), LV cI cB cZ cS cT q8 q9 (B + 1000) w8' w9' → va_P D vwCl (w8' ++ w9') H → va_D A (w8' ++ w9') → va_S A s.heap H locs → W p l e room_1 s m #[Value.ref b] below meth c H locs 88 2934 Q (F0 m 1368 ls [])) : W p l e room_1 s m #[Value.ref b] below meth c H locs 88 2934 Q (F0 m 752 ls []) := by
  have h1 : vp_in (nI i + 1) L := by
    rw [show nI i + 1 = nI (i + 1) from nI_add i 1]
    exact vp_in_nI (by omega) (by omega)
  have h2 : vp_in (nI i + 2) L := by
    rw [show nI i + 2 = nI (i + 2) from nI_add i 2]
    exact vp_in_nI (by omega) (by omega)
  obtain ⟨r, w8', w9', k8, k9, hV2⟩ := cs_row (l := l) (D := D) hV hB (xs (nI i + 1).toNatClampNeg) (xs (nI i + 2).toNatClampNeg)
  refine lv_aload_n hx hb dL_law_752 rfl (lv_at hl 1 rfl) ?_
  refine lv_aload_n hx hb dL_law_753 rfl (lv_at hl 0 rfl) ?_
  refine lv_iload_n hx hb dL_law_754 rfl (lv_at hl 3 rfl) ?_
  refine lv_iconst (v := 1) hx hb dL_law_755 (by decide) ?_
  refine lv_iadd hx hb dL_law_756 ?_
  refine va_sld hx hb hX hbl hbA hS h1 dL_law_757 ?_
  refine lv_aload_n hx hb dL_law_758 rfl (lv_at hl 0 rfl) ?_
  refine lv_iload_n hx hb dL_law_759 rfl (lv_at hl 3 rfl) ?_
  refine lv_iconst (v := 2) hx hb dL_law_760 (by decide) ?_
  refine lv_iadd hx hb dL_law_761 ?_
  refine va_sld hx hb hX hbl hbA hS h2 dL_law_762 ?_
  refine lw_call (As := [.int (xs (nI i + 1).toNatClampNeg), .int (xs (nI i + 2).toNatClampNeg)]) (rest := []) ⟨hx, hb, hml, hown, hts⟩ k8 (cwV 2 hts gL_law_X8_row rfl rfl rfl (by decide +kernel) ⟨Nat.le_of_ble_eq_true rfl, Nat.le_of_ble_eq_true rfl⟩) hK hP hD hS hA 8 rfl rfl hV.h8 rfl hl.1 rfl (Nat.le_of_ble_eq_true rfl) dL_law_763 ⟨Nat.le_of_ble_eq_true rfl, Nat.le_of_ble_eq_true rfl⟩ (fun H locs hP hD hS => ?_)
  refine lv_aload_n hx hb dL_law_766 rfl (lv_at hl 2 rfl) ?_
  refine lv_aload_n hx hb dL_law_767 rfl (lv_at hl 0 rfl) ?_
  refine lv_iload_n hx hb dL_law_768 rfl (lv_at hl 3 rfl) ?_
  refine lv_iconst (v := 1) hx hb dL_law_769 (by decide) ?_
  refine lv_iadd hx hb dL_law_770 ?_
  refine va_sld hx hb hX hbl hbA hS h1 dL_law_771 ?_
  refine lv_aload_n hx hb dL_law_772 rfl (lv_at hl 0 rfl) ?_
  refine lv_iload_n hx hb dL_law_773 rfl (lv_at hl 3 rfl) ?_
  refine lv_iconst (v := 2) hx hb dL_law_774 (by decide) ?_
  refine lv_iadd hx hb dL_law_775 ?_
  refine va_sld hx hb hX hbl hbA hS h2 dL_law_776 ?_
  refine lw_call (As := [.int (xs (nI i + 1).toNatClampNeg), .int (xs (nI i + 2).toNatClampNeg)]) (rest := [.int r]) ⟨hx, hb, hml, hown, hts⟩ k9 (cwV 2 hts gL_law_X9_row rfl rfl rfl (by decide +kernel) ⟨Nat.le_of_ble_eq_true rfl, Nat.le_of_ble_eq_true rfl⟩) hK hP hD hS hA 9 rfl rfl hV.h9 rfl hl.1 rfl (Nat.le_of_ble_eq_true rfl) dL_law_777 ⟨Nat.le_of_ble_eq_true rfl, Nat.le_of_ble_eq_true rfl⟩ (fun H locs hP hD hS => ?_)
  exact lv_icmp_eq (tgt := 1368) hx hb dL_law_780 (by decide) (fun _ => kk _ _ _ _ hV2 hP hD hS) (fun h => absurd rfl h)
set_option maxHeartbeats 4000000 in
set_option maxRecDepth 100000 in
theorem lk_all (hx : p.tables.exec = Jvm.exec) (hb : c.code = cL_law) (hml : c.maxLocals = 4) (hown : s.vm.findClass RL = some m.cls) (hts : ∀ w ∈ wsL_law, w.before #[Value.ref b] s = true) (hX : va_X b L xs s s.heap) (hbl : b < s.heap.size) (hbA : ¬ A b) (hA : ∀ q : Nat, s.heap.size ≤ q → A q) (hL : L ≤ 2560) (hi : i + 5 ≤ L) (hK : va_K D vwCl (tys5 cI cB cZ cS cT) s) (hV : LV cI cB cZ cS cT q8 q9 B w8 w9) (hB : B < 2 ^ 30) (hP : va_P D vwCl (w8 ++ w9) H) (hD : va_D A (w8 ++ w9)) (hS : va_S A s.heap H locs) (hl : lv_has ls 4 [(0, .ref b), (1, .ref q8), (2, .ref q9), (3, .int (nI i))])
    (kk : ∀ (w8' w9' : va_W) (H : Heap) (locs : List Loc), LV cI cB cZ cS cT q8 q9 (B + 1000) w8' w9' → va_P D vwCl (w8' ++ w9') H → va_D A (w8' ++ w9') → va_S A s.heap H locs → W p l e room_1 s m #[Value.ref b] below meth c H locs 88 2934 Q (F0 m 1368 ls [])) : W p l e room_1 s m #[Value.ref b] below meth c H locs 88 2934 Q (F0 m 785 ls []) := by
  have h1 : vp_in (nI i + 1) L := by
    rw [show nI i + 1 = nI (i + 1) from nI_add i 1]
    exact vp_in_nI (by omega) (by omega)
  obtain ⟨r, w8', w9', k8, k9, hV2⟩ := cs_all (l := l) (D := D) hV hB (xs (nI i + 1).toNatClampNeg)
  refine lv_aload_n hx hb dL_law_785 rfl (lv_at hl 1 rfl) ?_
  refine lv_aload_n hx hb dL_law_786 rfl (lv_at hl 0 rfl) ?_
  refine lv_iload_n hx hb dL_law_787 rfl (lv_at hl 3 rfl) ?_
  refine lv_iconst (v := 1) hx hb dL_law_788 (by decide) ?_
  refine lv_iadd hx hb dL_law_789 ?_
  refine va_sld hx hb hX hbl hbA hS h1 dL_law_790 ?_
  refine lw_call (As := [.int (xs (nI i + 1).toNatClampNeg)]) (rest := []) ⟨hx, hb, hml, hown, hts⟩ k8 (cwV 1 hts gL_law_X8_all rfl rfl rfl (by decide +kernel) ⟨Nat.le_of_ble_eq_true rfl, Nat.le_of_ble_eq_true rfl⟩) hK hP hD hS hA 8 rfl rfl hV.h8 rfl hl.1 rfl (Nat.le_of_ble_eq_true rfl) dL_law_791 ⟨Nat.le_of_ble_eq_true rfl, Nat.le_of_ble_eq_true rfl⟩ (fun H locs hP hD hS => ?_)
  refine lv_aload_n hx hb dL_law_794 rfl (lv_at hl 2 rfl) ?_
  refine lv_aload_n hx hb dL_law_795 rfl (lv_at hl 0 rfl) ?_
  refine lv_iload_n hx hb dL_law_796 rfl (lv_at hl 3 rfl) ?_
  refine lv_iconst (v := 1) hx hb dL_law_797 (by decide) ?_
  refine lv_iadd hx hb dL_law_798 ?_
  refine va_sld hx hb hX hbl hbA hS h1 dL_law_799 ?_
  refine lw_call (As := [.int (xs (nI i + 1).toNatClampNeg)]) (rest := [.int r]) ⟨hx, hb, hml, hown, hts⟩ k9 (cwV 1 hts gL_law_X9_all rfl rfl rfl (by decide +kernel) ⟨Nat.le_of_ble_eq_true rfl, Nat.le_of_ble_eq_true rfl⟩) hK hP hD hS hA 9 rfl rfl hV.h9 rfl hl.1 rfl (Nat.le_of_ble_eq_true rfl) dL_law_800 ⟨Nat.le_of_ble_eq_true rfl, Nat.le_of_ble_eq_true rfl⟩ (fun H locs hP hD hS => ?_)
  exact lv_icmp_eq (tgt := 1368) hx hb dL_law_803 (by decide) (fun _ => kk _ _ _ _ hV2 hP hD hS) (fun h => absurd rfl h)
end LWK
