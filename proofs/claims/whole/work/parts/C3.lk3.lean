section LWK
variable {p : Program} {l : Launch} {e : Env} {s : State} {m : MethodId} {below : List Frame} {meth : Method} {c : Code} {b L : Nat} {xs : Nat → Int32} {H : Heap} {locs : List Loc} {ls : Array Slot} {A : Nat → Prop} {D : va_G} {cI cB cZ cS cT : ClassId} {q8 q9 B i : Nat} {w8 w9 : va_W} {Q : State → Prop}
set_option maxHeartbeats 4000000 in
set_option maxRecDepth 100000 in
theorem lk_poor (hx : p.tables.exec = Jvm.exec) (hb : c.code = cL_law) (hml : c.maxLocals = 4) (hown : s.vm.findClass RL = some m.cls) (hts : ∀ w ∈ wsL_law, w.before #[Value.ref b] s = true) (hX : va_X b L xs s s.heap) (hbl : b < s.heap.size) (hbA : ¬ A b) (hA : ∀ q : Nat, s.heap.size ≤ q → A q) (hL : L ≤ 2560) (hi : i + 5 ≤ L) (hK : va_K D vwCl (tys5 cI cB cZ cS cT) s) (hV : LV cI cB cZ cS cT q8 q9 B w8 w9) (hB : B < 2 ^ 30) (hP : va_P D vwCl (w8 ++ w9) H) (hD : va_D A (w8 ++ w9)) (hS : va_S A s.heap H locs) (hl : lv_has ls 4 [(0, .ref b), (1, .ref q8), (2, .ref q9), (3, .int (nI i))])
    (kk : ∀ (w8' w9' : va_W) (H : Heap) (locs : List Loc), LV cI cB cZ cS cT q8 q9 (B + 1000) w8' w9' → va_P D vwCl (w8' ++ w9') H → va_D A (w8' ++ w9') → va_S A s.heap H locs → W p l e room_1 s m #[Value.ref b] below meth c H locs 88 2934 Q (F0 m 1368 ls [])) : W p l e room_1 s m #[Value.ref b] below meth c H locs 88 2934 Q (F0 m 808 ls []) := by
  have h1 : vp_in (nI i + 1) L := by
    rw [show nI i + 1 = nI (i + 1) from nI_add i 1]
    exact vp_in_nI (by omega) (by omega)
  have h2 : vp_in (nI i + 2) L := by
    rw [show nI i + 2 = nI (i + 2) from nI_add i 2]
    exact vp_in_nI (by omega) (by omega)
  obtain ⟨r, w8', w9', k8, k9, hV2⟩ := cs_poor (l := l) (D := D) hV hB (xs (nI i + 1).toNatClampNeg) (xs (nI i + 2).toNatClampNeg)
  refine lv_aload_n hx hb dL_law_808 rfl (lv_at hl 1 rfl) ?_
  refine lv_aload_n hx hb dL_law_809 rfl (lv_at hl 0 rfl) ?_
  refine lv_iload_n hx hb dL_law_810 rfl (lv_at hl 3 rfl) ?_
  refine lv_iconst (v := 1) hx hb dL_law_811 (by decide) ?_
  refine lv_iadd hx hb dL_law_812 ?_
  refine va_sld hx hb hX hbl hbA hS h1 dL_law_813 ?_
  refine lv_aload_n hx hb dL_law_814 rfl (lv_at hl 0 rfl) ?_
  refine lv_iload_n hx hb dL_law_815 rfl (lv_at hl 3 rfl) ?_
  refine lv_iconst (v := 2) hx hb dL_law_816 (by decide) ?_
  refine lv_iadd hx hb dL_law_817 ?_
  refine va_sld hx hb hX hbl hbA hS h2 dL_law_818 ?_
  refine lw_call (As := [.int (xs (nI i + 1).toNatClampNeg), .int (xs (nI i + 2).toNatClampNeg)]) (rest := []) ⟨hx, hb, hml, hown, hts⟩ k8 (cwV 2 hts gL_law_X8_poor rfl rfl rfl (by decide +kernel) ⟨Nat.le_of_ble_eq_true rfl, Nat.le_of_ble_eq_true rfl⟩) hK hP hD hS hA 8 rfl rfl hV.h8 rfl hl.1 rfl (Nat.le_of_ble_eq_true rfl) dL_law_819 ⟨Nat.le_of_ble_eq_true rfl, Nat.le_of_ble_eq_true rfl⟩ (fun H locs hP hD hS => ?_)
  refine lv_aload_n hx hb dL_law_822 rfl (lv_at hl 2 rfl) ?_
  refine lv_aload_n hx hb dL_law_823 rfl (lv_at hl 0 rfl) ?_
  refine lv_iload_n hx hb dL_law_824 rfl (lv_at hl 3 rfl) ?_
  refine lv_iconst (v := 1) hx hb dL_law_825 (by decide) ?_
  refine lv_iadd hx hb dL_law_826 ?_
  refine va_sld hx hb hX hbl hbA hS h1 dL_law_827 ?_
  refine lv_aload_n hx hb dL_law_828 rfl (lv_at hl 0 rfl) ?_
  refine lv_iload_n hx hb dL_law_829 rfl (lv_at hl 3 rfl) ?_
  refine lv_iconst (v := 2) hx hb dL_law_830 (by decide) ?_
  refine lv_iadd hx hb dL_law_831 ?_
  refine va_sld hx hb hX hbl hbA hS h2 dL_law_832 ?_
  refine lw_call (As := [.int (xs (nI i + 1).toNatClampNeg), .int (xs (nI i + 2).toNatClampNeg)]) (rest := [.int r]) ⟨hx, hb, hml, hown, hts⟩ k9 (cwV 2 hts gL_law_X9_poor rfl rfl rfl (by decide +kernel) ⟨Nat.le_of_ble_eq_true rfl, Nat.le_of_ble_eq_true rfl⟩) hK hP hD hS hA 9 rfl rfl hV.h9 rfl hl.1 rfl (Nat.le_of_ble_eq_true rfl) dL_law_833 ⟨Nat.le_of_ble_eq_true rfl, Nat.le_of_ble_eq_true rfl⟩ (fun H locs hP hD hS => ?_)
  exact lv_icmp_eq (tgt := 1368) hx hb dL_law_836 (by decide) (fun _ => kk _ _ _ _ hV2 hP hD hS) (fun h => absurd rfl h)
set_option maxHeartbeats 4000000 in
set_option maxRecDepth 100000 in
theorem lk_stands (hx : p.tables.exec = Jvm.exec) (hb : c.code = cL_law) (hml : c.maxLocals = 4) (hown : s.vm.findClass RL = some m.cls) (hts : ∀ w ∈ wsL_law, w.before #[Value.ref b] s = true) (hX : va_X b L xs s s.heap) (hbl : b < s.heap.size) (hbA : ¬ A b) (hA : ∀ q : Nat, s.heap.size ≤ q → A q) (hL : L ≤ 2560) (hi : i + 5 ≤ L) (hK : va_K D vwCl (tys5 cI cB cZ cS cT) s) (hV : LV cI cB cZ cS cT q8 q9 B w8 w9) (hB : B < 2 ^ 30) (hP : va_P D vwCl (w8 ++ w9) H) (hD : va_D A (w8 ++ w9)) (hS : va_S A s.heap H locs) (hl : lv_has ls 4 [(0, .ref b), (1, .ref q8), (2, .ref q9), (3, .int (nI i))])
    (kk : ∀ (w8' w9' : va_W) (H : Heap) (locs : List Loc), LV cI cB cZ cS cT q8 q9 (B + 1000) w8' w9' → va_P D vwCl (w8' ++ w9') H → va_D A (w8' ++ w9') → va_S A s.heap H locs → W p l e room_1 s m #[Value.ref b] below meth c H locs 88 2934 Q (F0 m 1368 ls [])) : W p l e room_1 s m #[Value.ref b] below meth c H locs 88 2934 Q (F0 m 841 ls []) := by
  have h1 : vp_in (nI i + 1) L := by
    rw [show nI i + 1 = nI (i + 1) from nI_add i 1]
    exact vp_in_nI (by omega) (by omega)
  obtain ⟨r, w8', w9', k8, k9, hV2⟩ := cs_stands (l := l) (D := D) hV hB (xs (nI i + 1).toNatClampNeg)
  refine lv_aload_n hx hb dL_law_841 rfl (lv_at hl 1 rfl) ?_
  refine lv_aload_n hx hb dL_law_842 rfl (lv_at hl 0 rfl) ?_
  refine lv_iload_n hx hb dL_law_843 rfl (lv_at hl 3 rfl) ?_
  refine lv_iconst (v := 1) hx hb dL_law_844 (by decide) ?_
  refine lv_iadd hx hb dL_law_845 ?_
  refine va_sld hx hb hX hbl hbA hS h1 dL_law_846 ?_
  refine lw_call (As := [.int (xs (nI i + 1).toNatClampNeg)]) (rest := []) ⟨hx, hb, hml, hown, hts⟩ k8 (cwV 1 hts gL_law_X8_stands rfl rfl rfl (by decide +kernel) ⟨Nat.le_of_ble_eq_true rfl, Nat.le_of_ble_eq_true rfl⟩) hK hP hD hS hA 8 rfl rfl hV.h8 rfl hl.1 rfl (Nat.le_of_ble_eq_true rfl) dL_law_847 ⟨Nat.le_of_ble_eq_true rfl, Nat.le_of_ble_eq_true rfl⟩ (fun H locs hP hD hS => ?_)
  refine lv_aload_n hx hb dL_law_850 rfl (lv_at hl 2 rfl) ?_
  refine lv_aload_n hx hb dL_law_851 rfl (lv_at hl 0 rfl) ?_
  refine lv_iload_n hx hb dL_law_852 rfl (lv_at hl 3 rfl) ?_
  refine lv_iconst (v := 1) hx hb dL_law_853 (by decide) ?_
  refine lv_iadd hx hb dL_law_854 ?_
  refine va_sld hx hb hX hbl hbA hS h1 dL_law_855 ?_
  refine lw_call (As := [.int (xs (nI i + 1).toNatClampNeg)]) (rest := [.int r]) ⟨hx, hb, hml, hown, hts⟩ k9 (cwV 1 hts gL_law_X9_stands rfl rfl rfl (by decide +kernel) ⟨Nat.le_of_ble_eq_true rfl, Nat.le_of_ble_eq_true rfl⟩) hK hP hD hS hA 9 rfl rfl hV.h9 rfl hl.1 rfl (Nat.le_of_ble_eq_true rfl) dL_law_856 ⟨Nat.le_of_ble_eq_true rfl, Nat.le_of_ble_eq_true rfl⟩ (fun H locs hP hD hS => ?_)
  exact lv_icmp_eq (tgt := 1368) hx hb dL_law_859 (by decide) (fun _ => kk _ _ _ _ hV2 hP hD hS) (fun h => absurd rfl h)
set_option maxHeartbeats 4000000 in
set_option maxRecDepth 100000 in
theorem lk_order (hx : p.tables.exec = Jvm.exec) (hb : c.code = cL_law) (hml : c.maxLocals = 4) (hown : s.vm.findClass RL = some m.cls) (hts : ∀ w ∈ wsL_law, w.before #[Value.ref b] s = true) (hX : va_X b L xs s s.heap) (hbl : b < s.heap.size) (hbA : ¬ A b) (hA : ∀ q : Nat, s.heap.size ≤ q → A q) (hL : L ≤ 2560) (hi : i + 5 ≤ L) (hK : va_K D vwCl (tys5 cI cB cZ cS cT) s) (hV : LV cI cB cZ cS cT q8 q9 B w8 w9) (hB : B < 2 ^ 30) (hP : va_P D vwCl (w8 ++ w9) H) (hD : va_D A (w8 ++ w9)) (hS : va_S A s.heap H locs) (hl : lv_has ls 4 [(0, .ref b), (1, .ref q8), (2, .ref q9), (3, .int (nI i))])
    (kk : ∀ (w8' w9' : va_W) (H : Heap) (locs : List Loc), LV cI cB cZ cS cT q8 q9 (B + 1000) w8' w9' → va_P D vwCl (w8' ++ w9') H → va_D A (w8' ++ w9') → va_S A s.heap H locs → W p l e room_1 s m #[Value.ref b] below meth c H locs 88 2934 Q (F0 m 1368 ls [])) : W p l e room_1 s m #[Value.ref b] below meth c H locs 88 2934 Q (F0 m 864 ls []) := by
  have h1 : vp_in (nI i + 1) L := by
    rw [show nI i + 1 = nI (i + 1) from nI_add i 1]
    exact vp_in_nI (by omega) (by omega)
  obtain ⟨r, w8', w9', k8, k9, hV2⟩ := cs_order (l := l) (D := D) hV hB (xs (nI i + 1).toNatClampNeg)
  refine lv_aload_n hx hb dL_law_864 rfl (lv_at hl 1 rfl) ?_
  refine lv_aload_n hx hb dL_law_865 rfl (lv_at hl 0 rfl) ?_
  refine lv_iload_n hx hb dL_law_866 rfl (lv_at hl 3 rfl) ?_
  refine lv_iconst (v := 1) hx hb dL_law_867 (by decide) ?_
  refine lv_iadd hx hb dL_law_868 ?_
  refine va_sld hx hb hX hbl hbA hS h1 dL_law_869 ?_
  refine lw_call (As := [.int (xs (nI i + 1).toNatClampNeg)]) (rest := []) ⟨hx, hb, hml, hown, hts⟩ k8 (cwV 1 hts gL_law_X8_order rfl rfl rfl (by decide +kernel) ⟨Nat.le_of_ble_eq_true rfl, Nat.le_of_ble_eq_true rfl⟩) hK hP hD hS hA 8 rfl rfl hV.h8 rfl hl.1 rfl (Nat.le_of_ble_eq_true rfl) dL_law_870 ⟨Nat.le_of_ble_eq_true rfl, Nat.le_of_ble_eq_true rfl⟩ (fun H locs hP hD hS => ?_)
  refine lv_aload_n hx hb dL_law_873 rfl (lv_at hl 2 rfl) ?_
  refine lv_aload_n hx hb dL_law_874 rfl (lv_at hl 0 rfl) ?_
  refine lv_iload_n hx hb dL_law_875 rfl (lv_at hl 3 rfl) ?_
  refine lv_iconst (v := 1) hx hb dL_law_876 (by decide) ?_
  refine lv_iadd hx hb dL_law_877 ?_
  refine va_sld hx hb hX hbl hbA hS h1 dL_law_878 ?_
  refine lw_call (As := [.int (xs (nI i + 1).toNatClampNeg)]) (rest := [.int r]) ⟨hx, hb, hml, hown, hts⟩ k9 (cwV 1 hts gL_law_X9_order rfl rfl rfl (by decide +kernel) ⟨Nat.le_of_ble_eq_true rfl, Nat.le_of_ble_eq_true rfl⟩) hK hP hD hS hA 9 rfl rfl hV.h9 rfl hl.1 rfl (Nat.le_of_ble_eq_true rfl) dL_law_879 ⟨Nat.le_of_ble_eq_true rfl, Nat.le_of_ble_eq_true rfl⟩ (fun H locs hP hD hS => ?_)
  exact lv_icmp_eq (tgt := 1368) hx hb dL_law_882 (by decide) (fun _ => kk _ _ _ _ hV2 hP hD hS) (fun h => absurd rfl h)
set_option maxHeartbeats 4000000 in
set_option maxRecDepth 100000 in
theorem lk_rings (hx : p.tables.exec = Jvm.exec) (hb : c.code = cL_law) (hml : c.maxLocals = 4) (hown : s.vm.findClass RL = some m.cls) (hts : ∀ w ∈ wsL_law, w.before #[Value.ref b] s = true) (hX : va_X b L xs s s.heap) (hbl : b < s.heap.size) (hbA : ¬ A b) (hA : ∀ q : Nat, s.heap.size ≤ q → A q) (hL : L ≤ 2560) (hi : i + 5 ≤ L) (hK : va_K D vwCl (tys5 cI cB cZ cS cT) s) (hV : LV cI cB cZ cS cT q8 q9 B w8 w9) (hB : B < 2 ^ 30) (hP : va_P D vwCl (w8 ++ w9) H) (hD : va_D A (w8 ++ w9)) (hS : va_S A s.heap H locs) (hl : lv_has ls 4 [(0, .ref b), (1, .ref q8), (2, .ref q9), (3, .int (nI i))])
    (kk : ∀ (w8' w9' : va_W) (H : Heap) (locs : List Loc), LV cI cB cZ cS cT q8 q9 (B + 1000) w8' w9' → va_P D vwCl (w8' ++ w9') H → va_D A (w8' ++ w9') → va_S A s.heap H locs → W p l e room_1 s m #[Value.ref b] below meth c H locs 88 2934 Q (F0 m 1368 ls [])) : W p l e room_1 s m #[Value.ref b] below meth c H locs 88 2934 Q (F0 m 887 ls []) := by
  obtain ⟨r, w8', w9', k8, k9, hV2⟩ := cs_rings (l := l) (D := D) hV hB
  refine lv_aload_n hx hb dL_law_887 rfl (lv_at hl 1 rfl) ?_
  refine lw_call (As := []) (rest := []) ⟨hx, hb, hml, hown, hts⟩ k8 (cwV 0 hts gL_law_X8_rings rfl rfl rfl (by decide +kernel) ⟨Nat.le_of_ble_eq_true rfl, Nat.le_of_ble_eq_true rfl⟩) hK hP hD hS hA 8 rfl rfl hV.h8 rfl hl.1 rfl (Nat.le_of_ble_eq_true rfl) dL_law_888 ⟨Nat.le_of_ble_eq_true rfl, Nat.le_of_ble_eq_true rfl⟩ (fun H locs hP hD hS => ?_)
  refine lv_aload_n hx hb dL_law_891 rfl (lv_at hl 2 rfl) ?_
  refine lw_call (As := []) (rest := [.int r]) ⟨hx, hb, hml, hown, hts⟩ k9 (cwV 0 hts gL_law_X9_rings rfl rfl rfl (by decide +kernel) ⟨Nat.le_of_ble_eq_true rfl, Nat.le_of_ble_eq_true rfl⟩) hK hP hD hS hA 9 rfl rfl hV.h9 rfl hl.1 rfl (Nat.le_of_ble_eq_true rfl) dL_law_892 ⟨Nat.le_of_ble_eq_true rfl, Nat.le_of_ble_eq_true rfl⟩ (fun H locs hP hD hS => ?_)
  exact lv_icmp_eq (tgt := 1368) hx hb dL_law_895 (by decide) (fun _ => kk _ _ _ _ hV2 hP hD hS) (fun h => absurd rfl h)
set_option maxHeartbeats 4000000 in
set_option maxRecDepth 100000 in
theorem lk_shop (hx : p.tables.exec = Jvm.exec) (hb : c.code = cL_law) (hml : c.maxLocals = 4) (hown : s.vm.findClass RL = some m.cls) (hts : ∀ w ∈ wsL_law, w.before #[Value.ref b] s = true) (hX : va_X b L xs s s.heap) (hbl : b < s.heap.size) (hbA : ¬ A b) (hA : ∀ q : Nat, s.heap.size ≤ q → A q) (hL : L ≤ 2560) (hi : i + 5 ≤ L) (hK : va_K D vwCl (tys5 cI cB cZ cS cT) s) (hV : LV cI cB cZ cS cT q8 q9 B w8 w9) (hB : B < 2 ^ 30) (hP : va_P D vwCl (w8 ++ w9) H) (hD : va_D A (w8 ++ w9)) (hS : va_S A s.heap H locs) (hl : lv_has ls 4 [(0, .ref b), (1, .ref q8), (2, .ref q9), (3, .int (nI i))])
    (kk : ∀ (w8' w9' : va_W) (H : Heap) (locs : List Loc), LV cI cB cZ cS cT q8 q9 (B + 1000) w8' w9' → va_P D vwCl (w8' ++ w9') H → va_D A (w8' ++ w9') → va_S A s.heap H locs → W p l e room_1 s m #[Value.ref b] below meth c H locs 88 2934 Q (F0 m 1368 ls [])) : W p l e room_1 s m #[Value.ref b] below meth c H locs 88 2934 Q (F0 m 900 ls []) := by
  have h1 : vp_in (nI i + 1) L := by
    rw [show nI i + 1 = nI (i + 1) from nI_add i 1]
    exact vp_in_nI (by omega) (by omega)
  obtain ⟨r, w8', w9', k8, k9, hV2⟩ := cs_shop (l := l) (D := D) hV hB (xs (nI i + 1).toNatClampNeg)
  refine lv_aload_n hx hb dL_law_900 rfl (lv_at hl 1 rfl) ?_
  refine lv_aload_n hx hb dL_law_901 rfl (lv_at hl 0 rfl) ?_
  refine lv_iload_n hx hb dL_law_902 rfl (lv_at hl 3 rfl) ?_
  refine lv_iconst (v := 1) hx hb dL_law_903 (by decide) ?_
  refine lv_iadd hx hb dL_law_904 ?_
  refine va_sld hx hb hX hbl hbA hS h1 dL_law_905 ?_
  refine lw_call (As := [.int (xs (nI i + 1).toNatClampNeg)]) (rest := []) ⟨hx, hb, hml, hown, hts⟩ k8 (cwV 1 hts gL_law_X8_shop rfl rfl rfl (by decide +kernel) ⟨Nat.le_of_ble_eq_true rfl, Nat.le_of_ble_eq_true rfl⟩) hK hP hD hS hA 8 rfl rfl hV.h8 rfl hl.1 rfl (Nat.le_of_ble_eq_true rfl) dL_law_906 ⟨Nat.le_of_ble_eq_true rfl, Nat.le_of_ble_eq_true rfl⟩ (fun H locs hP hD hS => ?_)
  refine lv_aload_n hx hb dL_law_909 rfl (lv_at hl 2 rfl) ?_
  refine lv_aload_n hx hb dL_law_910 rfl (lv_at hl 0 rfl) ?_
  refine lv_iload_n hx hb dL_law_911 rfl (lv_at hl 3 rfl) ?_
  refine lv_iconst (v := 1) hx hb dL_law_912 (by decide) ?_
  refine lv_iadd hx hb dL_law_913 ?_
  refine va_sld hx hb hX hbl hbA hS h1 dL_law_914 ?_
  refine lw_call (As := [.int (xs (nI i + 1).toNatClampNeg)]) (rest := [.int r]) ⟨hx, hb, hml, hown, hts⟩ k9 (cwV 1 hts gL_law_X9_shop rfl rfl rfl (by decide +kernel) ⟨Nat.le_of_ble_eq_true rfl, Nat.le_of_ble_eq_true rfl⟩) hK hP hD hS hA 9 rfl rfl hV.h9 rfl hl.1 rfl (Nat.le_of_ble_eq_true rfl) dL_law_915 ⟨Nat.le_of_ble_eq_true rfl, Nat.le_of_ble_eq_true rfl⟩ (fun H locs hP hD hS => ?_)
  exact lv_icmp_eq (tgt := 1368) hx hb dL_law_918 (by decide) (fun _ => kk _ _ _ _ hV2 hP hD hS) (fun h => absurd rfl h)
set_option maxHeartbeats 4000000 in
set_option maxRecDepth 100000 in
theorem lk_clear (hx : p.tables.exec = Jvm.exec) (hb : c.code = cL_law) (hml : c.maxLocals = 4) (hown : s.vm.findClass RL = some m.cls) (hts : ∀ w ∈ wsL_law, w.before #[Value.ref b] s = true) (hX : va_X b L xs s s.heap) (hbl : b < s.heap.size) (hbA : ¬ A b) (hA : ∀ q : Nat, s.heap.size ≤ q → A q) (hL : L ≤ 2560) (hi : i + 5 ≤ L) (hK : va_K D vwCl (tys5 cI cB cZ cS cT) s) (hV : LV cI cB cZ cS cT q8 q9 B w8 w9) (hB : B < 2 ^ 30) (hP : va_P D vwCl (w8 ++ w9) H) (hD : va_D A (w8 ++ w9)) (hS : va_S A s.heap H locs) (hl : lv_has ls 4 [(0, .ref b), (1, .ref q8), (2, .ref q9), (3, .int (nI i))])
    (kk : ∀ (w8' w9' : va_W) (H : Heap) (locs : List Loc), LV cI cB cZ cS cT q8 q9 (B + 1000) w8' w9' → va_P D vwCl (w8' ++ w9') H → va_D A (w8' ++ w9') → va_S A s.heap H locs → W p l e room_1 s m #[Value.ref b] below meth c H locs 88 2934 Q (F0 m 1368 ls [])) : W p l e room_1 s m #[Value.ref b] below meth c H locs 88 2934 Q (F0 m 923 ls []) := by
  have h1 : vp_in (nI i + 1) L := by
    rw [show nI i + 1 = nI (i + 1) from nI_add i 1]
    exact vp_in_nI (by omega) (by omega)
  have h2 : vp_in (nI i + 2) L := by
    rw [show nI i + 2 = nI (i + 2) from nI_add i 2]
    exact vp_in_nI (by omega) (by omega)
  have h3 : vp_in (nI i + 3) L := by
    rw [show nI i + 3 = nI (i + 3) from nI_add i 3]
    exact vp_in_nI (by omega) (by omega)
  obtain ⟨r, w8', w9', k8, k9, hV2⟩ := cs_clear (l := l) (D := D) hV hB (xs (nI i + 1).toNatClampNeg) (xs (nI i + 2).toNatClampNeg) (xs (nI i + 3).toNatClampNeg)
  refine lv_aload_n hx hb dL_law_923 rfl (lv_at hl 1 rfl) ?_
  refine lv_aload_n hx hb dL_law_924 rfl (lv_at hl 0 rfl) ?_
  refine lv_iload_n hx hb dL_law_925 rfl (lv_at hl 3 rfl) ?_
  refine lv_iconst (v := 1) hx hb dL_law_926 (by decide) ?_
  refine lv_iadd hx hb dL_law_927 ?_
  refine va_sld hx hb hX hbl hbA hS h1 dL_law_928 ?_
  refine lv_aload_n hx hb dL_law_929 rfl (lv_at hl 0 rfl) ?_
  refine lv_iload_n hx hb dL_law_930 rfl (lv_at hl 3 rfl) ?_
  refine lv_iconst (v := 2) hx hb dL_law_931 (by decide) ?_
  refine lv_iadd hx hb dL_law_932 ?_
  refine va_sld hx hb hX hbl hbA hS h2 dL_law_933 ?_
  refine lv_aload_n hx hb dL_law_934 rfl (lv_at hl 0 rfl) ?_
  refine lv_iload_n hx hb dL_law_935 rfl (lv_at hl 3 rfl) ?_
  refine lv_iconst (v := 3) hx hb dL_law_936 (by decide) ?_
  refine lv_iadd hx hb dL_law_937 ?_
  refine va_sld hx hb hX hbl hbA hS h3 dL_law_938 ?_
  refine lw_call (As := [.int (xs (nI i + 1).toNatClampNeg), .int (xs (nI i + 2).toNatClampNeg), .int (xs (nI i + 3).toNatClampNeg)]) (rest := []) ⟨hx, hb, hml, hown, hts⟩ k8 (cwV 3 hts gL_law_X8_clear rfl rfl rfl (by decide +kernel) ⟨Nat.le_of_ble_eq_true rfl, Nat.le_of_ble_eq_true rfl⟩) hK hP hD hS hA 8 rfl rfl hV.h8 rfl hl.1 rfl (Nat.le_of_ble_eq_true rfl) dL_law_939 ⟨Nat.le_of_ble_eq_true rfl, Nat.le_of_ble_eq_true rfl⟩ (fun H locs hP hD hS => ?_)
  refine lv_aload_n hx hb dL_law_942 rfl (lv_at hl 2 rfl) ?_
  refine lv_aload_n hx hb dL_law_943 rfl (lv_at hl 0 rfl) ?_
  refine lv_iload_n hx hb dL_law_944 rfl (lv_at hl 3 rfl) ?_
  refine lv_iconst (v := 1) hx hb dL_law_945 (by decide) ?_
  refine lv_iadd hx hb dL_law_946 ?_
  refine va_sld hx hb hX hbl hbA hS h1 dL_law_947 ?_
  refine lv_aload_n hx hb dL_law_948 rfl (lv_at hl 0 rfl) ?_
  refine lv_iload_n hx hb dL_law_949 rfl (lv_at hl 3 rfl) ?_
  refine lv_iconst (v := 2) hx hb dL_law_950 (by decide) ?_
  refine lv_iadd hx hb dL_law_951 ?_
  refine va_sld hx hb hX hbl hbA hS h2 dL_law_952 ?_
  refine lv_aload_n hx hb dL_law_953 rfl (lv_at hl 0 rfl) ?_
  refine lv_iload_n hx hb dL_law_954 rfl (lv_at hl 3 rfl) ?_
  refine lv_iconst (v := 3) hx hb dL_law_955 (by decide) ?_
  refine lv_iadd hx hb dL_law_956 ?_
  refine va_sld hx hb hX hbl hbA hS h3 dL_law_957 ?_
  refine lw_call (As := [.int (xs (nI i + 1).toNatClampNeg), .int (xs (nI i + 2).toNatClampNeg), .int (xs (nI i + 3).toNatClampNeg)]) (rest := [.int r]) ⟨hx, hb, hml, hown, hts⟩ k9 (cwV 3 hts gL_law_X9_clear rfl rfl rfl (by decide +kernel) ⟨Nat.le_of_ble_eq_true rfl, Nat.le_of_ble_eq_true rfl⟩) hK hP hD hS hA 9 rfl rfl hV.h9 rfl hl.1 rfl (Nat.le_of_ble_eq_true rfl) dL_law_958 ⟨Nat.le_of_ble_eq_true rfl, Nat.le_of_ble_eq_true rfl⟩ (fun H locs hP hD hS => ?_)
  exact lv_icmp_eq (tgt := 1368) hx hb dL_law_961 (by decide) (fun _ => kk _ _ _ _ hV2 hP hD hS) (fun h => absurd rfl h)
set_option maxHeartbeats 4000000 in
set_option maxRecDepth 100000 in
theorem lk_door (hx : p.tables.exec = Jvm.exec) (hb : c.code = cL_law) (hml : c.maxLocals = 4) (hown : s.vm.findClass RL = some m.cls) (hts : ∀ w ∈ wsL_law, w.before #[Value.ref b] s = true) (hX : va_X b L xs s s.heap) (hbl : b < s.heap.size) (hbA : ¬ A b) (hA : ∀ q : Nat, s.heap.size ≤ q → A q) (hL : L ≤ 2560) (hi : i + 5 ≤ L) (hK : va_K D vwCl (tys5 cI cB cZ cS cT) s) (hV : LV cI cB cZ cS cT q8 q9 B w8 w9) (hB : B < 2 ^ 30) (hP : va_P D vwCl (w8 ++ w9) H) (hD : va_D A (w8 ++ w9)) (hS : va_S A s.heap H locs) (hl : lv_has ls 4 [(0, .ref b), (1, .ref q8), (2, .ref q9), (3, .int (nI i))])
    (kk : ∀ (w8' w9' : va_W) (H : Heap) (locs : List Loc), LV cI cB cZ cS cT q8 q9 (B + 1000) w8' w9' → va_P D vwCl (w8' ++ w9') H → va_D A (w8' ++ w9') → va_S A s.heap H locs → W p l e room_1 s m #[Value.ref b] below meth c H locs 88 2934 Q (F0 m 1368 ls [])) : W p l e room_1 s m #[Value.ref b] below meth c H locs 88 2934 Q (F0 m 966 ls []) := by
  have h1 : vp_in (nI i + 1) L := by
    rw [show nI i + 1 = nI (i + 1) from nI_add i 1]
    exact vp_in_nI (by omega) (by omega)
  have h2 : vp_in (nI i + 2) L := by
    rw [show nI i + 2 = nI (i + 2) from nI_add i 2]
    exact vp_in_nI (by omega) (by omega)
  obtain ⟨r, w8', w9', k8, k9, hV2⟩ := cs_door (l := l) (D := D) hV hB (xs (nI i + 1).toNatClampNeg) (xs (nI i + 2).toNatClampNeg)
  refine lv_aload_n hx hb dL_law_966 rfl (lv_at hl 1 rfl) ?_
  refine lv_aload_n hx hb dL_law_967 rfl (lv_at hl 0 rfl) ?_
  refine lv_iload_n hx hb dL_law_968 rfl (lv_at hl 3 rfl) ?_
  refine lv_iconst (v := 1) hx hb dL_law_969 (by decide) ?_
  refine lv_iadd hx hb dL_law_970 ?_
  refine va_sld hx hb hX hbl hbA hS h1 dL_law_971 ?_
  refine lv_aload_n hx hb dL_law_972 rfl (lv_at hl 0 rfl) ?_
  refine lv_iload_n hx hb dL_law_973 rfl (lv_at hl 3 rfl) ?_
  refine lv_iconst (v := 2) hx hb dL_law_974 (by decide) ?_
  refine lv_iadd hx hb dL_law_975 ?_
  refine va_sld hx hb hX hbl hbA hS h2 dL_law_976 ?_
  refine lw_call (As := [.int (xs (nI i + 1).toNatClampNeg), .int (xs (nI i + 2).toNatClampNeg)]) (rest := []) ⟨hx, hb, hml, hown, hts⟩ k8 (cwV 2 hts gL_law_X8_door rfl rfl rfl (by decide +kernel) ⟨Nat.le_of_ble_eq_true rfl, Nat.le_of_ble_eq_true rfl⟩) hK hP hD hS hA 8 rfl rfl hV.h8 rfl hl.1 rfl (Nat.le_of_ble_eq_true rfl) dL_law_977 ⟨Nat.le_of_ble_eq_true rfl, Nat.le_of_ble_eq_true rfl⟩ (fun H locs hP hD hS => ?_)
  refine lv_aload_n hx hb dL_law_980 rfl (lv_at hl 2 rfl) ?_
  refine lv_aload_n hx hb dL_law_981 rfl (lv_at hl 0 rfl) ?_
  refine lv_iload_n hx hb dL_law_982 rfl (lv_at hl 3 rfl) ?_
  refine lv_iconst (v := 1) hx hb dL_law_983 (by decide) ?_
  refine lv_iadd hx hb dL_law_984 ?_
  refine va_sld hx hb hX hbl hbA hS h1 dL_law_985 ?_
  refine lv_aload_n hx hb dL_law_986 rfl (lv_at hl 0 rfl) ?_
  refine lv_iload_n hx hb dL_law_987 rfl (lv_at hl 3 rfl) ?_
  refine lv_iconst (v := 2) hx hb dL_law_988 (by decide) ?_
  refine lv_iadd hx hb dL_law_989 ?_
  refine va_sld hx hb hX hbl hbA hS h2 dL_law_990 ?_
  refine lw_call (As := [.int (xs (nI i + 1).toNatClampNeg), .int (xs (nI i + 2).toNatClampNeg)]) (rest := [.int r]) ⟨hx, hb, hml, hown, hts⟩ k9 (cwV 2 hts gL_law_X9_door rfl rfl rfl (by decide +kernel) ⟨Nat.le_of_ble_eq_true rfl, Nat.le_of_ble_eq_true rfl⟩) hK hP hD hS hA 9 rfl rfl hV.h9 rfl hl.1 rfl (Nat.le_of_ble_eq_true rfl) dL_law_991 ⟨Nat.le_of_ble_eq_true rfl, Nat.le_of_ble_eq_true rfl⟩ (fun H locs hP hD hS => ?_)
  exact lv_icmp_eq (tgt := 1368) hx hb dL_law_994 (by decide) (fun _ => kk _ _ _ _ hV2 hP hD hS) (fun h => absurd rfl h)
set_option maxHeartbeats 4000000 in
set_option maxRecDepth 100000 in
theorem lk_buy (hx : p.tables.exec = Jvm.exec) (hb : c.code = cL_law) (hml : c.maxLocals = 4) (hown : s.vm.findClass RL = some m.cls) (hts : ∀ w ∈ wsL_law, w.before #[Value.ref b] s = true) (hX : va_X b L xs s s.heap) (hbl : b < s.heap.size) (hbA : ¬ A b) (hA : ∀ q : Nat, s.heap.size ≤ q → A q) (hL : L ≤ 2560) (hi : i + 5 ≤ L) (hK : va_K D vwCl (tys5 cI cB cZ cS cT) s) (hV : LV cI cB cZ cS cT q8 q9 B w8 w9) (hB : B < 2 ^ 30) (hP : va_P D vwCl (w8 ++ w9) H) (hD : va_D A (w8 ++ w9)) (hS : va_S A s.heap H locs) (hl : lv_has ls 4 [(0, .ref b), (1, .ref q8), (2, .ref q9), (3, .int (nI i))])
    (kk : ∀ (w8' w9' : va_W) (H : Heap) (locs : List Loc), LV cI cB cZ cS cT q8 q9 (B + 1000) w8' w9' → va_P D vwCl (w8' ++ w9') H → va_D A (w8' ++ w9') → va_S A s.heap H locs → W p l e room_1 s m #[Value.ref b] below meth c H locs 88 2934 Q (F0 m 1368 ls [])) : W p l e room_1 s m #[Value.ref b] below meth c H locs 88 2934 Q (F0 m 999 ls []) := by
  have h1 : vp_in (nI i + 1) L := by
    rw [show nI i + 1 = nI (i + 1) from nI_add i 1]
    exact vp_in_nI (by omega) (by omega)
  have h2 : vp_in (nI i + 2) L := by
    rw [show nI i + 2 = nI (i + 2) from nI_add i 2]
    exact vp_in_nI (by omega) (by omega)
  obtain ⟨r, w8', w9', k8, k9, hV2⟩ := cs_buy (l := l) (D := D) hV hB (xs (nI i + 1).toNatClampNeg) (xs (nI i + 2).toNatClampNeg)
  refine lv_aload_n hx hb dL_law_999 rfl (lv_at hl 1 rfl) ?_
  refine lv_aload_n hx hb dL_law_1000 rfl (lv_at hl 0 rfl) ?_
  refine lv_iload_n hx hb dL_law_1001 rfl (lv_at hl 3 rfl) ?_
  refine lv_iconst (v := 1) hx hb dL_law_1002 (by decide) ?_
  refine lv_iadd hx hb dL_law_1003 ?_
  refine va_sld hx hb hX hbl hbA hS h1 dL_law_1004 ?_
  refine lv_aload_n hx hb dL_law_1005 rfl (lv_at hl 0 rfl) ?_
  refine lv_iload_n hx hb dL_law_1006 rfl (lv_at hl 3 rfl) ?_
  refine lv_iconst (v := 2) hx hb dL_law_1007 (by decide) ?_
  refine lv_iadd hx hb dL_law_1008 ?_
  refine va_sld hx hb hX hbl hbA hS h2 dL_law_1009 ?_
  refine lw_call (As := [.int (xs (nI i + 1).toNatClampNeg), .int (xs (nI i + 2).toNatClampNeg)]) (rest := []) ⟨hx, hb, hml, hown, hts⟩ k8 (cwV 2 hts gL_law_X8_buy rfl rfl rfl (by decide +kernel) ⟨Nat.le_of_ble_eq_true rfl, Nat.le_of_ble_eq_true rfl⟩) hK hP hD hS hA 8 rfl rfl hV.h8 rfl hl.1 rfl (Nat.le_of_ble_eq_true rfl) dL_law_1010 ⟨Nat.le_of_ble_eq_true rfl, Nat.le_of_ble_eq_true rfl⟩ (fun H locs hP hD hS => ?_)
  refine lv_aload_n hx hb dL_law_1013 rfl (lv_at hl 2 rfl) ?_
  refine lv_aload_n hx hb dL_law_1014 rfl (lv_at hl 0 rfl) ?_
  refine lv_iload_n hx hb dL_law_1015 rfl (lv_at hl 3 rfl) ?_
  refine lv_iconst (v := 1) hx hb dL_law_1016 (by decide) ?_
  refine lv_iadd hx hb dL_law_1017 ?_
  refine va_sld hx hb hX hbl hbA hS h1 dL_law_1018 ?_
  refine lv_aload_n hx hb dL_law_1019 rfl (lv_at hl 0 rfl) ?_
  refine lv_iload_n hx hb dL_law_1020 rfl (lv_at hl 3 rfl) ?_
  refine lv_iconst (v := 2) hx hb dL_law_1021 (by decide) ?_
  refine lv_iadd hx hb dL_law_1022 ?_
  refine va_sld hx hb hX hbl hbA hS h2 dL_law_1023 ?_
  refine lw_call (As := [.int (xs (nI i + 1).toNatClampNeg), .int (xs (nI i + 2).toNatClampNeg)]) (rest := [.int r]) ⟨hx, hb, hml, hown, hts⟩ k9 (cwV 2 hts gL_law_X9_buy rfl rfl rfl (by decide +kernel) ⟨Nat.le_of_ble_eq_true rfl, Nat.le_of_ble_eq_true rfl⟩) hK hP hD hS hA 9 rfl rfl hV.h9 rfl hl.1 rfl (Nat.le_of_ble_eq_true rfl) dL_law_1024 ⟨Nat.le_of_ble_eq_true rfl, Nat.le_of_ble_eq_true rfl⟩ (fun H locs hP hD hS => ?_)
  exact lv_icmp_eq (tgt := 1368) hx hb dL_law_1027 (by decide) (fun _ => kk _ _ _ _ hV2 hP hD hS) (fun h => absurd rfl h)
set_option maxHeartbeats 4000000 in
set_option maxRecDepth 100000 in
theorem lk_see (hx : p.tables.exec = Jvm.exec) (hb : c.code = cL_law) (hml : c.maxLocals = 4) (hown : s.vm.findClass RL = some m.cls) (hts : ∀ w ∈ wsL_law, w.before #[Value.ref b] s = true) (hX : va_X b L xs s s.heap) (hbl : b < s.heap.size) (hbA : ¬ A b) (hA : ∀ q : Nat, s.heap.size ≤ q → A q) (hL : L ≤ 2560) (hi : i + 5 ≤ L) (hK : va_K D vwCl (tys5 cI cB cZ cS cT) s) (hV : LV cI cB cZ cS cT q8 q9 B w8 w9) (hB : B < 2 ^ 30) (hP : va_P D vwCl (w8 ++ w9) H) (hD : va_D A (w8 ++ w9)) (hS : va_S A s.heap H locs) (hl : lv_has ls 4 [(0, .ref b), (1, .ref q8), (2, .ref q9), (3, .int (nI i))])
    (kk : ∀ (w8' w9' : va_W) (H : Heap) (locs : List Loc), LV cI cB cZ cS cT q8 q9 (B + 1000) w8' w9' → va_P D vwCl (w8' ++ w9') H → va_D A (w8' ++ w9') → va_S A s.heap H locs → W p l e room_1 s m #[Value.ref b] below meth c H locs 88 2934 Q (F0 m 1368 ls [])) : W p l e room_1 s m #[Value.ref b] below meth c H locs 88 2934 Q (F0 m 1032 ls []) := by
  have h1 : vp_in (nI i + 1) L := by
    rw [show nI i + 1 = nI (i + 1) from nI_add i 1]
    exact vp_in_nI (by omega) (by omega)
  obtain ⟨r, w8', w9', k8, k9, hV2⟩ := cs_see (l := l) (D := D) hV hB (xs (nI i + 1).toNatClampNeg)
  refine lv_aload_n hx hb dL_law_1032 rfl (lv_at hl 1 rfl) ?_
  refine lv_aload_n hx hb dL_law_1033 rfl (lv_at hl 0 rfl) ?_
  refine lv_iload_n hx hb dL_law_1034 rfl (lv_at hl 3 rfl) ?_
  refine lv_iconst (v := 1) hx hb dL_law_1035 (by decide) ?_
  refine lv_iadd hx hb dL_law_1036 ?_
  refine va_sld hx hb hX hbl hbA hS h1 dL_law_1037 ?_
  refine lw_call (As := [.int (xs (nI i + 1).toNatClampNeg)]) (rest := []) ⟨hx, hb, hml, hown, hts⟩ k8 (cwV 1 hts gL_law_X8_see rfl rfl rfl (by decide +kernel) ⟨Nat.le_of_ble_eq_true rfl, Nat.le_of_ble_eq_true rfl⟩) hK hP hD hS hA 8 rfl rfl hV.h8 rfl hl.1 rfl (Nat.le_of_ble_eq_true rfl) dL_law_1038 ⟨Nat.le_of_ble_eq_true rfl, Nat.le_of_ble_eq_true rfl⟩ (fun H locs hP hD hS => ?_)
  refine lv_aload_n hx hb dL_law_1041 rfl (lv_at hl 2 rfl) ?_
  refine lv_aload_n hx hb dL_law_1042 rfl (lv_at hl 0 rfl) ?_
  refine lv_iload_n hx hb dL_law_1043 rfl (lv_at hl 3 rfl) ?_
  refine lv_iconst (v := 1) hx hb dL_law_1044 (by decide) ?_
  refine lv_iadd hx hb dL_law_1045 ?_
  refine va_sld hx hb hX hbl hbA hS h1 dL_law_1046 ?_
  refine lw_call (As := [.int (xs (nI i + 1).toNatClampNeg)]) (rest := [.int r]) ⟨hx, hb, hml, hown, hts⟩ k9 (cwV 1 hts gL_law_X9_see rfl rfl rfl (by decide +kernel) ⟨Nat.le_of_ble_eq_true rfl, Nat.le_of_ble_eq_true rfl⟩) hK hP hD hS hA 9 rfl rfl hV.h9 rfl hl.1 rfl (Nat.le_of_ble_eq_true rfl) dL_law_1047 ⟨Nat.le_of_ble_eq_true rfl, Nat.le_of_ble_eq_true rfl⟩ (fun H locs hP hD hS => ?_)
  exact lv_icmp_eq (tgt := 1368) hx hb dL_law_1050 (by decide) (fun _ => kk _ _ _ _ hV2 hP hD hS) (fun h => absurd rfl h)
set_option maxHeartbeats 4000000 in
set_option maxRecDepth 100000 in
theorem lk_forget (hx : p.tables.exec = Jvm.exec) (hb : c.code = cL_law) (hml : c.maxLocals = 4) (hown : s.vm.findClass RL = some m.cls) (hts : ∀ w ∈ wsL_law, w.before #[Value.ref b] s = true) (hX : va_X b L xs s s.heap) (hbl : b < s.heap.size) (hbA : ¬ A b) (hA : ∀ q : Nat, s.heap.size ≤ q → A q) (hL : L ≤ 2560) (hi : i + 5 ≤ L) (hK : va_K D vwCl (tys5 cI cB cZ cS cT) s) (hV : LV cI cB cZ cS cT q8 q9 B w8 w9) (hB : B < 2 ^ 30) (hP : va_P D vwCl (w8 ++ w9) H) (hD : va_D A (w8 ++ w9)) (hS : va_S A s.heap H locs) (hl : lv_has ls 4 [(0, .ref b), (1, .ref q8), (2, .ref q9), (3, .int (nI i))])
    (kk : ∀ (w8' w9' : va_W) (H : Heap) (locs : List Loc), LV cI cB cZ cS cT q8 q9 (B + 1000) w8' w9' → va_P D vwCl (w8' ++ w9') H → va_D A (w8' ++ w9') → va_S A s.heap H locs → W p l e room_1 s m #[Value.ref b] below meth c H locs 88 2934 Q (F0 m 1368 ls [])) : W p l e room_1 s m #[Value.ref b] below meth c H locs 88 2934 Q (F0 m 1055 ls []) := by
  obtain ⟨r, w8', w9', k8, k9, hV2⟩ := cs_forget (l := l) (D := D) hV hB
  refine lv_aload_n hx hb dL_law_1055 rfl (lv_at hl 1 rfl) ?_
  refine lw_call (As := []) (rest := []) ⟨hx, hb, hml, hown, hts⟩ k8 (cwV 0 hts gL_law_X8_forget rfl rfl rfl (by decide +kernel) ⟨Nat.le_of_ble_eq_true rfl, Nat.le_of_ble_eq_true rfl⟩) hK hP hD hS hA 8 rfl rfl hV.h8 rfl hl.1 rfl (Nat.le_of_ble_eq_true rfl) dL_law_1056 ⟨Nat.le_of_ble_eq_true rfl, Nat.le_of_ble_eq_true rfl⟩ (fun H locs hP hD hS => ?_)
  refine lv_aload_n hx hb dL_law_1059 rfl (lv_at hl 2 rfl) ?_
  refine lw_call (As := []) (rest := [.int r]) ⟨hx, hb, hml, hown, hts⟩ k9 (cwV 0 hts gL_law_X9_forget rfl rfl rfl (by decide +kernel) ⟨Nat.le_of_ble_eq_true rfl, Nat.le_of_ble_eq_true rfl⟩) hK hP hD hS hA 9 rfl rfl hV.h9 rfl hl.1 rfl (Nat.le_of_ble_eq_true rfl) dL_law_1060 ⟨Nat.le_of_ble_eq_true rfl, Nat.le_of_ble_eq_true rfl⟩ (fun H locs hP hD hS => ?_)
  exact lv_icmp_eq (tgt := 1368) hx hb dL_law_1063 (by decide) (fun _ => kk _ _ _ _ hV2 hP hD hS) (fun h => absurd rfl h)
end LWK
