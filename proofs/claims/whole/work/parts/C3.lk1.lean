section LWK
variable {p : Program} {l : Launch} {e : Env} {s : State} {m : MethodId} {below : List Frame} {meth : Method} {c : Code} {b L : Nat} {xs : Nat → Int32} {H : Heap} {locs : List Loc} {ls : Array Slot} {A : Nat → Prop} {D : va_G} {cI cB cZ cS cT : ClassId} {q8 q9 B i : Nat} {w8 w9 : va_W} {Q : State → Prop}
set_option maxHeartbeats 4000000 in
set_option maxRecDepth 100000 in
theorem lk_feed (hx : p.tables.exec = Jvm.exec) (hb : c.code = cL_law) (hml : c.maxLocals = 4) (hown : s.vm.findClass RL = some m.cls) (hts : ∀ w ∈ wsL_law, w.before #[Value.ref b] s = true) (hX : va_X b L xs s s.heap) (hbl : b < s.heap.size) (hbA : ¬ A b) (hA : ∀ q : Nat, s.heap.size ≤ q → A q) (hL : L ≤ 2560) (hi : i + 5 ≤ L) (hK : va_K D vwCl (tys5 cI cB cZ cS cT) s) (hV : LV cI cB cZ cS cT q8 q9 B w8 w9) (hB : B < 2 ^ 30) (hP : va_P D vwCl (w8 ++ w9) H) (hD : va_D A (w8 ++ w9)) (hS : va_S A s.heap H locs) (hl : lv_has ls 4 [(0, .ref b), (1, .ref q8), (2, .ref q9), (3, .int (nI i))])
    (kk : ∀ (w8' w9' : va_W) (H : Heap) (locs : List Loc), LV cI cB cZ cS cT q8 q9 (B + 1000) w8' w9' → va_P D vwCl (w8' ++ w9') H → va_D A (w8' ++ w9') → va_S A s.heap H locs → W p l e room_1 s m #[Value.ref b] below meth c H locs 88 2934 Q (F0 m 1368 ls [])) : W p l e room_1 s m #[Value.ref b] below meth c H locs 88 2934 Q (F0 m 208 ls []) := by
  have h1 : vp_in (nI i + 1) L := by
    rw [show nI i + 1 = nI (i + 1) from nI_add i 1]
    exact vp_in_nI (by omega) (by omega)
  have h2 : vp_in (nI i + 2) L := by
    rw [show nI i + 2 = nI (i + 2) from nI_add i 2]
    exact vp_in_nI (by omega) (by omega)
  obtain ⟨r, w8', w9', k8, k9, hV2⟩ := cs_feed (l := l) (D := D) hV hB (((xs (nI i + 1).toNatClampNeg).toInt64 <<< ((32 : Int32).toInt64 &&& 63)) ||| ((xs (nI i + 2).toNatClampNeg).toInt64 &&& 4294967295))
  refine lv_aload_n hx hb dL_law_208 rfl (lv_at hl 1 rfl) ?_
  refine lv_aload_n hx hb dL_law_209 rfl (lv_at hl 0 rfl) ?_
  refine lv_iload_n hx hb dL_law_210 rfl (lv_at hl 3 rfl) ?_
  refine lv_iconst (v := 1) hx hb dL_law_211 (by decide) ?_
  refine lv_iadd hx hb dL_law_212 ?_
  refine va_sld hx hb hX hbl hbA hS h1 dL_law_213 ?_
  refine lv_i2l hx hb dL_law_214 rfl ?_
  refine lv_bipush (v := 32) hx hb dL_law_215 (by decide) ?_
  refine lv_lshl hx hb dL_law_217 rfl ?_
  refine lv_aload_n hx hb dL_law_218 rfl (lv_at hl 0 rfl) ?_
  refine lv_iload_n hx hb dL_law_219 rfl (lv_at hl 3 rfl) ?_
  refine lv_iconst (v := 2) hx hb dL_law_220 (by decide) ?_
  refine lv_iadd hx hb dL_law_221 ?_
  refine va_sld hx hb hX hbl hbA hS h2 dL_law_222 ?_
  refine lv_i2l hx hb dL_law_223 rfl ?_
  refine lv_ldc2 hx hb hown (hts (.constantLong RL 13 4294967295) (List.mem_of_getElem? (i := 6) rfl)) dL_law_224 ?_
  refine lv_land hx hb dL_law_227 ?_
  refine lv_lor hx hb dL_law_228 ?_
  refine lw_call (As := [.long (((xs (nI i + 1).toNatClampNeg).toInt64 <<< ((32 : Int32).toInt64 &&& 63)) ||| ((xs (nI i + 2).toNatClampNeg).toInt64 &&& 4294967295))]) (rest := []) ⟨hx, hb, hml, hown, hts⟩ k8 (cwV 1 hts gL_law_X8_feed rfl rfl rfl (by decide +kernel) ⟨Nat.le_of_ble_eq_true rfl, Nat.le_of_ble_eq_true rfl⟩) hK hP hD hS hA 8 rfl rfl hV.h8 rfl hl.1 rfl (Nat.le_of_ble_eq_true rfl) dL_law_229 ⟨Nat.le_of_ble_eq_true rfl, Nat.le_of_ble_eq_true rfl⟩ (fun H locs hP hD hS => ?_)
  refine lv_aload_n hx hb dL_law_232 rfl (lv_at hl 2 rfl) ?_
  refine lv_aload_n hx hb dL_law_233 rfl (lv_at hl 0 rfl) ?_
  refine lv_iload_n hx hb dL_law_234 rfl (lv_at hl 3 rfl) ?_
  refine lv_iconst (v := 1) hx hb dL_law_235 (by decide) ?_
  refine lv_iadd hx hb dL_law_236 ?_
  refine va_sld hx hb hX hbl hbA hS h1 dL_law_237 ?_
  refine lv_i2l hx hb dL_law_238 rfl ?_
  refine lv_bipush (v := 32) hx hb dL_law_239 (by decide) ?_
  refine lv_lshl hx hb dL_law_241 rfl ?_
  refine lv_aload_n hx hb dL_law_242 rfl (lv_at hl 0 rfl) ?_
  refine lv_iload_n hx hb dL_law_243 rfl (lv_at hl 3 rfl) ?_
  refine lv_iconst (v := 2) hx hb dL_law_244 (by decide) ?_
  refine lv_iadd hx hb dL_law_245 ?_
  refine va_sld hx hb hX hbl hbA hS h2 dL_law_246 ?_
  refine lv_i2l hx hb dL_law_247 rfl ?_
  refine lv_ldc2 hx hb hown (hts (.constantLong RL 13 4294967295) (List.mem_of_getElem? (i := 6) rfl)) dL_law_248 ?_
  refine lv_land hx hb dL_law_251 ?_
  refine lv_lor hx hb dL_law_252 ?_
  refine lw_call (As := [.long (((xs (nI i + 1).toNatClampNeg).toInt64 <<< ((32 : Int32).toInt64 &&& 63)) ||| ((xs (nI i + 2).toNatClampNeg).toInt64 &&& 4294967295))]) (rest := [.int r]) ⟨hx, hb, hml, hown, hts⟩ k9 (cwV 1 hts gL_law_X9_feed rfl rfl rfl (by decide +kernel) ⟨Nat.le_of_ble_eq_true rfl, Nat.le_of_ble_eq_true rfl⟩) hK hP hD hS hA 9 rfl rfl hV.h9 rfl hl.1 rfl (Nat.le_of_ble_eq_true rfl) dL_law_253 ⟨Nat.le_of_ble_eq_true rfl, Nat.le_of_ble_eq_true rfl⟩ (fun H locs hP hD hS => ?_)
  exact lv_icmp_eq (tgt := 1368) hx hb dL_law_256 (by decide) (fun _ => kk _ _ _ _ hV2 hP hD hS) (fun h => absurd rfl h)
set_option maxHeartbeats 4000000 in
set_option maxRecDepth 100000 in
theorem lk_end (hx : p.tables.exec = Jvm.exec) (hb : c.code = cL_law) (hml : c.maxLocals = 4) (hown : s.vm.findClass RL = some m.cls) (hts : ∀ w ∈ wsL_law, w.before #[Value.ref b] s = true) (hX : va_X b L xs s s.heap) (hbl : b < s.heap.size) (hbA : ¬ A b) (hA : ∀ q : Nat, s.heap.size ≤ q → A q) (hL : L ≤ 2560) (hi : i + 5 ≤ L) (hK : va_K D vwCl (tys5 cI cB cZ cS cT) s) (hV : LV cI cB cZ cS cT q8 q9 B w8 w9) (hB : B < 2 ^ 30) (hP : va_P D vwCl (w8 ++ w9) H) (hD : va_D A (w8 ++ w9)) (hS : va_S A s.heap H locs) (hl : lv_has ls 4 [(0, .ref b), (1, .ref q8), (2, .ref q9), (3, .int (nI i))])
    (kk : ∀ (w8' w9' : va_W) (H : Heap) (locs : List Loc), LV cI cB cZ cS cT q8 q9 (B + 1000) w8' w9' → va_P D vwCl (w8' ++ w9') H → va_D A (w8' ++ w9') → va_S A s.heap H locs → W p l e room_1 s m #[Value.ref b] below meth c H locs 88 2934 Q (F0 m 1368 ls [])) : W p l e room_1 s m #[Value.ref b] below meth c H locs 88 2934 Q (F0 m 261 ls []) := by
  have h1 : vp_in (nI i + 1) L := by
    rw [show nI i + 1 = nI (i + 1) from nI_add i 1]
    exact vp_in_nI (by omega) (by omega)
  obtain ⟨r, w8', w9', k8, k9, hV2⟩ := cs_end (l := l) (D := D) hV hB (xs (nI i + 1).toNatClampNeg)
  refine lv_aload_n hx hb dL_law_261 rfl (lv_at hl 1 rfl) ?_
  refine lv_aload_n hx hb dL_law_262 rfl (lv_at hl 0 rfl) ?_
  refine lv_iload_n hx hb dL_law_263 rfl (lv_at hl 3 rfl) ?_
  refine lv_iconst (v := 1) hx hb dL_law_264 (by decide) ?_
  refine lv_iadd hx hb dL_law_265 ?_
  refine va_sld hx hb hX hbl hbA hS h1 dL_law_266 ?_
  refine lw_call (As := [.int (xs (nI i + 1).toNatClampNeg)]) (rest := []) ⟨hx, hb, hml, hown, hts⟩ k8 (cwV 1 hts gL_law_X8_end rfl rfl rfl (by decide +kernel) ⟨Nat.le_of_ble_eq_true rfl, Nat.le_of_ble_eq_true rfl⟩) hK hP hD hS hA 8 rfl rfl hV.h8 rfl hl.1 rfl (Nat.le_of_ble_eq_true rfl) dL_law_267 ⟨Nat.le_of_ble_eq_true rfl, Nat.le_of_ble_eq_true rfl⟩ (fun H locs hP hD hS => ?_)
  refine lv_aload_n hx hb dL_law_270 rfl (lv_at hl 2 rfl) ?_
  refine lv_aload_n hx hb dL_law_271 rfl (lv_at hl 0 rfl) ?_
  refine lv_iload_n hx hb dL_law_272 rfl (lv_at hl 3 rfl) ?_
  refine lv_iconst (v := 1) hx hb dL_law_273 (by decide) ?_
  refine lv_iadd hx hb dL_law_274 ?_
  refine va_sld hx hb hX hbl hbA hS h1 dL_law_275 ?_
  refine lw_call (As := [.int (xs (nI i + 1).toNatClampNeg)]) (rest := [.int r]) ⟨hx, hb, hml, hown, hts⟩ k9 (cwV 1 hts gL_law_X9_end rfl rfl rfl (by decide +kernel) ⟨Nat.le_of_ble_eq_true rfl, Nat.le_of_ble_eq_true rfl⟩) hK hP hD hS hA 9 rfl rfl hV.h9 rfl hl.1 rfl (Nat.le_of_ble_eq_true rfl) dL_law_276 ⟨Nat.le_of_ble_eq_true rfl, Nat.le_of_ble_eq_true rfl⟩ (fun H locs hP hD hS => ?_)
  exact lv_icmp_eq (tgt := 1368) hx hb dL_law_279 (by decide) (fun _ => kk _ _ _ _ hV2 hP hD hS) (fun h => absurd rfl h)
set_option maxHeartbeats 4000000 in
set_option maxRecDepth 100000 in
theorem lk_town {kK kV : Nat → Nat} (hx : p.tables.exec = Jvm.exec) (hb : c.code = cL_law) (hml : c.maxLocals = 4) (hown : s.vm.findClass RL = some m.cls) (hts : ∀ w ∈ wsL_law, w.before #[Value.ref b] s = true) (hX : va_X b L xs s s.heap) (hbl : b < s.heap.size) (hbA : ¬ A b) (hA : ∀ q : Nat, s.heap.size ≤ q → A q) (hL : L ≤ 2560) (hi : i + 5 ≤ L) (hK : va_K D vwCl (tys5 cI cB cZ cS cT) s) (hXS : SX kK kV A s s.heap) (hV : LV cI cB cZ cS cT q8 q9 B w8 w9) (hB : B < 2 ^ 30) (hP : va_P D vwCl (w8 ++ w9) H) (hD : va_D A (w8 ++ w9)) (hS : va_S A s.heap H locs) (hl : lv_has ls 4 [(0, .ref b), (1, .ref q8), (2, .ref q9), (3, .int (nI i))])
    (kk : ∀ (w8' w9' : va_W) (H : Heap) (locs : List Loc), LV cI cB cZ cS cT q8 q9 (B + 1000) w8' w9' → va_P D vwCl (w8' ++ w9') H → va_D A (w8' ++ w9') → va_S A s.heap H locs → W p l e room_1 s m #[Value.ref b] below meth c H locs 88 2934 Q (F0 m 1368 ls [])) : W p l e room_1 s m #[Value.ref b] below meth c H locs 88 2934 Q (F0 m 284 ls []) := by
  obtain ⟨r, w8', w9', k8, k9, hV2⟩ := cs_town (l := l) (D := D) (kK := kK) (kV := kV) hV hB
  refine lv_aload_n hx hb dL_law_284 rfl (lv_at hl 1 rfl) ?_
  refine lw_callS (As := []) (rest := []) ⟨hx, hb, hml, hown, hts⟩ k8 (cwV 0 hts gL_law_X8_town rfl rfl rfl (by decide +kernel) ⟨Nat.le_of_ble_eq_true rfl, Nat.le_of_ble_eq_true rfl⟩) hXS hK hP hD hS hA 8 rfl rfl hV.h8 rfl hl.1 rfl (Nat.le_of_ble_eq_true rfl) dL_law_285 ⟨Nat.le_of_ble_eq_true rfl, Nat.le_of_ble_eq_true rfl⟩ (fun H locs hP hD hS => ?_)
  refine lv_aload_n hx hb dL_law_288 rfl (lv_at hl 2 rfl) ?_
  refine lw_call (As := []) (rest := [.int r]) ⟨hx, hb, hml, hown, hts⟩ k9 (cwV 0 hts gL_law_X9_town rfl rfl rfl (by decide +kernel) ⟨Nat.le_of_ble_eq_true rfl, Nat.le_of_ble_eq_true rfl⟩) hK hP hD hS hA 9 rfl rfl hV.h9 rfl hl.1 rfl (Nat.le_of_ble_eq_true rfl) dL_law_289 ⟨Nat.le_of_ble_eq_true rfl, Nat.le_of_ble_eq_true rfl⟩ (fun H locs hP hD hS => ?_)
  exact lv_icmp_eq (tgt := 1368) hx hb dL_law_292 (by decide) (fun _ => kk _ _ _ _ hV2 hP hD hS) (fun h => absurd rfl h)
set_option maxHeartbeats 4000000 in
set_option maxRecDepth 100000 in
theorem lk_fault (hx : p.tables.exec = Jvm.exec) (hb : c.code = cL_law) (hml : c.maxLocals = 4) (hown : s.vm.findClass RL = some m.cls) (hts : ∀ w ∈ wsL_law, w.before #[Value.ref b] s = true) (hX : va_X b L xs s s.heap) (hbl : b < s.heap.size) (hbA : ¬ A b) (hA : ∀ q : Nat, s.heap.size ≤ q → A q) (hL : L ≤ 2560) (hi : i + 5 ≤ L) (hK : va_K D vwCl (tys5 cI cB cZ cS cT) s) (hV : LV cI cB cZ cS cT q8 q9 B w8 w9) (hB : B < 2 ^ 30) (hP : va_P D vwCl (w8 ++ w9) H) (hD : va_D A (w8 ++ w9)) (hS : va_S A s.heap H locs) (hl : lv_has ls 4 [(0, .ref b), (1, .ref q8), (2, .ref q9), (3, .int (nI i))])
    (kk : ∀ (w8' w9' : va_W) (H : Heap) (locs : List Loc), LV cI cB cZ cS cT q8 q9 (B + 1000) w8' w9' → va_P D vwCl (w8' ++ w9') H → va_D A (w8' ++ w9') → va_S A s.heap H locs → W p l e room_1 s m #[Value.ref b] below meth c H locs 88 2934 Q (F0 m 1368 ls [])) : W p l e room_1 s m #[Value.ref b] below meth c H locs 88 2934 Q (F0 m 297 ls []) := by
  obtain ⟨r, w8', w9', k8, k9, hV2⟩ := cs_fault (l := l) (D := D) hV hB
  refine lv_aload_n hx hb dL_law_297 rfl (lv_at hl 1 rfl) ?_
  refine lw_call (As := []) (rest := []) ⟨hx, hb, hml, hown, hts⟩ k8 (cwV 0 hts gL_law_X8_fault rfl rfl rfl (by decide +kernel) ⟨Nat.le_of_ble_eq_true rfl, Nat.le_of_ble_eq_true rfl⟩) hK hP hD hS hA 8 rfl rfl hV.h8 rfl hl.1 rfl (Nat.le_of_ble_eq_true rfl) dL_law_298 ⟨Nat.le_of_ble_eq_true rfl, Nat.le_of_ble_eq_true rfl⟩ (fun H locs hP hD hS => ?_)
  refine lv_aload_n hx hb dL_law_301 rfl (lv_at hl 2 rfl) ?_
  refine lw_call (As := []) (rest := [.int r]) ⟨hx, hb, hml, hown, hts⟩ k9 (cwV 0 hts gL_law_X9_fault rfl rfl rfl (by decide +kernel) ⟨Nat.le_of_ble_eq_true rfl, Nat.le_of_ble_eq_true rfl⟩) hK hP hD hS hA 9 rfl rfl hV.h9 rfl hl.1 rfl (Nat.le_of_ble_eq_true rfl) dL_law_302 ⟨Nat.le_of_ble_eq_true rfl, Nat.le_of_ble_eq_true rfl⟩ (fun H locs hP hD hS => ?_)
  exact lv_icmp_eq (tgt := 1368) hx hb dL_law_305 (by decide) (fun _ => kk _ _ _ _ hV2 hP hD hS) (fun h => absurd rfl h)
set_option maxHeartbeats 4000000 in
set_option maxRecDepth 100000 in
theorem lk_rule (hx : p.tables.exec = Jvm.exec) (hb : c.code = cL_law) (hml : c.maxLocals = 4) (hown : s.vm.findClass RL = some m.cls) (hts : ∀ w ∈ wsL_law, w.before #[Value.ref b] s = true) (hX : va_X b L xs s s.heap) (hbl : b < s.heap.size) (hbA : ¬ A b) (hA : ∀ q : Nat, s.heap.size ≤ q → A q) (hL : L ≤ 2560) (hi : i + 5 ≤ L) (hK : va_K D vwCl (tys5 cI cB cZ cS cT) s) (hV : LV cI cB cZ cS cT q8 q9 B w8 w9) (hB : B < 2 ^ 30) (hP : va_P D vwCl (w8 ++ w9) H) (hD : va_D A (w8 ++ w9)) (hS : va_S A s.heap H locs) (hl : lv_has ls 4 [(0, .ref b), (1, .ref q8), (2, .ref q9), (3, .int (nI i))])
    (kk : ∀ (w8' w9' : va_W) (H : Heap) (locs : List Loc), LV cI cB cZ cS cT q8 q9 (B + 1000) w8' w9' → va_P D vwCl (w8' ++ w9') H → va_D A (w8' ++ w9') → va_S A s.heap H locs → W p l e room_1 s m #[Value.ref b] below meth c H locs 88 2934 Q (F0 m 1368 ls [])) : W p l e room_1 s m #[Value.ref b] below meth c H locs 88 2934 Q (F0 m 310 ls []) := by
  have h1 : vp_in (nI i + 1) L := by
    rw [show nI i + 1 = nI (i + 1) from nI_add i 1]
    exact vp_in_nI (by omega) (by omega)
  obtain ⟨r, w8', w9', k8, k9, hV2⟩ := cs_rule (l := l) (D := D) hV hB (xs (nI i + 1).toNatClampNeg)
  refine lv_aload_n hx hb dL_law_310 rfl (lv_at hl 1 rfl) ?_
  refine lv_aload_n hx hb dL_law_311 rfl (lv_at hl 0 rfl) ?_
  refine lv_iload_n hx hb dL_law_312 rfl (lv_at hl 3 rfl) ?_
  refine lv_iconst (v := 1) hx hb dL_law_313 (by decide) ?_
  refine lv_iadd hx hb dL_law_314 ?_
  refine va_sld hx hb hX hbl hbA hS h1 dL_law_315 ?_
  refine lw_call (As := [.int (xs (nI i + 1).toNatClampNeg)]) (rest := []) ⟨hx, hb, hml, hown, hts⟩ k8 (cwV 1 hts gL_law_X8_rule rfl rfl rfl (by decide +kernel) ⟨Nat.le_of_ble_eq_true rfl, Nat.le_of_ble_eq_true rfl⟩) hK hP hD hS hA 8 rfl rfl hV.h8 rfl hl.1 rfl (Nat.le_of_ble_eq_true rfl) dL_law_316 ⟨Nat.le_of_ble_eq_true rfl, Nat.le_of_ble_eq_true rfl⟩ (fun H locs hP hD hS => ?_)
  refine lv_aload_n hx hb dL_law_319 rfl (lv_at hl 2 rfl) ?_
  refine lv_aload_n hx hb dL_law_320 rfl (lv_at hl 0 rfl) ?_
  refine lv_iload_n hx hb dL_law_321 rfl (lv_at hl 3 rfl) ?_
  refine lv_iconst (v := 1) hx hb dL_law_322 (by decide) ?_
  refine lv_iadd hx hb dL_law_323 ?_
  refine va_sld hx hb hX hbl hbA hS h1 dL_law_324 ?_
  refine lw_call (As := [.int (xs (nI i + 1).toNatClampNeg)]) (rest := [.int r]) ⟨hx, hb, hml, hown, hts⟩ k9 (cwV 1 hts gL_law_X9_rule rfl rfl rfl (by decide +kernel) ⟨Nat.le_of_ble_eq_true rfl, Nat.le_of_ble_eq_true rfl⟩) hK hP hD hS hA 9 rfl rfl hV.h9 rfl hl.1 rfl (Nat.le_of_ble_eq_true rfl) dL_law_325 ⟨Nat.le_of_ble_eq_true rfl, Nat.le_of_ble_eq_true rfl⟩ (fun H locs hP hD hS => ?_)
  exact lv_icmp_eq (tgt := 1368) hx hb dL_law_328 (by decide) (fun _ => kk _ _ _ _ hV2 hP hD hS) (fun h => absurd rfl h)
set_option maxHeartbeats 4000000 in
set_option maxRecDepth 100000 in
theorem lk_one (hx : p.tables.exec = Jvm.exec) (hb : c.code = cL_law) (hml : c.maxLocals = 4) (hown : s.vm.findClass RL = some m.cls) (hts : ∀ w ∈ wsL_law, w.before #[Value.ref b] s = true) (hX : va_X b L xs s s.heap) (hbl : b < s.heap.size) (hbA : ¬ A b) (hA : ∀ q : Nat, s.heap.size ≤ q → A q) (hL : L ≤ 2560) (hi : i + 5 ≤ L) (hK : va_K D vwCl (tys5 cI cB cZ cS cT) s) (hV : LV cI cB cZ cS cT q8 q9 B w8 w9) (hB : B < 2 ^ 30) (hP : va_P D vwCl (w8 ++ w9) H) (hD : va_D A (w8 ++ w9)) (hS : va_S A s.heap H locs) (hl : lv_has ls 4 [(0, .ref b), (1, .ref q8), (2, .ref q9), (3, .int (nI i))])
    (kk : ∀ (w8' w9' : va_W) (H : Heap) (locs : List Loc), LV cI cB cZ cS cT q8 q9 (B + 1000) w8' w9' → va_P D vwCl (w8' ++ w9') H → va_D A (w8' ++ w9') → va_S A s.heap H locs → W p l e room_1 s m #[Value.ref b] below meth c H locs 88 2934 Q (F0 m 1368 ls [])) : W p l e room_1 s m #[Value.ref b] below meth c H locs 88 2934 Q (F0 m 333 ls []) := by
  have h1 : vp_in (nI i + 1) L := by
    rw [show nI i + 1 = nI (i + 1) from nI_add i 1]
    exact vp_in_nI (by omega) (by omega)
  have h2 : vp_in (nI i + 2) L := by
    rw [show nI i + 2 = nI (i + 2) from nI_add i 2]
    exact vp_in_nI (by omega) (by omega)
  obtain ⟨r, w8', w9', k8, k9, hV2⟩ := cs_one (l := l) (D := D) hV hB (xs (nI i + 1).toNatClampNeg) (xs (nI i + 2).toNatClampNeg)
  refine lv_aload_n hx hb dL_law_333 rfl (lv_at hl 1 rfl) ?_
  refine lv_aload_n hx hb dL_law_334 rfl (lv_at hl 0 rfl) ?_
  refine lv_iload_n hx hb dL_law_335 rfl (lv_at hl 3 rfl) ?_
  refine lv_iconst (v := 1) hx hb dL_law_336 (by decide) ?_
  refine lv_iadd hx hb dL_law_337 ?_
  refine va_sld hx hb hX hbl hbA hS h1 dL_law_338 ?_
  refine lv_aload_n hx hb dL_law_339 rfl (lv_at hl 0 rfl) ?_
  refine lv_iload_n hx hb dL_law_340 rfl (lv_at hl 3 rfl) ?_
  refine lv_iconst (v := 2) hx hb dL_law_341 (by decide) ?_
  refine lv_iadd hx hb dL_law_342 ?_
  refine va_sld hx hb hX hbl hbA hS h2 dL_law_343 ?_
  refine lw_call (As := [.int (xs (nI i + 1).toNatClampNeg), .int (xs (nI i + 2).toNatClampNeg)]) (rest := []) ⟨hx, hb, hml, hown, hts⟩ k8 (cwV 2 hts gL_law_X8_one rfl rfl rfl (by decide +kernel) ⟨Nat.le_of_ble_eq_true rfl, Nat.le_of_ble_eq_true rfl⟩) hK hP hD hS hA 8 rfl rfl hV.h8 rfl hl.1 rfl (Nat.le_of_ble_eq_true rfl) dL_law_344 ⟨Nat.le_of_ble_eq_true rfl, Nat.le_of_ble_eq_true rfl⟩ (fun H locs hP hD hS => ?_)
  refine lv_aload_n hx hb dL_law_347 rfl (lv_at hl 2 rfl) ?_
  refine lv_aload_n hx hb dL_law_348 rfl (lv_at hl 0 rfl) ?_
  refine lv_iload_n hx hb dL_law_349 rfl (lv_at hl 3 rfl) ?_
  refine lv_iconst (v := 1) hx hb dL_law_350 (by decide) ?_
  refine lv_iadd hx hb dL_law_351 ?_
  refine va_sld hx hb hX hbl hbA hS h1 dL_law_352 ?_
  refine lv_aload_n hx hb dL_law_353 rfl (lv_at hl 0 rfl) ?_
  refine lv_iload_n hx hb dL_law_354 rfl (lv_at hl 3 rfl) ?_
  refine lv_iconst (v := 2) hx hb dL_law_355 (by decide) ?_
  refine lv_iadd hx hb dL_law_356 ?_
  refine va_sld hx hb hX hbl hbA hS h2 dL_law_357 ?_
  refine lw_call (As := [.int (xs (nI i + 1).toNatClampNeg), .int (xs (nI i + 2).toNatClampNeg)]) (rest := [.int r]) ⟨hx, hb, hml, hown, hts⟩ k9 (cwV 2 hts gL_law_X9_one rfl rfl rfl (by decide +kernel) ⟨Nat.le_of_ble_eq_true rfl, Nat.le_of_ble_eq_true rfl⟩) hK hP hD hS hA 9 rfl rfl hV.h9 rfl hl.1 rfl (Nat.le_of_ble_eq_true rfl) dL_law_358 ⟨Nat.le_of_ble_eq_true rfl, Nat.le_of_ble_eq_true rfl⟩ (fun H locs hP hD hS => ?_)
  exact lv_icmp_eq (tgt := 1368) hx hb dL_law_361 (by decide) (fun _ => kk _ _ _ _ hV2 hP hD hS) (fun h => absurd rfl h)
set_option maxHeartbeats 4000000 in
set_option maxRecDepth 100000 in
theorem lk_owes (hx : p.tables.exec = Jvm.exec) (hb : c.code = cL_law) (hml : c.maxLocals = 4) (hown : s.vm.findClass RL = some m.cls) (hts : ∀ w ∈ wsL_law, w.before #[Value.ref b] s = true) (hX : va_X b L xs s s.heap) (hbl : b < s.heap.size) (hbA : ¬ A b) (hA : ∀ q : Nat, s.heap.size ≤ q → A q) (hL : L ≤ 2560) (hi : i + 5 ≤ L) (hK : va_K D vwCl (tys5 cI cB cZ cS cT) s) (hV : LV cI cB cZ cS cT q8 q9 B w8 w9) (hB : B < 2 ^ 30) (hP : va_P D vwCl (w8 ++ w9) H) (hD : va_D A (w8 ++ w9)) (hS : va_S A s.heap H locs) (hl : lv_has ls 4 [(0, .ref b), (1, .ref q8), (2, .ref q9), (3, .int (nI i))])
    (kk : ∀ (w8' w9' : va_W) (H : Heap) (locs : List Loc), LV cI cB cZ cS cT q8 q9 (B + 1000) w8' w9' → va_P D vwCl (w8' ++ w9') H → va_D A (w8' ++ w9') → va_S A s.heap H locs → W p l e room_1 s m #[Value.ref b] below meth c H locs 88 2934 Q (F0 m 1368 ls [])) : W p l e room_1 s m #[Value.ref b] below meth c H locs 88 2934 Q (F0 m 366 ls []) := by
  have h1 : vp_in (nI i + 1) L := by
    rw [show nI i + 1 = nI (i + 1) from nI_add i 1]
    exact vp_in_nI (by omega) (by omega)
  have h2 : vp_in (nI i + 2) L := by
    rw [show nI i + 2 = nI (i + 2) from nI_add i 2]
    exact vp_in_nI (by omega) (by omega)
  obtain ⟨r, w8', w9', k8, k9, hV2⟩ := cs_owes (l := l) (D := D) hV hB (xs (nI i + 1).toNatClampNeg) (xs (nI i + 2).toNatClampNeg)
  refine lv_aload_n hx hb dL_law_366 rfl (lv_at hl 1 rfl) ?_
  refine lv_aload_n hx hb dL_law_367 rfl (lv_at hl 0 rfl) ?_
  refine lv_iload_n hx hb dL_law_368 rfl (lv_at hl 3 rfl) ?_
  refine lv_iconst (v := 1) hx hb dL_law_369 (by decide) ?_
  refine lv_iadd hx hb dL_law_370 ?_
  refine va_sld hx hb hX hbl hbA hS h1 dL_law_371 ?_
  refine lv_aload_n hx hb dL_law_372 rfl (lv_at hl 0 rfl) ?_
  refine lv_iload_n hx hb dL_law_373 rfl (lv_at hl 3 rfl) ?_
  refine lv_iconst (v := 2) hx hb dL_law_374 (by decide) ?_
  refine lv_iadd hx hb dL_law_375 ?_
  refine va_sld hx hb hX hbl hbA hS h2 dL_law_376 ?_
  refine lw_call (As := [.int (xs (nI i + 1).toNatClampNeg), .int (xs (nI i + 2).toNatClampNeg)]) (rest := []) ⟨hx, hb, hml, hown, hts⟩ k8 (cwV 2 hts gL_law_X8_owes rfl rfl rfl (by decide +kernel) ⟨Nat.le_of_ble_eq_true rfl, Nat.le_of_ble_eq_true rfl⟩) hK hP hD hS hA 8 rfl rfl hV.h8 rfl hl.1 rfl (Nat.le_of_ble_eq_true rfl) dL_law_377 ⟨Nat.le_of_ble_eq_true rfl, Nat.le_of_ble_eq_true rfl⟩ (fun H locs hP hD hS => ?_)
  refine lv_aload_n hx hb dL_law_380 rfl (lv_at hl 2 rfl) ?_
  refine lv_aload_n hx hb dL_law_381 rfl (lv_at hl 0 rfl) ?_
  refine lv_iload_n hx hb dL_law_382 rfl (lv_at hl 3 rfl) ?_
  refine lv_iconst (v := 1) hx hb dL_law_383 (by decide) ?_
  refine lv_iadd hx hb dL_law_384 ?_
  refine va_sld hx hb hX hbl hbA hS h1 dL_law_385 ?_
  refine lv_aload_n hx hb dL_law_386 rfl (lv_at hl 0 rfl) ?_
  refine lv_iload_n hx hb dL_law_387 rfl (lv_at hl 3 rfl) ?_
  refine lv_iconst (v := 2) hx hb dL_law_388 (by decide) ?_
  refine lv_iadd hx hb dL_law_389 ?_
  refine va_sld hx hb hX hbl hbA hS h2 dL_law_390 ?_
  refine lw_call (As := [.int (xs (nI i + 1).toNatClampNeg), .int (xs (nI i + 2).toNatClampNeg)]) (rest := [.int r]) ⟨hx, hb, hml, hown, hts⟩ k9 (cwV 2 hts gL_law_X9_owes rfl rfl rfl (by decide +kernel) ⟨Nat.le_of_ble_eq_true rfl, Nat.le_of_ble_eq_true rfl⟩) hK hP hD hS hA 9 rfl rfl hV.h9 rfl hl.1 rfl (Nat.le_of_ble_eq_true rfl) dL_law_391 ⟨Nat.le_of_ble_eq_true rfl, Nat.le_of_ble_eq_true rfl⟩ (fun H locs hP hD hS => ?_)
  exact lv_icmp_eq (tgt := 1368) hx hb dL_law_394 (by decide) (fun _ => kk _ _ _ _ hV2 hP hD hS) (fun h => absurd rfl h)
set_option maxHeartbeats 4000000 in
set_option maxRecDepth 100000 in
theorem lk_must (hx : p.tables.exec = Jvm.exec) (hb : c.code = cL_law) (hml : c.maxLocals = 4) (hown : s.vm.findClass RL = some m.cls) (hts : ∀ w ∈ wsL_law, w.before #[Value.ref b] s = true) (hX : va_X b L xs s s.heap) (hbl : b < s.heap.size) (hbA : ¬ A b) (hA : ∀ q : Nat, s.heap.size ≤ q → A q) (hL : L ≤ 2560) (hi : i + 5 ≤ L) (hK : va_K D vwCl (tys5 cI cB cZ cS cT) s) (hV : LV cI cB cZ cS cT q8 q9 B w8 w9) (hB : B < 2 ^ 30) (hP : va_P D vwCl (w8 ++ w9) H) (hD : va_D A (w8 ++ w9)) (hS : va_S A s.heap H locs) (hl : lv_has ls 4 [(0, .ref b), (1, .ref q8), (2, .ref q9), (3, .int (nI i))])
    (kk : ∀ (w8' w9' : va_W) (H : Heap) (locs : List Loc), LV cI cB cZ cS cT q8 q9 (B + 1000) w8' w9' → va_P D vwCl (w8' ++ w9') H → va_D A (w8' ++ w9') → va_S A s.heap H locs → W p l e room_1 s m #[Value.ref b] below meth c H locs 88 2934 Q (F0 m 1368 ls [])) : W p l e room_1 s m #[Value.ref b] below meth c H locs 88 2934 Q (F0 m 399 ls []) := by
  have h1 : vp_in (nI i + 1) L := by
    rw [show nI i + 1 = nI (i + 1) from nI_add i 1]
    exact vp_in_nI (by omega) (by omega)
  have h2 : vp_in (nI i + 2) L := by
    rw [show nI i + 2 = nI (i + 2) from nI_add i 2]
    exact vp_in_nI (by omega) (by omega)
  obtain ⟨r, w8', w9', k8, k9, hV2⟩ := cs_must (l := l) (D := D) hV hB (xs (nI i + 1).toNatClampNeg) (xs (nI i + 2).toNatClampNeg)
  refine lv_aload_n hx hb dL_law_399 rfl (lv_at hl 1 rfl) ?_
  refine lv_aload_n hx hb dL_law_400 rfl (lv_at hl 0 rfl) ?_
  refine lv_iload_n hx hb dL_law_401 rfl (lv_at hl 3 rfl) ?_
  refine lv_iconst (v := 1) hx hb dL_law_402 (by decide) ?_
  refine lv_iadd hx hb dL_law_403 ?_
  refine va_sld hx hb hX hbl hbA hS h1 dL_law_404 ?_
  refine lv_aload_n hx hb dL_law_405 rfl (lv_at hl 0 rfl) ?_
  refine lv_iload_n hx hb dL_law_406 rfl (lv_at hl 3 rfl) ?_
  refine lv_iconst (v := 2) hx hb dL_law_407 (by decide) ?_
  refine lv_iadd hx hb dL_law_408 ?_
  refine va_sld hx hb hX hbl hbA hS h2 dL_law_409 ?_
  refine lw_call (As := [.int (xs (nI i + 1).toNatClampNeg), .int (xs (nI i + 2).toNatClampNeg)]) (rest := []) ⟨hx, hb, hml, hown, hts⟩ k8 (cwV 2 hts gL_law_X8_must rfl rfl rfl (by decide +kernel) ⟨Nat.le_of_ble_eq_true rfl, Nat.le_of_ble_eq_true rfl⟩) hK hP hD hS hA 8 rfl rfl hV.h8 rfl hl.1 rfl (Nat.le_of_ble_eq_true rfl) dL_law_410 ⟨Nat.le_of_ble_eq_true rfl, Nat.le_of_ble_eq_true rfl⟩ (fun H locs hP hD hS => ?_)
  refine lv_aload_n hx hb dL_law_413 rfl (lv_at hl 2 rfl) ?_
  refine lv_aload_n hx hb dL_law_414 rfl (lv_at hl 0 rfl) ?_
  refine lv_iload_n hx hb dL_law_415 rfl (lv_at hl 3 rfl) ?_
  refine lv_iconst (v := 1) hx hb dL_law_416 (by decide) ?_
  refine lv_iadd hx hb dL_law_417 ?_
  refine va_sld hx hb hX hbl hbA hS h1 dL_law_418 ?_
  refine lv_aload_n hx hb dL_law_419 rfl (lv_at hl 0 rfl) ?_
  refine lv_iload_n hx hb dL_law_420 rfl (lv_at hl 3 rfl) ?_
  refine lv_iconst (v := 2) hx hb dL_law_421 (by decide) ?_
  refine lv_iadd hx hb dL_law_422 ?_
  refine va_sld hx hb hX hbl hbA hS h2 dL_law_423 ?_
  refine lw_call (As := [.int (xs (nI i + 1).toNatClampNeg), .int (xs (nI i + 2).toNatClampNeg)]) (rest := [.int r]) ⟨hx, hb, hml, hown, hts⟩ k9 (cwV 2 hts gL_law_X9_must rfl rfl rfl (by decide +kernel) ⟨Nat.le_of_ble_eq_true rfl, Nat.le_of_ble_eq_true rfl⟩) hK hP hD hS hA 9 rfl rfl hV.h9 rfl hl.1 rfl (Nat.le_of_ble_eq_true rfl) dL_law_424 ⟨Nat.le_of_ble_eq_true rfl, Nat.le_of_ble_eq_true rfl⟩ (fun H locs hP hD hS => ?_)
  exact lv_icmp_eq (tgt := 1368) hx hb dL_law_427 (by decide) (fun _ => kk _ _ _ _ hV2 hP hD hS) (fun h => absurd rfl h)
set_option maxHeartbeats 4000000 in
set_option maxRecDepth 100000 in
theorem lk_law (hx : p.tables.exec = Jvm.exec) (hb : c.code = cL_law) (hml : c.maxLocals = 4) (hown : s.vm.findClass RL = some m.cls) (hts : ∀ w ∈ wsL_law, w.before #[Value.ref b] s = true) (hX : va_X b L xs s s.heap) (hbl : b < s.heap.size) (hbA : ¬ A b) (hA : ∀ q : Nat, s.heap.size ≤ q → A q) (hL : L ≤ 2560) (hi : i + 5 ≤ L) (hK : va_K D vwCl (tys5 cI cB cZ cS cT) s) (hV : LV cI cB cZ cS cT q8 q9 B w8 w9) (hB : B < 2 ^ 30) (hP : va_P D vwCl (w8 ++ w9) H) (hD : va_D A (w8 ++ w9)) (hS : va_S A s.heap H locs) (hl : lv_has ls 4 [(0, .ref b), (1, .ref q8), (2, .ref q9), (3, .int (nI i))])
    (kk : ∀ (w8' w9' : va_W) (H : Heap) (locs : List Loc), LV cI cB cZ cS cT q8 q9 (B + 1000) w8' w9' → va_P D vwCl (w8' ++ w9') H → va_D A (w8' ++ w9') → va_S A s.heap H locs → W p l e room_1 s m #[Value.ref b] below meth c H locs 88 2934 Q (F0 m 1368 ls [])) : W p l e room_1 s m #[Value.ref b] below meth c H locs 88 2934 Q (F0 m 432 ls []) := by
  have h1 : vp_in (nI i + 1) L := by
    rw [show nI i + 1 = nI (i + 1) from nI_add i 1]
    exact vp_in_nI (by omega) (by omega)
  obtain ⟨r, w8', w9', k8, k9, hV2⟩ := cs_law (l := l) (D := D) hV hB (xs (nI i + 1).toNatClampNeg)
  refine lv_aload_n hx hb dL_law_432 rfl (lv_at hl 1 rfl) ?_
  refine lv_aload_n hx hb dL_law_433 rfl (lv_at hl 0 rfl) ?_
  refine lv_iload_n hx hb dL_law_434 rfl (lv_at hl 3 rfl) ?_
  refine lv_iconst (v := 1) hx hb dL_law_435 (by decide) ?_
  refine lv_iadd hx hb dL_law_436 ?_
  refine va_sld hx hb hX hbl hbA hS h1 dL_law_437 ?_
  refine lw_call (As := [.int (xs (nI i + 1).toNatClampNeg)]) (rest := []) ⟨hx, hb, hml, hown, hts⟩ k8 (cwV 1 hts gL_law_X8_law rfl rfl rfl (by decide +kernel) ⟨Nat.le_of_ble_eq_true rfl, Nat.le_of_ble_eq_true rfl⟩) hK hP hD hS hA 8 rfl rfl hV.h8 rfl hl.1 rfl (Nat.le_of_ble_eq_true rfl) dL_law_438 ⟨Nat.le_of_ble_eq_true rfl, Nat.le_of_ble_eq_true rfl⟩ (fun H locs hP hD hS => ?_)
  refine lv_aload_n hx hb dL_law_441 rfl (lv_at hl 2 rfl) ?_
  refine lv_aload_n hx hb dL_law_442 rfl (lv_at hl 0 rfl) ?_
  refine lv_iload_n hx hb dL_law_443 rfl (lv_at hl 3 rfl) ?_
  refine lv_iconst (v := 1) hx hb dL_law_444 (by decide) ?_
  refine lv_iadd hx hb dL_law_445 ?_
  refine va_sld hx hb hX hbl hbA hS h1 dL_law_446 ?_
  refine lw_call (As := [.int (xs (nI i + 1).toNatClampNeg)]) (rest := [.int r]) ⟨hx, hb, hml, hown, hts⟩ k9 (cwV 1 hts gL_law_X9_law rfl rfl rfl (by decide +kernel) ⟨Nat.le_of_ble_eq_true rfl, Nat.le_of_ble_eq_true rfl⟩) hK hP hD hS hA 9 rfl rfl hV.h9 rfl hl.1 rfl (Nat.le_of_ble_eq_true rfl) dL_law_447 ⟨Nat.le_of_ble_eq_true rfl, Nat.le_of_ble_eq_true rfl⟩ (fun H locs hP hD hS => ?_)
  exact lv_icmp_eq (tgt := 1368) hx hb dL_law_450 (by decide) (fun _ => kk _ _ _ _ hV2 hP hD hS) (fun h => absurd rfl h)
set_option maxHeartbeats 4000000 in
set_option maxRecDepth 100000 in
theorem lk_counters (hx : p.tables.exec = Jvm.exec) (hb : c.code = cL_law) (hml : c.maxLocals = 4) (hown : s.vm.findClass RL = some m.cls) (hts : ∀ w ∈ wsL_law, w.before #[Value.ref b] s = true) (hX : va_X b L xs s s.heap) (hbl : b < s.heap.size) (hbA : ¬ A b) (hA : ∀ q : Nat, s.heap.size ≤ q → A q) (hL : L ≤ 2560) (hi : i + 5 ≤ L) (hK : va_K D vwCl (tys5 cI cB cZ cS cT) s) (hV : LV cI cB cZ cS cT q8 q9 B w8 w9) (hB : B < 2 ^ 30) (hP : va_P D vwCl (w8 ++ w9) H) (hD : va_D A (w8 ++ w9)) (hS : va_S A s.heap H locs) (hl : lv_has ls 4 [(0, .ref b), (1, .ref q8), (2, .ref q9), (3, .int (nI i))])
    (kk : ∀ (w8' w9' : va_W) (H : Heap) (locs : List Loc), LV cI cB cZ cS cT q8 q9 (B + 1000) w8' w9' → va_P D vwCl (w8' ++ w9') H → va_D A (w8' ++ w9') → va_S A s.heap H locs → W p l e room_1 s m #[Value.ref b] below meth c H locs 88 2934 Q (F0 m 1368 ls [])) : W p l e room_1 s m #[Value.ref b] below meth c H locs 88 2934 Q (F0 m 455 ls []) := by
  have h1 : vp_in (nI i + 1) L := by
    rw [show nI i + 1 = nI (i + 1) from nI_add i 1]
    exact vp_in_nI (by omega) (by omega)
  obtain ⟨r, w8', w9', k8, k9, hV2⟩ := cs_counters (l := l) (D := D) hV hB (xs (nI i + 1).toNatClampNeg)
  refine lv_aload_n hx hb dL_law_455 rfl (lv_at hl 1 rfl) ?_
  refine lv_aload_n hx hb dL_law_456 rfl (lv_at hl 0 rfl) ?_
  refine lv_iload_n hx hb dL_law_457 rfl (lv_at hl 3 rfl) ?_
  refine lv_iconst (v := 1) hx hb dL_law_458 (by decide) ?_
  refine lv_iadd hx hb dL_law_459 ?_
  refine va_sld hx hb hX hbl hbA hS h1 dL_law_460 ?_
  refine lw_call (As := [.int (xs (nI i + 1).toNatClampNeg)]) (rest := []) ⟨hx, hb, hml, hown, hts⟩ k8 (cwV 1 hts gL_law_X8_counters rfl rfl rfl (by decide +kernel) ⟨Nat.le_of_ble_eq_true rfl, Nat.le_of_ble_eq_true rfl⟩) hK hP hD hS hA 8 rfl rfl hV.h8 rfl hl.1 rfl (Nat.le_of_ble_eq_true rfl) dL_law_461 ⟨Nat.le_of_ble_eq_true rfl, Nat.le_of_ble_eq_true rfl⟩ (fun H locs hP hD hS => ?_)
  refine lv_aload_n hx hb dL_law_464 rfl (lv_at hl 2 rfl) ?_
  refine lv_aload_n hx hb dL_law_465 rfl (lv_at hl 0 rfl) ?_
  refine lv_iload_n hx hb dL_law_466 rfl (lv_at hl 3 rfl) ?_
  refine lv_iconst (v := 1) hx hb dL_law_467 (by decide) ?_
  refine lv_iadd hx hb dL_law_468 ?_
  refine va_sld hx hb hX hbl hbA hS h1 dL_law_469 ?_
  refine lw_call (As := [.int (xs (nI i + 1).toNatClampNeg)]) (rest := [.int r]) ⟨hx, hb, hml, hown, hts⟩ k9 (cwV 1 hts gL_law_X9_counters rfl rfl rfl (by decide +kernel) ⟨Nat.le_of_ble_eq_true rfl, Nat.le_of_ble_eq_true rfl⟩) hK hP hD hS hA 9 rfl rfl hV.h9 rfl hl.1 rfl (Nat.le_of_ble_eq_true rfl) dL_law_470 ⟨Nat.le_of_ble_eq_true rfl, Nat.le_of_ble_eq_true rfl⟩ (fun H locs hP hD hS => ?_)
  exact lv_icmp_eq (tgt := 1368) hx hb dL_law_473 (by decide) (fun _ => kk _ _ _ _ hV2 hP hD hS) (fun h => absurd rfl h)
end LWK
