theorem sx_1 : ∀ i, i < 9 → nI (sxN i) >>> ((0 : Int32) &&& 31) = nI (sxN i) := by decide +kernel
theorem sx_2 : ∀ i, i < 9 → sxN i < 9 := by decide +kernel
theorem sx_3 : ∀ i, i < 9 → ∀ j, j < sxN i → ((sxC i j &&& 255).toUInt32 % 65536).toInt32 = sxC i j ∧ narrow .char (.int (sxC i j)) = .int (sxC i j) := by decide +kernel
abbrev rmJ0_coder : Room := { frames := 0, cells := 0, slots := 0, locals := 0 }
set_option maxHeartbeats 4000000 in
set_option maxRecDepth 20000 in
theorem k_J0_coder (l : Launch) (D : va_G) (tys : List (ClassId × FieldType)) (kK kV : Nat → Nat) (i : Nat) (hi : i < 9) : msI l yJ0_coder_7d493 wsJ0_coder_7d493 rmJ0_coder D tys kK kV [.ref (kK i)] [] [] 0 := by
  refine msI.of (cc := cJ0_coder_7d493) (maxL := 1) (ret := (some .byte)) (by decide) rfl (Nat.le_of_ble_eq_true rfl) ?_
  intro p e s m below meth c A Q av hav hQ hx hb hr hml hown hts hlocks hK hP hD hA hS hX ls hl
  have hown : s.vm.findClass RJ0 = some m.cls := hown
  have hl : lv_has ls 1 [(0, .ref (kK i))] := hl
  have h1 := hts (.fieldLink RJ0 38 "java/lang/String" "COMPACT_STRINGS" "Z") (by decide +kernel)
  have h2 := hts (.fieldLink RJ0 15 "java/lang/String" "coder" "B") (by decide +kernel)
  refine va_gets hx hb hX.2.2.1 hS hown h1 (fun _ h => h) dJ0_coder_7d493_0 ?_
  refine lv_if_eq (tgt := 13) hx hb dJ0_coder_7d493_3 (by decide) (fun h => absurd h (by decide)) (fun _ => ?_)
  refine lv_aload_n hx hb dJ0_coder_7d493_6 rfl (lv_at hl 0 rfl) ?_
  refine vk_getf hx hb (hX.1.1 i hi).2.1 hS hown h2 (fun _ h => h) dJ0_coder_7d493_7 ?_
  refine lv_goto (tgt := 14) hx hb dJ0_coder_7d493_10 (by decide) ?_
  exact mr_zret hx hb hr (by decide) hlocks hQ hP hD hS rfl dJ0_coder_7d493_14
abbrev rmJ0_length : Room := { frames := 1, cells := 0, slots := 0, locals := 20 }
set_option maxHeartbeats 4000000 in
set_option maxRecDepth 20000 in
theorem k_J0_length (l : Launch) (D : va_G) (tys : List (ClassId × FieldType)) (kK kV : Nat → Nat) (i : Nat) (hi : i < 9) : msI l yJ0_length_8abf5 wsJ0_length_8abf5 rmJ0_length D tys kK kV [.ref (kK i)] [] [] (nI (sxN i)) := by
  refine msI.of (cc := cJ0_length_8abf5) (maxL := 1) (ret := (some .int)) (by decide) rfl (Nat.le_of_ble_eq_true rfl) ?_
  intro p e s m below meth c A Q av hav hQ hx hb hr hml hown hts hlocks hK hP hD hA hS hX ls hl
  have hown : s.vm.findClass RJ0 = some m.cls := hown
  have hl : lv_has ls 1 [(0, .ref (kK i))] := hl
  have h1 := hts (.fieldLink RJ0 9 "java/lang/String" "value" "[B") (by decide +kernel)
  refine lv_aload_n hx hb dJ0_length_8abf5_0 rfl (lv_at hl 0 rfl) ?_
  refine vk_getf hx hb (hX.1.1 i hi).2.2.1 hS hown h1 (fun _ h => h) dJ0_length_8abf5_1 ?_
  refine va_tlen (v := nI (sxN i)) hx hb (hX.1.1 i hi).2.2.2 hS rfl dJ0_length_8abf5_4 ?_
  refine lv_aload_n hx hb dJ0_length_8abf5_5 rfl (lv_at hl 0 rfl) ?_
  refine mr_strV (As := []) (rest := [.int (nI (sxN i))]) ⟨hx, hb, hml, hown, hts⟩ (k_J0_coder l D tys kK kV i hi) (cwV 0 hts gJ0_length_8abf5_J0_coder_7d493 rfl rfl rfl (by decide +kernel) ⟨Nat.le_of_ble_eq_true rfl, Nat.le_of_ble_eq_true rfl⟩) hi hX hK hP hD hS hA rfl hl.1 rfl (Nat.le_of_ble_eq_true rfl) dJ0_length_8abf5_6 ⟨Nat.zero_le _, Nat.zero_le _⟩ (fun H locs hP hS => ?_)
  refine lv_ishr hx hb dJ0_length_8abf5_9 ?_
  exact mr_iret hx hb hr hlocks hQ hP hD hS (sx_1 i hi) dJ0_length_8abf5_10
abbrev rmJ0_isLatin1 : Room := { frames := 0, cells := 0, slots := 0, locals := 0 }
set_option maxHeartbeats 4000000 in
set_option maxRecDepth 20000 in
theorem k_J0_isLatin1 (l : Launch) (D : va_G) (tys : List (ClassId × FieldType)) (kK kV : Nat → Nat) (i : Nat) (hi : i < 9) : msI l yJ0_isLatin1_aae02 wsJ0_isLatin1_aae02 rmJ0_isLatin1 D tys kK kV [.ref (kK i)] [] [] 1 := by
  refine msI.of (cc := cJ0_isLatin1_aae02) (maxL := 1) (ret := (some .boolean)) (by decide) rfl (Nat.le_of_ble_eq_true rfl) ?_
  intro p e s m below meth c A Q av hav hQ hx hb hr hml hown hts hlocks hK hP hD hA hS hX ls hl
  have hown : s.vm.findClass RJ0 = some m.cls := hown
  have hl : lv_has ls 1 [(0, .ref (kK i))] := hl
  have h1 := hts (.fieldLink RJ0 38 "java/lang/String" "COMPACT_STRINGS" "Z") (by decide +kernel)
  have h2 := hts (.fieldLink RJ0 15 "java/lang/String" "coder" "B") (by decide +kernel)
  refine va_gets hx hb hX.2.2.1 hS hown h1 (fun _ h => h) dJ0_isLatin1_aae02_0 ?_
  refine lv_if_eq (tgt := 17) hx hb dJ0_isLatin1_aae02_3 (by decide) (fun h => absurd h (by decide)) (fun _ => ?_)
  refine lv_aload_n hx hb dJ0_isLatin1_aae02_6 rfl (lv_at hl 0 rfl) ?_
  refine vk_getf hx hb (hX.1.1 i hi).2.1 hS hown h2 (fun _ h => h) dJ0_isLatin1_aae02_7 ?_
  refine lv_if_ne (tgt := 17) hx hb dJ0_isLatin1_aae02_10 (by decide) (fun h => absurd rfl h) (fun _ => ?_)
  refine lv_iconst (v := 1) hx hb dJ0_isLatin1_aae02_13 (by decide) ?_
  refine lv_goto (tgt := 18) hx hb dJ0_isLatin1_aae02_14 (by decide) ?_
  exact mr_zret hx hb hr (by decide) hlocks hQ hP hD hS rfl dJ0_isLatin1_aae02_18
abbrev rmJ3_checkN : Room := { frames := 0, cells := 0, slots := 0, locals := 0 }
set_option maxHeartbeats 4000000 in
set_option maxRecDepth 20000 in
theorem k_J3_checkN (l : Launch) (D : va_G) (tys : List (ClassId × FieldType)) (kK kV : Nat → Nat) (x n : Int32)  (h0 : ¬ x < 0) (h1 : x < n) : msI l yJ3_checkIndex_8e157 wsJ3_checkIndex_8e157 rmJ3_checkN D tys kK kV [.int x, .int n, .null] [] [] x := by
  refine msI.of (cc := cJ3_checkIndex_8e157) (maxL := 3) (ret := (some .int)) (by decide) rfl (Nat.le_of_ble_eq_true rfl) ?_
  intro p e s m below meth c A Q av hav hQ hx hb hr hml hown hts hlocks hK hP hD hA hS hX ls hl
  have hown : s.vm.findClass RJ3 = some m.cls := hown
  have hl : lv_has ls 3 [(0, .int x), (1, .int n), (2, .null)] := hl
  refine lv_iload_n hx hb dJ3_checkIndex_8e157_0 rfl (lv_at hl 0 rfl) ?_
  refine lv_if_lt (tgt := 9) hx hb dJ3_checkIndex_8e157_1 (by decide) (fun h => absurd h h0) (fun _ => ?_)
  refine lv_iload_n hx hb dJ3_checkIndex_8e157_4 rfl (lv_at hl 0 rfl) ?_
  refine lv_iload_n hx hb dJ3_checkIndex_8e157_5 rfl (lv_at hl 1 rfl) ?_
  refine lv_icmp_lt (tgt := 16) hx hb dJ3_checkIndex_8e157_6 (by decide) (fun _ => ?_) (fun h => absurd h1 h)
  refine lv_iload_n hx hb dJ3_checkIndex_8e157_16 rfl (lv_at hl 0 rfl) ?_
  exact mr_iret hx hb hr hlocks hQ hP hD hS rfl dJ3_checkIndex_8e157_17
abbrev rmJ3_checkR : Room := { frames := 0, cells := 0, slots := 0, locals := 0 }
set_option maxHeartbeats 4000000 in
set_option maxRecDepth 20000 in
theorem k_J3_checkR (l : Launch) (D : va_G) (tys : List (ClassId × FieldType)) (kK kV : Nat → Nat) (x n : Int32) (q : Nat) (h0 : ¬ x < 0) (h1 : x < n) : msI l yJ3_checkIndex_8e157 wsJ3_checkIndex_8e157 rmJ3_checkR D tys kK kV [.int x, .int n, .ref q] [] [] x := by
  refine msI.of (cc := cJ3_checkIndex_8e157) (maxL := 3) (ret := (some .int)) (by decide) rfl (Nat.le_of_ble_eq_true rfl) ?_
  intro p e s m below meth c A Q av hav hQ hx hb hr hml hown hts hlocks hK hP hD hA hS hX ls hl
  have hown : s.vm.findClass RJ3 = some m.cls := hown
  have hl : lv_has ls 3 [(0, .int x), (1, .int n), (2, .ref q)] := hl
  refine lv_iload_n hx hb dJ3_checkIndex_8e157_0 rfl (lv_at hl 0 rfl) ?_
  refine lv_if_lt (tgt := 9) hx hb dJ3_checkIndex_8e157_1 (by decide) (fun h => absurd h h0) (fun _ => ?_)
  refine lv_iload_n hx hb dJ3_checkIndex_8e157_4 rfl (lv_at hl 0 rfl) ?_
  refine lv_iload_n hx hb dJ3_checkIndex_8e157_5 rfl (lv_at hl 1 rfl) ?_
  refine lv_icmp_lt (tgt := 16) hx hb dJ3_checkIndex_8e157_6 (by decide) (fun _ => ?_) (fun h => absurd h1 h)
  refine lv_iload_n hx hb dJ3_checkIndex_8e157_16 rfl (lv_at hl 0 rfl) ?_
  exact mr_iret hx hb hr hlocks hQ hP hD hS rfl dJ3_checkIndex_8e157_17
abbrev rmJ0_checkIndex : Room := { frames := 1, cells := 0, slots := 0, locals := 22 }
set_option maxHeartbeats 4000000 in
set_option maxRecDepth 20000 in
theorem k_J0_checkIndex (l : Launch) (D : va_G) (tys : List (ClassId × FieldType)) (kK kV : Nat → Nat) (x n : Int32) (h0 : ¬ x < 0) (h1 : x < n) : msV l yJ0_checkIndex_df160 wsJ0_checkIndex_df160 rmJ0_checkIndex D tys kK kV [.int x, .int n] [] [] := by
  refine msV.of (cc := cJ0_checkIndex_df160) (maxL := 2) (ret := none) (by decide) rfl (Nat.le_of_ble_eq_true rfl) ?_
  intro p e s m below meth c A Q av hav hQ hx hb hr hml hown hts hlocks hK hP hD hA hS hX ls hl
  have hown : s.vm.findClass RJ0 = some m.cls := hown
  have hl : lv_has ls 2 [(0, .int x), (1, .int n)] := hl
  have h2 := hts (.fieldLink RJ0 1053 "jdk/internal/util/Preconditions" "SIOOBE_FORMATTER" "Ljava/util/function/BiFunction;") (by decide +kernel)
  refine lv_iload_n hx hb dJ0_checkIndex_df160_0 rfl (lv_at hl 0 rfl) ?_
  refine lv_iload_n hx hb dJ0_checkIndex_df160_1 rfl (lv_at hl 1 rfl) ?_
  rcases hX.2.2.2 with hz | ⟨q, hz⟩
  · refine va_gets hx hb hz hS hown h2 (fun _ h => h) dJ0_checkIndex_df160_2 ?_
    refine mr_strSi (As := [.int x, .int n, .null]) (rest := []) ⟨hx, hb, hml, hown, hts⟩ (k_J3_checkN l D tys kK kV x n h0 h1) (va_cwS 3 hts gJ0_checkIndex_df160_J3_checkIndex_8e157 rfl rfl rfl (by decide +kernel) ⟨Nat.le_of_ble_eq_true rfl, Nat.le_of_ble_eq_true rfl⟩) hX hK hP hD hS hA rfl hl.1 rfl (Nat.le_of_ble_eq_true rfl) dJ0_checkIndex_df160_5 ⟨Nat.zero_le _, Nat.zero_le _⟩ (fun H locs hP hS => ?_)
    refine lv_pop hx hb dJ0_checkIndex_df160_8 rfl ?_
    exact mr_vret hx hb hr hlocks hQ hP hD hS dJ0_checkIndex_df160_9
  · refine va_gets hx hb hz hS hown h2 (fun _ h => h) dJ0_checkIndex_df160_2 ?_
    refine mr_strSi (As := [.int x, .int n, .ref q]) (rest := []) ⟨hx, hb, hml, hown, hts⟩ (k_J3_checkR l D tys kK kV x n q h0 h1) (va_cwS 3 hts gJ0_checkIndex_df160_J3_checkIndex_8e157 rfl rfl rfl (by decide +kernel) ⟨Nat.le_of_ble_eq_true rfl, Nat.le_of_ble_eq_true rfl⟩) hX hK hP hD hS hA rfl hl.1 rfl (Nat.le_of_ble_eq_true rfl) dJ0_checkIndex_df160_5 ⟨Nat.zero_le _, Nat.zero_le _⟩ (fun H locs hP hS => ?_)
    refine lv_pop hx hb dJ0_checkIndex_df160_8 rfl ?_
    exact mr_vret hx hb hr hlocks hQ hP hD hS dJ0_checkIndex_df160_9
abbrev rmJ1_charAt : Room := { frames := 2, cells := 0, slots := 0, locals := 43 }
set_option maxHeartbeats 4000000 in
set_option maxRecDepth 20000 in
theorem k_J1_charAt (l : Launch) (D : va_G) (tys : List (ClassId × FieldType)) (kK kV : Nat → Nat) (i j : Nat) (hi : i < 9) (hj : j < sxN i) : msI l yJ1_charAt_3b067 wsJ1_charAt_3b067 rmJ1_charAt D tys kK kV [.ref (kV i), .int (nI j)] [] [] (sxC i j) := by
  refine msI.of (cc := cJ1_charAt_3b067) (maxL := 2) (ret := (some .char)) (by decide) rfl (Nat.le_of_ble_eq_true rfl) ?_
  intro p e s m below meth c A Q av hav hQ hx hb hr hml hown hts hlocks hK hP hD hA hS hX ls hl
  have hown : s.vm.findClass RJ1 = some m.cls := hown
  have hl : lv_has ls 2 [(0, .ref (kV i)), (1, .int (nI j))] := hl
  have h9 := sx_2 i hi
  refine lv_iload_n hx hb dJ1_charAt_3b067_0 rfl (lv_at hl 1 rfl) ?_
  refine lv_aload_n hx hb dJ1_charAt_3b067_1 rfl (lv_at hl 0 rfl) ?_
  refine va_tlen (v := nI (sxN i)) hx hb (hX.1.1 i hi).2.2.2 hS rfl dJ1_charAt_3b067_2 ?_
  refine mr_strSv (As := [.int (nI j), .int (nI (sxN i))]) (rest := []) ⟨hx, hb, hml, hown, hts⟩ (k_J0_checkIndex l D tys kK kV (nI j) (nI (sxN i)) (nI_pos (by omega)) (nI_lt hj (by omega))) (va_cwS 2 hts gJ1_charAt_3b067_J0_checkIndex_df160 rfl rfl rfl (by decide +kernel) ⟨Nat.le_of_ble_eq_true rfl, Nat.le_of_ble_eq_true rfl⟩) hX hK hP hD hS hA rfl hl.1 rfl (Nat.le_of_ble_eq_true rfl) dJ1_charAt_3b067_3 ⟨Nat.zero_le _, Nat.zero_le _⟩ (fun H locs hP hS => ?_)
  refine lv_aload_n hx hb dJ1_charAt_3b067_6 rfl (lv_at hl 0 rfl) ?_
  refine lv_iload_n hx hb dJ1_charAt_3b067_7 rfl (lv_at hl 1 rfl) ?_
  refine va_tb (v := .int (sxC i j)) hx hb (hX.1.1 i hi).2.2.2 hS (show vp_in (nI j) (sxN i) from vp_in_nI hj (by omega)) (by rw [nI_clamp (by omega)]; rfl) dJ1_charAt_3b067_8 ?_
  refine lv_sipush (v := 255) hx hb dJ1_charAt_3b067_9 (by decide) ?_
  refine lv_iand hx hb dJ1_charAt_3b067_12 ?_
  refine lv_i2c (v := sxC i j) hx hb dJ1_charAt_3b067_13 (sx_3 i hi j hj).1 ?_
  exact mr_zret hx hb hr (sx_3 i hi j hj).2 hlocks hQ hP hD hS rfl dJ1_charAt_3b067_14
abbrev rmJ0_charAt : Room := { frames := 3, cells := 0, slots := 0, locals := 64 }
set_option maxHeartbeats 4000000 in
set_option maxRecDepth 20000 in
theorem k_J0_charAt (l : Launch) (D : va_G) (tys : List (ClassId × FieldType)) (kK kV : Nat → Nat) (i j : Nat) (hi : i < 9) (hj : j < sxN i) : msI l yJ0_charAt_5068e wsJ0_charAt_5068e rmJ0_charAt D tys kK kV [.ref (kK i), .int (nI j)] [] [] (sxC i j) := by
  refine msI.of (cc := cJ0_charAt_5068e) (maxL := 2) (ret := (some .char)) (by decide) rfl (Nat.le_of_ble_eq_true rfl) ?_
  intro p e s m below meth c A Q av hav hQ hx hb hr hml hown hts hlocks hK hP hD hA hS hX ls hl
  have hown : s.vm.findClass RJ0 = some m.cls := hown
  have hl : lv_has ls 2 [(0, .ref (kK i)), (1, .int (nI j))] := hl
  have h1 := hts (.fieldLink RJ0 9 "java/lang/String" "value" "[B") (by decide +kernel)
  refine lv_aload_n hx hb dJ0_charAt_5068e_0 rfl (lv_at hl 0 rfl) ?_
  refine mr_strV (As := []) (rest := []) ⟨hx, hb, hml, hown, hts⟩ (k_J0_isLatin1 l D tys kK kV i hi) (cwV 0 hts gJ0_charAt_5068e_J0_isLatin1_aae02 rfl rfl rfl (by decide +kernel) ⟨Nat.le_of_ble_eq_true rfl, Nat.le_of_ble_eq_true rfl⟩) hi hX hK hP hD hS hA rfl hl.1 rfl (Nat.le_of_ble_eq_true rfl) dJ0_charAt_5068e_1 ⟨Nat.zero_le _, Nat.zero_le _⟩ (fun H locs hP hS => ?_)
  refine lv_if_eq (tgt := 16) hx hb dJ0_charAt_5068e_4 (by decide) (fun h => absurd h (by decide)) (fun _ => ?_)
  refine lv_aload_n hx hb dJ0_charAt_5068e_7 rfl (lv_at hl 0 rfl) ?_
  refine vk_getf hx hb (hX.1.1 i hi).2.2.1 hS hown h1 (fun _ h => h) dJ0_charAt_5068e_8 ?_
  refine lv_iload_n hx hb dJ0_charAt_5068e_11 rfl (lv_at hl 1 rfl) ?_
  refine mr_strSi (As := [.ref (kV i), .int (nI j)]) (rest := []) ⟨hx, hb, hml, hown, hts⟩ (k_J1_charAt l D tys kK kV i j hi hj) (va_cwS 2 hts gJ0_charAt_5068e_J1_charAt_3b067 rfl rfl rfl (by decide +kernel) ⟨Nat.le_of_ble_eq_true rfl, Nat.le_of_ble_eq_true rfl⟩) hX hK hP hD hS hA rfl hl.1 rfl (Nat.le_of_ble_eq_true rfl) dJ0_charAt_5068e_12 ⟨Nat.zero_le _, Nat.zero_le _⟩ (fun H locs hP hS => ?_)
  exact mr_zret hx hb hr (sx_3 i hi j hj).2 hlocks hQ hP hD hS rfl dJ0_charAt_5068e_15
