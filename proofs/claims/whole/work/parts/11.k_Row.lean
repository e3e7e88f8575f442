abbrev rmX3_letIn : Room := { frames := 2, cells := 0, slots := 0, locals := 46 }
set_option maxHeartbeats 40000000 in
set_option maxRecDepth 100000 in
theorem k_Row_letIn (l : Launch) (D : va_G) (cI cB cZ cS cT : ClassId) (qt qt_ones qb1 qb1_kind qb1_father qb1_comes qb1_wants qb1_cost qb1_coins qb1_debts : Nat) (t_length : Int32) (t_ones : Nat → Int32) (b1_people b1_law b1_counters : Int32) (b1_kind b1_father b1_comes b1_wants b1_cost b1_coins b1_debts : Nat → Int32) (p2 p3 : Int32) (o : Int32 × Int32 × (Nat → Int32) × (Nat → Int32) × (Nat → Int32)) (hM : Row_letIn p2 p3 t_length t_ones b1_law b1_kind b1_father b1_coins b1_debts = some o) : mtI l yX3_letIn wsX3_letIn rmX3_letIn D (tys5 cI cB cZ cS cT) [.ref qt, .ref qb1, .int p2, .int p3] (w_Row cI cB cZ cS cT qt qt_ones t_length t_ones ++ w_Twn cI cB cZ cS cT qb1 qb1_kind qb1_father qb1_comes qb1_wants qb1_cost qb1_coins qb1_debts b1_people b1_law b1_counters b1_kind b1_father b1_comes b1_wants b1_cost b1_coins b1_debts) (w_Row cI cB cZ cS cT qt qt_ones o.2.1 o.2.2.1 ++ w_Twn cI cB cZ cS cT qb1 qb1_kind qb1_father qb1_comes qb1_wants qb1_cost qb1_coins qb1_debts b1_people b1_law b1_counters b1_kind b1_father b1_comes b1_wants b1_cost o.2.2.2.1 o.2.2.2.2) o.1 := by
  refine mtI.of (cc := cX3_letIn) (maxL := 8) (ret := (some .int)) (by decide) rfl (Nat.le_of_ble_eq_true rfl) ?_
  intro p e s m below meth c A Q av hav hQ hx hb hr hml hown hts hlocks hK hP hD hA hS ls hl
  have hown : s.vm.findClass RX3 = some m.cls := hown
  have hl : lv_has ls 8 [(0, .ref qt), (1, .ref qb1), (2, .int p2), (3, .int p3)] := hl
  unfold Row_letIn at hM
  have inX3w : ∀ w ∈ u_ws RX3 TX3 2, w ∈ wsX3_letIn := by decide +kernel
  have hf15 := hts (.fieldLink RX3 15 "LetsIn$Row" "length" "I") (by decide +kernel)
  have hf9 := hts (.fieldLink RX3 9 "LetsIn$Row" "ones" "[I") (by decide +kernel)
  refine lv_aload_n hx hb dX3_letIn_0 rfl (lv_at hl 0 rfl) ?_
  refine va_get (D := D) (ci := 3) (v := .int t_length) (C := RX3) (T := TX3) (N := 2) hx hb hts inX3w hown hK hP 0 rfl rfl 1 (by decide) hf15 (fun _ h9 => h9) rfl dX3_letIn_1 ?_
  refine lv_bipush (v := 7) hx hb dX3_letIn_4 (by decide) ?_
  refine mr_icmp_lt (tgt := 11) hx hb hM dX3_letIn_6 (by decide) (fun hM => ?_) (fun hM => ?_)
  · refine lv_iconst (v := 0) hx hb dX3_letIn_11 (by decide) ?_
    refine lv_istore (lv' := [(4, .int 0), (0, .ref qt), (1, .ref qb1), (2, .int p2), (3, .int p3)]) hx hb dX3_letIn_12 hl (by decide) rfl (fun ls hl => ?_)
    refine lv_aload_n hx hb dX3_letIn_14 rfl (lv_at hl 1 rfl) ?_
    refine va_get (D := D) (ci := 3) (v := .int t_length) (C := RX3) (T := TX3) (N := 2) hx hb hts inX3w hown hK hP 0 rfl rfl 1 (by decide) hf15 (fun _ h9 => h9) rfl dX3_letIn_15 ?_
    refine lv_istore (lv' := [(5, .int t_length), (4, .int 0), (0, .ref qt), (1, .ref qb1), (2, .int p2), (3, .int p3)]) hx hb dX3_letIn_18 hl (by decide) rfl (fun ls hl => ?_)
    refine lv_aload_n hx hb dX3_letIn_20 rfl (lv_at hl 2 rfl) ?_
    refine lv_dup hx hb dX3_letIn_21 rfl ?_
    refine va_get (D := D) (ci := 3) (v := .int t_length) (C := RX3) (T := TX3) (N := 2) hx hb hts inX3w hown hK hP 0 rfl rfl 1 (by decide) hf15 (fun _ h9 => h9) rfl dX3_letIn_22 ?_
    refine lv_iconst (v := 1) hx hb dX3_letIn_25 (by decide) ?_
    refine lv_iadd hx hb dX3_letIn_26 ?_
    refine mr_nmI hM (fun t_length_1 hM => ?_)
    refine mr_put (D := D) (ci := 3) (v := .int t_length_1) (ty := .int) (C := RX3) (T := TX3) (N := 2) hx hb hts inX3w tyX3 tyX3_ok nmX3 hown hK hP hD hS 0 rfl rfl 1 (by decide) hf15 (fun _ h9 => h9) rfl (by decide +kernel) rfl rfl (Nat.le_of_ble_eq_true rfl) dX3_letIn_27 (w_Row cI cB cZ cS cT qt qt_ones t_length_1 t_ones ++ w_Twn cI cB cZ cS cT qb1 qb1_kind qb1_father qb1_comes qb1_wants qb1_cost qb1_coins qb1_debts b1_people b1_law b1_counters b1_kind b1_father b1_comes b1_wants b1_cost b1_coins b1_debts) rfl (fun H locs hP hD hS => ?_)
    have hL30 : ∀ (K100 : Int32 → Int32 → (Nat → Int32) → (Nat → Int32) → (Nat → Int32) → Option (Int32 × Int32 × (Nat → Int32) × (Nat → Int32) × (Nat → Int32))) (K118 : Int32 → Int32 → (Nat → Int32) → (Nat → Int32) → (Nat → Int32) → Option (Int32 × Int32 × (Nat → Int32) × (Nat → Int32) × (Nat → Int32))), (∀ (x4_20 x5_21 : Int32) (t_ones_22 b1_coins_23 b1_debts_24 : Nat → Int32), K100 x4_20 x5_21 t_ones_22 b1_coins_23 b1_debts_24 = some o → ∀ (H : Heap) (locs : List Loc), va_P D vwCl (w_Row cI cB cZ cS cT qt qt_ones t_length_1 t_ones_22 ++ w_Twn cI cB cZ cS cT qb1 qb1_kind qb1_father qb1_comes qb1_wants qb1_cost qb1_coins qb1_debts b1_people b1_law b1_counters b1_kind b1_father b1_comes b1_wants b1_cost b1_coins_23 b1_debts_24) H → va_D A (w_Row cI cB cZ cS cT qt qt_ones t_length_1 t_ones_22 ++ w_Twn cI cB cZ cS cT qb1 qb1_kind qb1_father qb1_comes qb1_wants qb1_cost qb1_coins qb1_debts b1_people b1_law b1_counters b1_kind b1_father b1_comes b1_wants b1_cost b1_coins_23 b1_debts_24) → va_S A s.heap H locs → ∀ ls : Array Slot, lv_has ls 8 [(0, .ref qt), (2, .int p2), (4, .int x4_20), (5, .int x5_21)] → W p l e rmX3_letIn s m av below meth c H locs 0 0 Q (F0 m 100 ls [])) → (∀ (x4_26 x5_27 : Int32) (t_ones_28 b1_coins_29 b1_debts_30 : Nat → Int32), K118 x4_26 x5_27 t_ones_28 b1_coins_29 b1_debts_30 = some o → ∀ (H : Heap) (locs : List Loc), va_P D vwCl (w_Row cI cB cZ cS cT qt qt_ones t_length_1 t_ones_28 ++ w_Twn cI cB cZ cS cT qb1 qb1_kind qb1_father qb1_comes qb1_wants qb1_cost qb1_coins qb1_debts b1_people b1_law b1_counters b1_kind b1_father b1_comes b1_wants b1_cost b1_coins_29 b1_debts_30) H → va_D A (w_Row cI cB cZ cS cT qt qt_ones t_length_1 t_ones_28 ++ w_Twn cI cB cZ cS cT qb1 qb1_kind qb1_father qb1_comes qb1_wants qb1_cost qb1_coins qb1_debts b1_people b1_law b1_counters b1_kind b1_father b1_comes b1_wants b1_cost b1_coins_29 b1_debts_30) → va_S A s.heap H locs → ∀ ls : Array Slot, lv_has ls 8 [(0, .ref qt), (2, .int p2), (4, .int x4_26), (5, .int x5_27)] → W p l e rmX3_letIn s m av below meth c H locs 0 0 Q (F0 m 118 ls [])) → ∀ (n : Nat) (x4_2 x5_3 : Int32) (t_ones_4 b1_coins_5 b1_debts_6 : Nat → Int32), Row_letIn_L30 b1_law b1_kind b1_father p2 p3 K100 K118 n x4_2 x5_3 t_ones_4 b1_coins_5 b1_debts_6 = some o → ∀ (H : Heap) (locs : List Loc), va_P D vwCl (w_Row cI cB cZ cS cT qt qt_ones t_length_1 t_ones_4 ++ w_Twn cI cB cZ cS cT qb1 qb1_kind qb1_father qb1_comes qb1_wants qb1_cost qb1_coins qb1_debts b1_people b1_law b1_counters b1_kind b1_father b1_comes b1_wants b1_cost b1_coins_5 b1_debts_6) H → va_D A (w_Row cI cB cZ cS cT qt qt_ones t_length_1 t_ones_4 ++ w_Twn cI cB cZ cS cT qb1 qb1_kind qb1_father qb1_comes qb1_wants qb1_cost qb1_coins qb1_debts b1_people b1_law b1_counters b1_kind b1_father b1_comes b1_wants b1_cost b1_coins_5 b1_debts_6) → va_S A s.heap H locs → ∀ ls : Array Slot, lv_has ls 8 [(0, .ref qt), (1, .ref qb1), (2, .int p2), (3, .int p3), (4, .int x4_2), (5, .int x5_3)] → W p l e rmX3_letIn s m av below meth c H locs 0 0 Q (F0 m 30 ls []) := by
      intro K100 K118 hK100 hK118 n
      induction n with
      | zero =>
        intro x4_2 x5_3 t_ones_4 b1_coins_5 b1_debts_6 hM
        rw [Row_letIn_L30] at hM
        cases hM
      | succ n ih =>
        intro x4_2 x5_3 t_ones_4 b1_coins_5 b1_debts_6 hM H locs hP hD hS ls hl
        rw [Row_letIn_L30] at hM
        refine lv_iload hx hb dX3_letIn_30 (lv_at hl 5 rfl) ?_
        refine mr_if_le (tgt := 118) hx hb hM dX3_letIn_32 (by decide) (fun hM => ?_) (fun hM => ?_)
        · exact hK118 x4_2 x5_3 t_ones_4 b1_coins_5 b1_debts_6 hM _ _ hP hD hS ls (lv_sub hl [0, 2, 4, 5] rfl)
        · refine lv_aload_n hx hb dX3_letIn_35 rfl (lv_at hl 0 rfl) ?_
          refine va_get (D := D) (ci := 3) (v := .ref qt_ones) (C := RX3) (T := TX3) (N := 2) hx hb hts inX3w hown hK hP 0 rfl rfl 0 (by decide) hf9 (fun _ h9 => h9) rfl dX3_letIn_36 ?_
          refine lv_iload hx hb dX3_letIn_39 (lv_at hl 5 rfl) ?_
          refine lv_iconst (v := 1) hx hb dX3_letIn_41 (by decide) ?_
          refine lv_isub hx hb dX3_letIn_42 ?_
          refine mr_iald hx hb hK hP 1 0 rfl rfl hM dX3_letIn_43 (fun v_7 hM => ?_)
          refine lv_istore (lv' := [(6, .int v_7), (0, .ref qt), (1, .ref qb1), (2, .int p2), (3, .int p3), (4, .int x4_2), (5, .int x5_3)]) hx hb dX3_letIn_44 hl (by decide) rfl (fun ls hl => ?_)
          refine lv_aload_n hx hb dX3_letIn_46 rfl (lv_at hl 2 rfl) ?_
          refine lv_iload hx hb dX3_letIn_47 (lv_at hl 0 rfl) ?_
          refine lv_iload_n hx hb dX3_letIn_49 rfl (lv_at hl 3 rfl) ?_
          obtain ⟨o_8, hc, hM⟩ := bind_so hM
          refine mr_callVi (As := [.int v_7, .int p2]) (rest := []) (wr := [(qt, .inr (3, [.ref qt_ones, .int t_length_1])), (qt_ones, .inl (cI, 7, .inl t_ones_4))]) ⟨hx, hb, hml, hown, hts⟩ (k_Twn_mustLet l D cI cB cZ cS cT qb1 qb1_kind qb1_father qb1_comes qb1_wants qb1_cost qb1_coins qb1_debts b1_people b1_law b1_counters b1_kind b1_father b1_comes b1_wants b1_cost b1_coins_5 b1_debts_6 v_7 p2 _ hc) (cwV 2 hts gX3_letIn_X7_mustLet rfl rfl rfl (by decide +kernel) ⟨Nat.le_of_ble_eq_true rfl, Nat.le_of_ble_eq_true rfl⟩) hK hP hD hS hA [2, 3, 4, 5, 6, 7, 8, 9] [0, 1] [0, 1, 2, 3, 4, 5, 6, 7, 8, 9] (w_Row cI cB cZ cS cT qt qt_ones t_length_1 t_ones_4 ++ w_Twn cI cB cZ cS cT qb1 qb1_kind qb1_father qb1_comes qb1_wants qb1_cost qb1_coins qb1_debts b1_people b1_law b1_counters b1_kind b1_father b1_comes b1_wants b1_cost b1_coins_5 b1_debts_6) rfl rfl rfl rfl (by decide) rfl rfl 7 0 rfl rfl rfl rfl hl.1 rfl (Nat.le_of_ble_eq_true rfl) dX3_letIn_50 ⟨Nat.zero_le _, Nat.zero_le _⟩ (fun H locs hP hD hS => ?_)
          refine lv_istore (lv' := [(7, .int o_8), (6, .int v_7), (0, .ref qt), (1, .ref qb1), (2, .int p2), (3, .int p3), (4, .int x4_2), (5, .int x5_3)]) hx hb dX3_letIn_53 hl (by decide) rfl (fun ls hl => ?_)
          refine lv_iload hx hb dX3_letIn_55 (lv_at hl 0 rfl) ?_
          refine mr_jn hM (fun j95_9 => ∀ (x4_10 x7_11 : Int32) (b1_coins_12 b1_debts_13 : Nat → Int32), j95_9 x4_10 x7_11 b1_coins_12 b1_debts_13 = some o → ∀ (H : Heap) (locs : List Loc), va_P D vwCl (w_Row cI cB cZ cS cT qt qt_ones t_length_1 t_ones_4 ++ w_Twn cI cB cZ cS cT qb1 qb1_kind qb1_father qb1_comes qb1_wants qb1_cost qb1_coins qb1_debts b1_people b1_law b1_counters b1_kind b1_father b1_comes b1_wants b1_cost b1_coins_12 b1_debts_13) H → va_D A (w_Row cI cB cZ cS cT qt qt_ones t_length_1 t_ones_4 ++ w_Twn cI cB cZ cS cT qb1 qb1_kind qb1_father qb1_comes qb1_wants qb1_cost qb1_coins qb1_debts b1_people b1_law b1_counters b1_kind b1_father b1_comes b1_wants b1_cost b1_coins_12 b1_debts_13) → va_S A s.heap H locs → ∀ ls : Array Slot, lv_has ls 8 [(0, .ref qt), (1, .ref qb1), (2, .int p2), (3, .int p3), (4, .int x4_10), (5, .int x5_3), (6, .int v_7), (7, .int x7_11)] → W p l e rmX3_letIn s m av below meth c H locs 0 0 Q (F0 m 95 ls [])) (fun x4_10 x7_11 b1_coins_12 b1_debts_13 hM H locs hP hD hS ls hl => ?_) (fun j95_9 hj95_9 hM => ?_)
          · refine lv_iload hx hb dX3_letIn_95 (lv_at hl 7 rfl) ?_
            refine mr_if_ne (tgt := 103) hx hb hM dX3_letIn_97 (by decide) (fun hM => ?_) (fun hM => ?_)
            · refine lv_aload_n hx hb dX3_letIn_103 rfl (lv_at hl 0 rfl) ?_
              refine va_get (D := D) (ci := 3) (v := .ref qt_ones) (C := RX3) (T := TX3) (N := 2) hx hb hts inX3w hown hK hP 0 rfl rfl 0 (by decide) hf9 (fun _ h9 => h9) rfl dX3_letIn_104 ?_
              refine lv_iload hx hb dX3_letIn_107 (lv_at hl 5 rfl) ?_
              refine lv_iload hx hb dX3_letIn_109 (lv_at hl 6 rfl) ?_
              refine mr_iast hx hb hK hP hD hS 1 0 (fun t_ones_14 => (w_Row cI cB cZ cS cT qt qt_ones t_length_1 t_ones_14 ++ w_Twn cI cB cZ cS cT qb1 qb1_kind qb1_father qb1_comes qb1_wants qb1_cost qb1_coins qb1_debts b1_people b1_law b1_counters b1_kind b1_father b1_comes b1_wants b1_cost b1_coins_12 b1_debts_13)) rfl rfl (fun _ => rfl) hM dX3_letIn_111 (fun t_ones_14 hM H locs hP hD hS => ?_)
              refine mr_iinc (k := 5) (d := (-1)) hx hb (fun x5_15 => [(5, .int x5_15), (0, .ref qt), (1, .ref qb1), (2, .int p2), (3, .int p3), (4, .int x4_10), (6, .int v_7), (7, .int x7_11)]) hM (by decide) dX3_letIn_112 hl rfl (by decide) (fun _ => rfl) (fun x5_15 hM ls hl => ?_)
              refine lv_goto (tgt := 30) hx hb dX3_letIn_115 (by decide) ?_
              exact ih x4_10 x5_15 t_ones_14 b1_coins_12 b1_debts_13 hM _ _ hP hD hS ls (lv_sub hl [1, 2, 3, 4, 5, 0] rfl)
            · exact hK100 x4_10 x5_3 t_ones_4 b1_coins_12 b1_debts_13 hM _ _ hP hD hS ls (lv_sub hl [0, 2, 4, 5] rfl)
          · refine mr_if_eq (tgt := 95) hx hb hM dX3_letIn_57 (by decide) (fun hM => ?_) (fun hM => ?_)
            · exact hj95_9 x4_2 o_8 b1_coins_5 b1_debts_6 hM _ _ hP hD hS ls (lv_sub hl [2, 3, 4, 5, 6, 7, 1, 0] rfl)
            · refine lv_iload_n hx hb dX3_letIn_60 rfl (lv_at hl 5 rfl) ?_
              refine mr_if_eq (tgt := 95) hx hb hM dX3_letIn_61 (by decide) (fun hM => ?_) (fun hM => ?_)
              · exact hj95_9 x4_2 o_8 b1_coins_5 b1_debts_6 hM _ _ hP hD hS ls (lv_sub hl [2, 3, 4, 5, 6, 7, 1, 0] rfl)
              · refine lv_aload_n hx hb dX3_letIn_64 rfl (lv_at hl 3 rfl) ?_
                refine lv_iload hx hb dX3_letIn_65 (lv_at hl 1 rfl) ?_
                refine lv_iload_n hx hb dX3_letIn_67 rfl (lv_at hl 4 rfl) ?_
                obtain ⟨o_16, hc, hM⟩ := bind_so hM
                refine mr_callVi (As := [.int v_7, .int p2]) (rest := []) (wr := [(qt, .inr (3, [.ref qt_ones, .int t_length_1])), (qt_ones, .inl (cI, 7, .inl t_ones_4))]) ⟨hx, hb, hml, hown, hts⟩ (k_Twn_ratherPays l D cI cB cZ cS cT qb1 qb1_kind qb1_father qb1_comes qb1_wants qb1_cost qb1_coins qb1_debts b1_people b1_law b1_counters b1_kind b1_father b1_comes b1_wants b1_cost b1_coins_5 b1_debts_6 v_7 p2 _ hc) (cwV 2 hts gX3_letIn_X7_ratherPays rfl rfl rfl (by decide +kernel) ⟨Nat.le_of_ble_eq_true rfl, Nat.le_of_ble_eq_true rfl⟩) hK hP hD hS hA [2, 3, 4, 5, 6, 7, 8, 9] [0, 1] [0, 1, 2, 3, 4, 5, 6, 7, 8, 9] (w_Row cI cB cZ cS cT qt qt_ones t_length_1 t_ones_4 ++ w_Twn cI cB cZ cS cT qb1 qb1_kind qb1_father qb1_comes qb1_wants qb1_cost qb1_coins qb1_debts b1_people b1_law b1_counters b1_kind b1_father b1_comes b1_wants b1_cost b1_coins_5 b1_debts_6) rfl rfl rfl rfl (by decide) rfl rfl 7 0 rfl rfl rfl rfl hl.1 rfl (Nat.le_of_ble_eq_true rfl) dX3_letIn_68 ⟨Nat.zero_le _, Nat.zero_le _⟩ (fun H locs hP hD hS => ?_)
                refine mr_if_eq (tgt := 95) hx hb hM dX3_letIn_71 (by decide) (fun hM => ?_) (fun hM => ?_)
                · exact hj95_9 x4_2 o_8 b1_coins_5 b1_debts_6 hM _ _ hP hD hS ls (lv_sub hl [2, 3, 4, 5, 6, 7, 1, 0] rfl)
                · refine lv_iload hx hb dX3_letIn_74 (lv_at hl 6 rfl) ?_
                  refine lv_aload_n hx hb dX3_letIn_76 rfl (lv_at hl 3 rfl) ?_
                  refine lv_iload hx hb dX3_letIn_77 (lv_at hl 1 rfl) ?_
                  refine lv_iload_n hx hb dX3_letIn_79 rfl (lv_at hl 4 rfl) ?_
                  obtain ⟨o_17, hc, hM⟩ := bind_so hM
                  refine mr_callVi (As := [.int v_7, .int p2]) (rest := [.int x4_2]) (wr := [(qt, .inr (3, [.ref qt_ones, .int t_length_1])), (qt_ones, .inl (cI, 7, .inl t_ones_4))]) ⟨hx, hb, hml, hown, hts⟩ (k_Twn_payOff l D cI cB cZ cS cT qb1 qb1_kind qb1_father qb1_comes qb1_wants qb1_cost qb1_coins qb1_debts b1_people b1_law b1_counters b1_kind b1_father b1_comes b1_wants b1_cost b1_coins_5 b1_debts_6 v_7 p2 _ hc) (cwV 2 hts gX3_letIn_X7_payOff rfl rfl rfl (by decide +kernel) ⟨Nat.le_of_ble_eq_true rfl, Nat.le_of_ble_eq_true rfl⟩) hK hP hD hS hA [2, 3, 4, 5, 6, 7, 8, 9] [0, 1] [0, 1, 2, 3, 4, 5, 6, 7, 8, 9] (w_Row cI cB cZ cS cT qt qt_ones t_length_1 t_ones_4 ++ w_Twn cI cB cZ cS cT qb1 qb1_kind qb1_father qb1_comes qb1_wants qb1_cost qb1_coins qb1_debts b1_people b1_law b1_counters b1_kind b1_father b1_comes b1_wants b1_cost o_17.2.1 o_17.2.2) rfl rfl rfl rfl (by decide) rfl rfl 7 0 rfl rfl rfl rfl hl.1 rfl (Nat.le_of_ble_eq_true rfl) dX3_letIn_80 ⟨Nat.zero_le _, Nat.zero_le _⟩ (fun H locs hP hD hS => ?_)
                  refine lv_iadd hx hb dX3_letIn_83 ?_
                  refine mr_nmI hM (fun x4_18 hM => ?_)
                  refine lv_istore (lv' := [(4, .int x4_18), (7, .int o_8), (6, .int v_7), (0, .ref qt), (1, .ref qb1), (2, .int p2), (3, .int p3), (5, .int x5_3)]) hx hb dX3_letIn_84 hl (by decide) rfl (fun ls hl => ?_)
                  refine lv_aload_n hx hb dX3_letIn_86 rfl (lv_at hl 4 rfl) ?_
                  refine lv_iload hx hb dX3_letIn_87 (lv_at hl 2 rfl) ?_
                  refine lv_iload_n hx hb dX3_letIn_89 rfl (lv_at hl 5 rfl) ?_
                  obtain ⟨o_19, hc, hM⟩ := bind_so hM
                  refine mr_callVi (As := [.int v_7, .int p2]) (rest := []) (wr := [(qt, .inr (3, [.ref qt_ones, .int t_length_1])), (qt_ones, .inl (cI, 7, .inl t_ones_4))]) ⟨hx, hb, hml, hown, hts⟩ (k_Twn_mustLet l D cI cB cZ cS cT qb1 qb1_kind qb1_father qb1_comes qb1_wants qb1_cost qb1_coins qb1_debts b1_people b1_law b1_counters b1_kind b1_father b1_comes b1_wants b1_cost o_17.2.1 o_17.2.2 v_7 p2 _ hc) (cwV 2 hts gX3_letIn_X7_mustLet rfl rfl rfl (by decide +kernel) ⟨Nat.le_of_ble_eq_true rfl, Nat.le_of_ble_eq_true rfl⟩) hK hP hD hS hA [2, 3, 4, 5, 6, 7, 8, 9] [0, 1] [0, 1, 2, 3, 4, 5, 6, 7, 8, 9] (w_Row cI cB cZ cS cT qt qt_ones t_length_1 t_ones_4 ++ w_Twn cI cB cZ cS cT qb1 qb1_kind qb1_father qb1_comes qb1_wants qb1_cost qb1_coins qb1_debts b1_people b1_law b1_counters b1_kind b1_father b1_comes b1_wants b1_cost o_17.2.1 o_17.2.2) rfl rfl rfl rfl (by decide) rfl rfl 7 0 rfl rfl rfl rfl hl.1 rfl (Nat.le_of_ble_eq_true rfl) dX3_letIn_90 ⟨Nat.zero_le _, Nat.zero_le _⟩ (fun H locs hP hD hS => ?_)
                  refine lv_istore (lv' := [(7, .int o_19), (4, .int x4_18), (6, .int v_7), (0, .ref qt), (1, .ref qb1), (2, .int p2), (3, .int p3), (5, .int x5_3)]) hx hb dX3_letIn_93 hl (by decide) rfl (fun ls hl => ?_)
                  exact hj95_9 x4_18 o_19 o_17.2.1 o_17.2.2 hM _ _ hP hD hS ls (lv_sub hl [3, 4, 5, 6, 1, 7, 2, 0] rfl)
    refine hL30 _ _ (fun x4_20 x5_21 t_ones_22 b1_coins_23 b1_debts_24 hM H locs hP hD hS ls hl => ?_) (fun x4_26 x5_27 t_ones_28 b1_coins_29 b1_debts_30 hM H locs hP hD hS ls hl => ?_) _ 0 t_length t_ones b1_coins b1_debts hM _ _ hP hD hS ls (lv_sub hl [2, 3, 4, 5, 1, 0] rfl)
    · refine lv_goto (tgt := 118) hx hb dX3_letIn_100 (by decide) ?_
      refine lv_aload_n hx hb dX3_letIn_118 rfl (lv_at hl 0 rfl) ?_
      refine va_get (D := D) (ci := 3) (v := .ref qt_ones) (C := RX3) (T := TX3) (N := 2) hx hb hts inX3w hown hK hP 0 rfl rfl 0 (by decide) hf9 (fun _ h9 => h9) rfl dX3_letIn_119 ?_
      refine lv_iload hx hb dX3_letIn_122 (lv_at hl 3 rfl) ?_
      refine lv_iload_n hx hb dX3_letIn_124 rfl (lv_at hl 1 rfl) ?_
      refine mr_iast hx hb hK hP hD hS 1 0 (fun t_ones_25 => (w_Row cI cB cZ cS cT qt qt_ones t_length_1 t_ones_25 ++ w_Twn cI cB cZ cS cT qb1 qb1_kind qb1_father qb1_comes qb1_wants qb1_cost qb1_coins qb1_debts b1_people b1_law b1_counters b1_kind b1_father b1_comes b1_wants b1_cost b1_coins_23 b1_debts_24)) rfl rfl (fun _ => rfl) hM dX3_letIn_125 (fun t_ones_25 hM H locs hP hD hS => ?_)
      refine lv_iload hx hb dX3_letIn_126 (lv_at hl 2 rfl) ?_
      have hM := Option.some.inj hM
      subst hM
      exact mr_iret hx hb hr hlocks hQ hP hD hS rfl dX3_letIn_128
    · refine lv_aload_n hx hb dX3_letIn_118 rfl (lv_at hl 0 rfl) ?_
      refine va_get (D := D) (ci := 3) (v := .ref qt_ones) (C := RX3) (T := TX3) (N := 2) hx hb hts inX3w hown hK hP 0 rfl rfl 0 (by decide) hf9 (fun _ h9 => h9) rfl dX3_letIn_119 ?_
      refine lv_iload hx hb dX3_letIn_122 (lv_at hl 3 rfl) ?_
      refine lv_iload_n hx hb dX3_letIn_124 rfl (lv_at hl 1 rfl) ?_
      refine mr_iast hx hb hK hP hD hS 1 0 (fun t_ones_31 => (w_Row cI cB cZ cS cT qt qt_ones t_length_1 t_ones_31 ++ w_Twn cI cB cZ cS cT qb1 qb1_kind qb1_father qb1_comes qb1_wants qb1_cost qb1_coins qb1_debts b1_people b1_law b1_counters b1_kind b1_father b1_comes b1_wants b1_cost b1_coins_29 b1_debts_30)) rfl rfl (fun _ => rfl) hM dX3_letIn_125 (fun t_ones_31 hM H locs hP hD hS => ?_)
      refine lv_iload hx hb dX3_letIn_126 (lv_at hl 2 rfl) ?_
      have hM := Option.some.inj hM
      subst hM
      exact mr_iret hx hb hr hlocks hQ hP hD hS rfl dX3_letIn_128
  · refine lv_iconst (v := 0) hx hb dX3_letIn_9 (by decide) ?_
    have hM := Option.some.inj hM
    subst hM
    exact mr_iret hx hb hr hlocks hQ hP hD hS rfl dX3_letIn_10

abbrev rmX3_takeFront : Room := { frames := 0, cells := 0, slots := 0, locals := 0 }
set_option maxHeartbeats 40000000 in
set_option maxRecDepth 100000 in
theorem k_Row_takeFront (l : Launch) (D : va_G) (cI cB cZ cS cT : ClassId) (qt qt_ones : Nat) (t_length : Int32) (t_ones : Nat → Int32)  (o : Int32 × Int32 × (Nat → Int32)) (hM : Row_takeFront t_length t_ones = some o) : mtI l yX3_takeFront wsX3_takeFront rmX3_takeFront D (tys5 cI cB cZ cS cT) [.ref qt] (w_Row cI cB cZ cS cT qt qt_ones t_length t_ones) (w_Row cI cB cZ cS cT qt qt_ones o.2.1 o.2.2) o.1 := by
  refine mtI.of (cc := cX3_takeFront) (maxL := 3) (ret := (some .int)) (by decide) rfl (Nat.le_of_ble_eq_true rfl) ?_
  intro p e s m below meth c A Q av hav hQ hx hb hr hml hown hts hlocks hK hP hD hA hS ls hl
  have hown : s.vm.findClass RX3 = some m.cls := hown
  have hl : lv_has ls 3 [(0, .ref qt)] := hl
  unfold Row_takeFront at hM
  have inX3w : ∀ w ∈ u_ws RX3 TX3 2, w ∈ wsX3_takeFront := by decide +kernel
  have hf15 := hts (.fieldLink RX3 15 "LetsIn$Row" "length" "I") (by decide +kernel)
  have hf9 := hts (.fieldLink RX3 9 "LetsIn$Row" "ones" "[I") (by decide +kernel)
  refine lv_aload_n hx hb dX3_takeFront_0 rfl (lv_at hl 0 rfl) ?_
  refine va_get (D := D) (ci := 3) (v := .int t_length) (C := RX3) (T := TX3) (N := 2) hx hb hts inX3w hown hK hP 0 rfl rfl 1 (by decide) hf15 (fun _ h9 => h9) rfl dX3_takeFront_1 ?_
  refine mr_if_ne (tgt := 10) hx hb hM dX3_takeFront_4 (by decide) (fun hM => ?_) (fun hM => ?_)
  · refine lv_aload_n hx hb dX3_takeFront_10 rfl (lv_at hl 0 rfl) ?_
    refine va_get (D := D) (ci := 3) (v := .ref qt_ones) (C := RX3) (T := TX3) (N := 2) hx hb hts inX3w hown hK hP 0 rfl rfl 0 (by decide) hf9 (fun _ h9 => h9) rfl dX3_takeFront_11 ?_
    refine lv_iconst (v := 0) hx hb dX3_takeFront_14 (by decide) ?_
    refine mr_iald hx hb hK hP 1 0 rfl rfl hM dX3_takeFront_15 (fun v_1 hM => ?_)
    refine lv_istore_n (lv' := [(1, .int v_1), (0, .ref qt)]) hx hb dX3_takeFront_16 rfl hl (by decide) rfl (fun ls hl => ?_)
    refine lv_aload_n hx hb dX3_takeFront_17 rfl (lv_at hl 1 rfl) ?_
    refine lv_dup hx hb dX3_takeFront_18 rfl ?_
    refine va_get (D := D) (ci := 3) (v := .int t_length) (C := RX3) (T := TX3) (N := 2) hx hb hts inX3w hown hK hP 0 rfl rfl 1 (by decide) hf15 (fun _ h9 => h9) rfl dX3_takeFront_19 ?_
    refine lv_iconst (v := 1) hx hb dX3_takeFront_22 (by decide) ?_
    refine lv_isub hx hb dX3_takeFront_23 ?_
    refine mr_nmI hM (fun t_length_2 hM => ?_)
    refine mr_put (D := D) (ci := 3) (v := .int t_length_2) (ty := .int) (C := RX3) (T := TX3) (N := 2) hx hb hts inX3w tyX3 tyX3_ok nmX3 hown hK hP hD hS 0 rfl rfl 1 (by decide) hf15 (fun _ h9 => h9) rfl (by decide +kernel) rfl rfl (Nat.le_of_ble_eq_true rfl) dX3_takeFront_24 (w_Row cI cB cZ cS cT qt qt_ones t_length_2 t_ones) rfl (fun H locs hP hD hS => ?_)
    refine lv_iconst (v := 0) hx hb dX3_takeFront_27 (by decide) ?_
    refine lv_istore_n (lv' := [(2, .int 0), (1, .int v_1), (0, .ref qt)]) hx hb dX3_takeFront_28 rfl hl (by decide) rfl (fun ls hl => ?_)
    have hL29 : ∀ (K57 : (Nat → Int32) → Option (Int32 × Int32 × (Nat → Int32))), (∀ (t_ones_8 : Nat → Int32), K57 t_ones_8 = some o → ∀ (H : Heap) (locs : List Loc), va_P D vwCl (w_Row cI cB cZ cS cT qt qt_ones t_length_2 t_ones_8) H → va_D A (w_Row cI cB cZ cS cT qt qt_ones t_length_2 t_ones_8) → va_S A s.heap H locs → ∀ ls : Array Slot, lv_has ls 3 [(1, .int v_1)] → W p l e rmX3_takeFront s m av below meth c H locs 0 0 Q (F0 m 57 ls [])) → ∀ (n : Nat) (x2_3 : Int32) (t_ones_4 : Nat → Int32), Row_takeFront_L29 t_length_2 K57 n x2_3 t_ones_4 = some o → ∀ (H : Heap) (locs : List Loc), va_P D vwCl (w_Row cI cB cZ cS cT qt qt_ones t_length_2 t_ones_4) H → va_D A (w_Row cI cB cZ cS cT qt qt_ones t_length_2 t_ones_4) → va_S A s.heap H locs → ∀ ls : Array Slot, lv_has ls 3 [(0, .ref qt), (1, .int v_1), (2, .int x2_3)] → W p l e rmX3_takeFront s m av below meth c H locs 0 0 Q (F0 m 29 ls []) := by
      intro K57 hK57 n
      induction n with
      | zero =>
        intro x2_3 t_ones_4 hM
        rw [Row_takeFront_L29] at hM
        cases hM
      | succ n ih =>
        intro x2_3 t_ones_4 hM H locs hP hD hS ls hl
        rw [Row_takeFront_L29] at hM
        refine lv_iload_n hx hb dX3_takeFront_29 rfl (lv_at hl 2 rfl) ?_
        refine lv_aload_n hx hb dX3_takeFront_30 rfl (lv_at hl 0 rfl) ?_
        refine va_get (D := D) (ci := 3) (v := .int t_length_2) (C := RX3) (T := TX3) (N := 2) hx hb hts inX3w hown hK hP 0 rfl rfl 1 (by decide) hf15 (fun _ h9 => h9) rfl dX3_takeFront_31 ?_
        refine mr_icmp_ge (tgt := 57) hx hb hM dX3_takeFront_34 (by decide) (fun hM => ?_) (fun hM => ?_)
        · exact hK57 t_ones_4 hM _ _ hP hD hS ls (lv_sub hl [1] rfl)
        · refine lv_aload_n hx hb dX3_takeFront_37 rfl (lv_at hl 0 rfl) ?_
          refine va_get (D := D) (ci := 3) (v := .ref qt_ones) (C := RX3) (T := TX3) (N := 2) hx hb hts inX3w hown hK hP 0 rfl rfl 0 (by decide) hf9 (fun _ h9 => h9) rfl dX3_takeFront_38 ?_
          refine lv_iload_n hx hb dX3_takeFront_41 rfl (lv_at hl 2 rfl) ?_
          refine lv_aload_n hx hb dX3_takeFront_42 rfl (lv_at hl 0 rfl) ?_
          refine va_get (D := D) (ci := 3) (v := .ref qt_ones) (C := RX3) (T := TX3) (N := 2) hx hb hts inX3w hown hK hP 0 rfl rfl 0 (by decide) hf9 (fun _ h9 => h9) rfl dX3_takeFront_43 ?_
          refine lv_iload_n hx hb dX3_takeFront_46 rfl (lv_at hl 2 rfl) ?_
          refine lv_iconst (v := 1) hx hb dX3_takeFront_47 (by decide) ?_
          refine lv_iadd hx hb dX3_takeFront_48 ?_
          refine mr_iald hx hb hK hP 1 0 rfl rfl hM dX3_takeFront_49 (fun v_5 hM => ?_)
          refine mr_iast hx hb hK hP hD hS 1 0 (fun t_ones_6 => (w_Row cI cB cZ cS cT qt qt_ones t_length_2 t_ones_6)) rfl rfl (fun _ => rfl) hM dX3_takeFront_50 (fun t_ones_6 hM H locs hP hD hS => ?_)
          refine mr_iinc (k := 2) (d := 1) hx hb (fun x2_7 => [(2, .int x2_7), (0, .ref qt), (1, .int v_1)]) hM (by decide) dX3_takeFront_51 hl rfl (by decide) (fun _ => rfl) (fun x2_7 hM ls hl => ?_)
          refine lv_goto (tgt := 29) hx hb dX3_takeFront_54 (by decide) ?_
          exact ih x2_7 t_ones_6 hM _ _ hP hD hS ls (lv_sub hl [1, 2, 0] rfl)
    refine hL29 _ (fun t_ones_8 hM H locs hP hD hS ls hl => ?_) _ 0 t_ones hM _ _ hP hD hS ls (lv_sub hl [2, 1, 0] rfl)
    refine lv_iload_n hx hb dX3_takeFront_57 rfl (lv_at hl 0 rfl) ?_
    have hM := Option.some.inj hM
    subst hM
    exact mr_iret hx hb hr hlocks hQ hP hD hS rfl dX3_takeFront_58
  · refine lv_bipush (v := (-4)) hx hb dX3_takeFront_7 (by decide) ?_
    have hM := Option.some.inj hM
    subst hM
    exact mr_iret hx hb hr hlocks hQ hP hD hS rfl dX3_takeFront_9

abbrev rmX3_placeOf : Room := { frames := 0, cells := 0, slots := 0, locals := 0 }
set_option maxHeartbeats 40000000 in
set_option maxRecDepth 100000 in
theorem k_Row_placeOf (l : Launch) (D : va_G) (cI cB cZ cS cT : ClassId) (qt qt_ones : Nat) (t_length : Int32) (t_ones : Nat → Int32) (p1 : Int32) (o : Int32) (hM : Row_placeOf p1 t_length t_ones = some o) : mtI l yX3_placeOf wsX3_placeOf rmX3_placeOf D (tys5 cI cB cZ cS cT) [.ref qt, .int p1] (w_Row cI cB cZ cS cT qt qt_ones t_length t_ones) (w_Row cI cB cZ cS cT qt qt_ones t_length t_ones) o := by
  refine mtI.of (cc := cX3_placeOf) (maxL := 3) (ret := (some .int)) (by decide) rfl (Nat.le_of_ble_eq_true rfl) ?_
  intro p e s m below meth c A Q av hav hQ hx hb hr hml hown hts hlocks hK hP hD hA hS ls hl
  have hown : s.vm.findClass RX3 = some m.cls := hown
  have hl : lv_has ls 3 [(0, .ref qt), (1, .int p1)] := hl
  unfold Row_placeOf at hM
  have inX3w : ∀ w ∈ u_ws RX3 TX3 2, w ∈ wsX3_placeOf := by decide +kernel
  have hf15 := hts (.fieldLink RX3 15 "LetsIn$Row" "length" "I") (by decide +kernel)
  have hf9 := hts (.fieldLink RX3 9 "LetsIn$Row" "ones" "[I") (by decide +kernel)
  refine lv_iconst (v := 0) hx hb dX3_placeOf_0 (by decide) ?_
  refine lv_istore_n (lv' := [(2, .int 0), (0, .ref qt), (1, .int p1)]) hx hb dX3_placeOf_1 rfl hl (by decide) rfl (fun ls hl => ?_)
  have hL2 : ∀ (K20 : Int32 → Option (Int32)) (K28 : Option (Int32)), (∀ (x2_4 : Int32), K20 x2_4 = some o → ∀ (H : Heap) (locs : List Loc), va_P D vwCl (w_Row cI cB cZ cS cT qt qt_ones t_length t_ones) H → va_D A (w_Row cI cB cZ cS cT qt qt_ones t_length t_ones) → va_S A s.heap H locs → ∀ ls : Array Slot, lv_has ls 3 [(2, .int x2_4)] → W p l e rmX3_placeOf s m av below meth c H locs 0 0 Q (F0 m 20 ls [])) → (K28  = some o → ∀ (H : Heap) (locs : List Loc), va_P D vwCl (w_Row cI cB cZ cS cT qt qt_ones t_length t_ones) H → va_D A (w_Row cI cB cZ cS cT qt qt_ones t_length t_ones) → va_S A s.heap H locs → ∀ ls : Array Slot, lv_has ls 3 [] → W p l e rmX3_placeOf s m av below meth c H locs 0 0 Q (F0 m 28 ls [])) → ∀ (n : Nat) (x2_1 : Int32), Row_placeOf_L2 t_length t_ones p1 K20 K28 n x2_1 = some o → ∀ (H : Heap) (locs : List Loc), va_P D vwCl (w_Row cI cB cZ cS cT qt qt_ones t_length t_ones) H → va_D A (w_Row cI cB cZ cS cT qt qt_ones t_length t_ones) → va_S A s.heap H locs → ∀ ls : Array Slot, lv_has ls 3 [(0, .ref qt), (1, .int p1), (2, .int x2_1)] → W p l e rmX3_placeOf s m av below meth c H locs 0 0 Q (F0 m 2 ls []) := by
    intro K20 K28 hK20 hK28 n
    induction n with
    | zero =>
      intro x2_1 hM
      rw [Row_placeOf_L2] at hM
      cases hM
    | succ n ih =>
      intro x2_1 hM H locs hP hD hS ls hl
      rw [Row_placeOf_L2] at hM
      refine lv_iload_n hx hb dX3_placeOf_2 rfl (lv_at hl 2 rfl) ?_
      refine lv_aload_n hx hb dX3_placeOf_3 rfl (lv_at hl 0 rfl) ?_
      refine va_get (D := D) (ci := 3) (v := .int t_length) (C := RX3) (T := TX3) (N := 2) hx hb hts inX3w hown hK hP 0 rfl rfl 1 (by decide) hf15 (fun _ h9 => h9) rfl dX3_placeOf_4 ?_
      refine mr_icmp_ge (tgt := 28) hx hb hM dX3_placeOf_7 (by decide) (fun hM => ?_) (fun hM => ?_)
      · exact hK28  hM _ _ hP hD hS ls (lv_sub hl [] rfl)
      · refine lv_aload_n hx hb dX3_placeOf_10 rfl (lv_at hl 0 rfl) ?_
        refine va_get (D := D) (ci := 3) (v := .ref qt_ones) (C := RX3) (T := TX3) (N := 2) hx hb hts inX3w hown hK hP 0 rfl rfl 0 (by decide) hf9 (fun _ h9 => h9) rfl dX3_placeOf_11 ?_
        refine lv_iload_n hx hb dX3_placeOf_14 rfl (lv_at hl 2 rfl) ?_
        refine mr_iald hx hb hK hP 1 0 rfl rfl hM dX3_placeOf_15 (fun v_2 hM => ?_)
        refine lv_iload_n hx hb dX3_placeOf_16 rfl (lv_at hl 1 rfl) ?_
        refine mr_icmp_ne (tgt := 22) hx hb hM dX3_placeOf_17 (by decide) (fun hM => ?_) (fun hM => ?_)
        · refine mr_iinc (k := 2) (d := 1) hx hb (fun x2_3 => [(2, .int x2_3), (0, .ref qt), (1, .int p1)]) hM (by decide) dX3_placeOf_22 hl rfl (by decide) (fun _ => rfl) (fun x2_3 hM ls hl => ?_)
          refine lv_goto (tgt := 2) hx hb dX3_placeOf_25 (by decide) ?_
          exact ih x2_3 hM _ _ hP hD hS ls (lv_sub hl [1, 2, 0] rfl)
        · exact hK20 x2_1 hM _ _ hP hD hS ls (lv_sub hl [2] rfl)
  refine hL2 _ _ (fun x2_4 hM H locs hP hD hS ls hl => ?_) (fun  hM H locs hP hD hS ls hl => ?_) _ 0 hM _ _ hP hD hS ls (lv_sub hl [1, 2, 0] rfl)
  · refine lv_iload_n hx hb dX3_placeOf_20 rfl (lv_at hl 0 rfl) ?_
    have hM := Option.some.inj hM
    subst hM
    exact mr_iret hx hb hr hlocks hQ hP hD hS rfl dX3_placeOf_21
  · refine lv_bipush (v := (-4)) hx hb dX3_placeOf_28 (by decide) ?_
    have hM := Option.some.inj hM
    subst hM
    exact mr_iret hx hb hr hlocks hQ hP hD hS rfl dX3_placeOf_30

abbrev rmX3_oneAt : Room := { frames := 0, cells := 0, slots := 0, locals := 0 }
set_option maxHeartbeats 40000000 in
set_option maxRecDepth 100000 in
theorem k_Row_oneAt (l : Launch) (D : va_G) (cI cB cZ cS cT : ClassId) (qt qt_ones : Nat) (t_length : Int32) (t_ones : Nat → Int32) (p1 : Int32) (o : Int32) (hM : Row_oneAt p1 t_length t_ones = some o) : mtI l yX3_oneAt wsX3_oneAt rmX3_oneAt D (tys5 cI cB cZ cS cT) [.ref qt, .int p1] (w_Row cI cB cZ cS cT qt qt_ones t_length t_ones) (w_Row cI cB cZ cS cT qt qt_ones t_length t_ones) o := by
  refine mtI.of (cc := cX3_oneAt) (maxL := 2) (ret := (some .int)) (by decide) rfl (Nat.le_of_ble_eq_true rfl) ?_
  intro p e s m below meth c A Q av hav hQ hx hb hr hml hown hts hlocks hK hP hD hA hS ls hl
  have hown : s.vm.findClass RX3 = some m.cls := hown
  have hl : lv_has ls 2 [(0, .ref qt), (1, .int p1)] := hl
  unfold Row_oneAt at hM
  have inX3w : ∀ w ∈ u_ws RX3 TX3 2, w ∈ wsX3_oneAt := by decide +kernel
  have hf15 := hts (.fieldLink RX3 15 "LetsIn$Row" "length" "I") (by decide +kernel)
  have hf9 := hts (.fieldLink RX3 9 "LetsIn$Row" "ones" "[I") (by decide +kernel)
  refine lv_iload_n hx hb dX3_oneAt_0 rfl (lv_at hl 1 rfl) ?_
  refine mr_if_lt (tgt := 21) hx hb hM dX3_oneAt_1 (by decide) (fun hM => ?_) (fun hM => ?_)
  · refine lv_bipush (v := (-4)) hx hb dX3_oneAt_21 (by decide) ?_
    have hM := Option.some.inj hM
    subst hM
    exact mr_iret hx hb hr hlocks hQ hP hD hS rfl dX3_oneAt_23
  · refine lv_iload_n hx hb dX3_oneAt_4 rfl (lv_at hl 1 rfl) ?_
    refine lv_aload_n hx hb dX3_oneAt_5 rfl (lv_at hl 0 rfl) ?_
    refine va_get (D := D) (ci := 3) (v := .int t_length) (C := RX3) (T := TX3) (N := 2) hx hb hts inX3w hown hK hP 0 rfl rfl 1 (by decide) hf15 (fun _ h9 => h9) rfl dX3_oneAt_6 ?_
    refine mr_icmp_ge (tgt := 21) hx hb hM dX3_oneAt_9 (by decide) (fun hM => ?_) (fun hM => ?_)
    · refine lv_bipush (v := (-4)) hx hb dX3_oneAt_21 (by decide) ?_
      have hM := Option.some.inj hM
      subst hM
      exact mr_iret hx hb hr hlocks hQ hP hD hS rfl dX3_oneAt_23
    · refine lv_aload_n hx hb dX3_oneAt_12 rfl (lv_at hl 0 rfl) ?_
      refine va_get (D := D) (ci := 3) (v := .ref qt_ones) (C := RX3) (T := TX3) (N := 2) hx hb hts inX3w hown hK hP 0 rfl rfl 0 (by decide) hf9 (fun _ h9 => h9) rfl dX3_oneAt_13 ?_
      refine lv_iload_n hx hb dX3_oneAt_16 rfl (lv_at hl 1 rfl) ?_
      refine mr_iald hx hb hK hP 1 0 rfl rfl hM dX3_oneAt_17 (fun v_1 hM => ?_)
      refine lv_goto (tgt := 23) hx hb dX3_oneAt_18 (by decide) ?_
      have hM := Option.some.inj hM
      subst hM
      exact mr_iret hx hb hr hlocks hQ hP hD hS rfl dX3_oneAt_23

abbrev rmX3_fillAsTheyCome : Room := { frames := 3, cells := 0, slots := 0, locals := 73 }
set_option maxHeartbeats 40000000 in
set_option maxRecDepth 100000 in
theorem k_Row_fillAsTheyCome (l : Launch) (D : va_G) (cI cB cZ cS cT : ClassId) (qt qt_ones qb1 qb1_kind qb1_father qb1_comes qb1_wants qb1_cost qb1_coins qb1_debts : Nat) (t_length : Int32) (t_ones : Nat → Int32) (b1_people b1_law b1_counters : Int32) (b1_kind b1_father b1_comes b1_wants b1_cost b1_coins b1_debts : Nat → Int32) (p2 : Int32) (o : Int32 × (Nat → Int32) × (Nat → Int32) × (Nat → Int32)) (hM : Row_fillAsTheyCome p2 t_ones b1_people b1_law b1_kind b1_father b1_comes b1_coins b1_debts = some o) : mtV l yX3_fillAsTheyCome wsX3_fillAsTheyCome rmX3_fillAsTheyCome D (tys5 cI cB cZ cS cT) [.ref qt, .ref qb1, .int p2] (w_Row cI cB cZ cS cT qt qt_ones t_length t_ones ++ w_Twn cI cB cZ cS cT qb1 qb1_kind qb1_father qb1_comes qb1_wants qb1_cost qb1_coins qb1_debts b1_people b1_law b1_counters b1_kind b1_father b1_comes b1_wants b1_cost b1_coins b1_debts) (w_Row cI cB cZ cS cT qt qt_ones o.1 o.2.1 ++ w_Twn cI cB cZ cS cT qb1 qb1_kind qb1_father qb1_comes qb1_wants qb1_cost qb1_coins qb1_debts b1_people b1_law b1_counters b1_kind b1_father b1_comes b1_wants b1_cost o.2.2.1 o.2.2.2) := by
  refine mtV.of (cc := cX3_fillAsTheyCome) (maxL := 6) (ret := none) (by decide) rfl (Nat.le_of_ble_eq_true rfl) ?_
  intro p e s m below meth c A Q av hav hQ hx hb hr hml hown hts hlocks hK hP hD hA hS ls hl
  have hown : s.vm.findClass RX3 = some m.cls := hown
  have hl : lv_has ls 6 [(0, .ref qt), (1, .ref qb1), (2, .int p2)] := hl
  unfold Row_fillAsTheyCome at hM
  have inX3w : ∀ w ∈ u_ws RX3 TX3 2, w ∈ wsX3_fillAsTheyCome := by decide +kernel
  have hf15 := hts (.fieldLink RX3 15 "LetsIn$Row" "length" "I") (by decide +kernel)
  refine lv_aload_n hx hb dX3_fillAsTheyCome_0 rfl (lv_at hl 0 rfl) ?_
  refine lv_iconst (v := 0) hx hb dX3_fillAsTheyCome_1 (by decide) ?_
  refine mr_put (D := D) (ci := 3) (v := .int 0) (ty := .int) (C := RX3) (T := TX3) (N := 2) hx hb hts inX3w tyX3 tyX3_ok nmX3 hown hK hP hD hS 0 rfl rfl 1 (by decide) hf15 (fun _ h9 => h9) rfl (by decide +kernel) rfl rfl (Nat.le_of_ble_eq_true rfl) dX3_fillAsTheyCome_2 (w_Row cI cB cZ cS cT qt qt_ones 0 t_ones ++ w_Twn cI cB cZ cS cT qb1 qb1_kind qb1_father qb1_comes qb1_wants qb1_cost qb1_coins qb1_debts b1_people b1_law b1_counters b1_kind b1_father b1_comes b1_wants b1_cost b1_coins b1_debts) rfl (fun H locs hP hD hS => ?_)
  refine lv_iload_n hx hb dX3_fillAsTheyCome_5 rfl (lv_at hl 2 rfl) ?_
  refine lv_istore_n (lv' := [(3, .int p2), (0, .ref qt), (1, .ref qb1), (2, .int p2)]) hx hb dX3_fillAsTheyCome_6 rfl hl (by decide) rfl (fun ls hl => ?_)
  refine lv_iconst (v := 0) hx hb dX3_fillAsTheyCome_7 (by decide) ?_
  refine lv_istore (lv' := [(4, .int 0), (3, .int p2), (0, .ref qt), (1, .ref qb1), (2, .int p2)]) hx hb dX3_fillAsTheyCome_8 hl (by decide) rfl (fun ls hl => ?_)
  have hL10 : ∀ (K29 : Int32 → (Nat → Int32) → (Nat → Int32) → (Nat → Int32) → Option (Int32 × (Nat → Int32) × (Nat → Int32) × (Nat → Int32))) (K56 : Int32 → (Nat → Int32) → (Nat → Int32) → (Nat → Int32) → Option (Int32 × (Nat → Int32) × (Nat → Int32) × (Nat → Int32))), (∀ (t_length_11 : Int32) (t_ones_12 b1_coins_13 b1_debts_14 : Nat → Int32), K29 t_length_11 t_ones_12 b1_coins_13 b1_debts_14 = some o → ∀ (H : Heap) (locs : List Loc), va_P D vwCl (w_Row cI cB cZ cS cT qt qt_ones t_length_11 t_ones_12 ++ w_Twn cI cB cZ cS cT qb1 qb1_kind qb1_father qb1_comes qb1_wants qb1_cost qb1_coins qb1_debts b1_people b1_law b1_counters b1_kind b1_father b1_comes b1_wants b1_cost b1_coins_13 b1_debts_14) H → va_D A (w_Row cI cB cZ cS cT qt qt_ones t_length_11 t_ones_12 ++ w_Twn cI cB cZ cS cT qb1 qb1_kind qb1_father qb1_comes qb1_wants qb1_cost qb1_coins qb1_debts b1_people b1_law b1_counters b1_kind b1_father b1_comes b1_wants b1_cost b1_coins_13 b1_debts_14) → va_S A s.heap H locs → ∀ ls : Array Slot, lv_has ls 6 [] → W p l e rmX3_fillAsTheyCome s m av below meth c H locs 0 0 Q (F0 m 29 ls [])) → (∀ (t_length_15 : Int32) (t_ones_16 b1_coins_17 b1_debts_18 : Nat → Int32), K56 t_length_15 t_ones_16 b1_coins_17 b1_debts_18 = some o → ∀ (H : Heap) (locs : List Loc), va_P D vwCl (w_Row cI cB cZ cS cT qt qt_ones t_length_15 t_ones_16 ++ w_Twn cI cB cZ cS cT qb1 qb1_kind qb1_father qb1_comes qb1_wants qb1_cost qb1_coins qb1_debts b1_people b1_law b1_counters b1_kind b1_father b1_comes b1_wants b1_cost b1_coins_17 b1_debts_18) H → va_D A (w_Row cI cB cZ cS cT qt qt_ones t_length_15 t_ones_16 ++ w_Twn cI cB cZ cS cT qb1 qb1_kind qb1_father qb1_comes qb1_wants qb1_cost qb1_coins qb1_debts b1_people b1_law b1_counters b1_kind b1_father b1_comes b1_wants b1_cost b1_coins_17 b1_debts_18) → va_S A s.heap H locs → ∀ ls : Array Slot, lv_has ls 6 [] → W p l e rmX3_fillAsTheyCome s m av below meth c H locs 0 0 Q (F0 m 56 ls [])) → ∀ (n : Nat) (x3_1 x4_2 t_length_3 : Int32) (t_ones_4 b1_coins_5 b1_debts_6 : Nat → Int32), Row_fillAsTheyCome_L10 b1_people b1_law b1_kind b1_father b1_comes K29 K56 n x3_1 x4_2 t_length_3 t_ones_4 b1_coins_5 b1_debts_6 = some o → ∀ (H : Heap) (locs : List Loc), va_P D vwCl (w_Row cI cB cZ cS cT qt qt_ones t_length_3 t_ones_4 ++ w_Twn cI cB cZ cS cT qb1 qb1_kind qb1_father qb1_comes qb1_wants qb1_cost qb1_coins qb1_debts b1_people b1_law b1_counters b1_kind b1_father b1_comes b1_wants b1_cost b1_coins_5 b1_debts_6) H → va_D A (w_Row cI cB cZ cS cT qt qt_ones t_length_3 t_ones_4 ++ w_Twn cI cB cZ cS cT qb1 qb1_kind qb1_father qb1_comes qb1_wants qb1_cost qb1_coins qb1_debts b1_people b1_law b1_counters b1_kind b1_father b1_comes b1_wants b1_cost b1_coins_5 b1_debts_6) → va_S A s.heap H locs → ∀ ls : Array Slot, lv_has ls 6 [(0, .ref qt), (1, .ref qb1), (3, .int x3_1), (4, .int x4_2)] → W p l e rmX3_fillAsTheyCome s m av below meth c H locs 0 0 Q (F0 m 10 ls []) := by
    intro K29 K56 hK29 hK56 n
    induction n with
    | zero =>
      intro x3_1 x4_2 t_length_3 t_ones_4 b1_coins_5 b1_debts_6 hM
      rw [Row_fillAsTheyCome_L10] at hM
      cases hM
    | succ n ih =>
      intro x3_1 x4_2 t_length_3 t_ones_4 b1_coins_5 b1_debts_6 hM H locs hP hD hS ls hl
      rw [Row_fillAsTheyCome_L10] at hM
      refine lv_iload hx hb dX3_fillAsTheyCome_10 (lv_at hl 3 rfl) ?_
      refine lv_bipush (v := 7) hx hb dX3_fillAsTheyCome_12 (by decide) ?_
      refine mr_icmp_ge (tgt := 56) hx hb hM dX3_fillAsTheyCome_14 (by decide) (fun hM => ?_) (fun hM => ?_)
      · exact hK56 t_length_3 t_ones_4 b1_coins_5 b1_debts_6 hM _ _ hP hD hS ls (lv_sub hl [] rfl)
      · refine lv_aload_n hx hb dX3_fillAsTheyCome_17 rfl (lv_at hl 1 rfl) ?_
        refine lv_iload_n hx hb dX3_fillAsTheyCome_18 rfl (lv_at hl 2 rfl) ?_
        obtain ⟨o_7, hc, hM⟩ := bind_so hM
        refine mr_callVi (As := [.int x3_1]) (rest := []) (wr := [(qt, .inr (3, [.ref qt_ones, .int t_length_3])), (qt_ones, .inl (cI, 7, .inl t_ones_4))]) ⟨hx, hb, hml, hown, hts⟩ (k_Twn_firstToCome l D cI cB cZ cS cT qb1 qb1_kind qb1_father qb1_comes qb1_wants qb1_cost qb1_coins qb1_debts b1_people b1_law b1_counters b1_kind b1_father b1_comes b1_wants b1_cost b1_coins_5 b1_debts_6 x3_1 _ hc) (cwV 1 hts gX3_fillAsTheyCome_X7_firstToCome rfl rfl rfl (by decide +kernel) ⟨Nat.le_of_ble_eq_true rfl, Nat.le_of_ble_eq_true rfl⟩) hK hP hD hS hA [2, 3, 4, 5, 6, 7, 8, 9] [0, 1] [0, 1, 2, 3, 4, 5, 6, 7, 8, 9] (w_Row cI cB cZ cS cT qt qt_ones t_length_3 t_ones_4 ++ w_Twn cI cB cZ cS cT qb1 qb1_kind qb1_father qb1_comes qb1_wants qb1_cost qb1_coins qb1_debts b1_people b1_law b1_counters b1_kind b1_father b1_comes b1_wants b1_cost b1_coins_5 b1_debts_6) rfl rfl rfl rfl (by decide) rfl rfl 7 0 rfl rfl rfl rfl hl.1 rfl (Nat.le_of_ble_eq_true rfl) dX3_fillAsTheyCome_19 ⟨Nat.zero_le _, Nat.zero_le _⟩ (fun H locs hP hD hS => ?_)
        refine lv_istore (lv' := [(5, .int o_7), (0, .ref qt), (1, .ref qb1), (3, .int x3_1), (4, .int x4_2)]) hx hb dX3_fillAsTheyCome_22 hl (by decide) rfl (fun ls hl => ?_)
        refine lv_iload hx hb dX3_fillAsTheyCome_24 (lv_at hl 0 rfl) ?_
        refine mr_if_ge (tgt := 32) hx hb hM dX3_fillAsTheyCome_26 (by decide) (fun hM => ?_) (fun hM => ?_)
        · refine lv_aload_n hx hb dX3_fillAsTheyCome_32 rfl (lv_at hl 1 rfl) ?_
          refine lv_aload_n hx hb dX3_fillAsTheyCome_33 rfl (lv_at hl 2 rfl) ?_
          refine lv_iload hx hb dX3_fillAsTheyCome_34 (lv_at hl 0 rfl) ?_
          refine lv_iconst (v := 0) hx hb dX3_fillAsTheyCome_36 (by decide) ?_
          obtain ⟨o_8, hc, hM⟩ := bind_so hM
          refine mr_callVi (As := [.ref qb1, .int o_7, .int 0]) (rest := []) (wr := []) ⟨hx, hb, hml, hown, hts⟩ (k_Row_letIn l D cI cB cZ cS cT qt qt_ones qb1 qb1_kind qb1_father qb1_comes qb1_wants qb1_cost qb1_coins qb1_debts t_length_3 t_ones_4 b1_people b1_law b1_counters b1_kind b1_father b1_comes b1_wants b1_cost b1_coins_5 b1_debts_6 o_7 0 _ hc) (cwV 3 hts gX3_fillAsTheyCome_X3_letIn rfl rfl rfl (by decide +kernel) ⟨Nat.le_of_ble_eq_true rfl, Nat.le_of_ble_eq_true rfl⟩) hK hP hD hS hA [0, 1, 2, 3, 4, 5, 6, 7, 8, 9] [] [0, 1, 2, 3, 4, 5, 6, 7, 8, 9] (w_Row cI cB cZ cS cT qt qt_ones o_8.2.1 o_8.2.2.1 ++ w_Twn cI cB cZ cS cT qb1 qb1_kind qb1_father qb1_comes qb1_wants qb1_cost qb1_coins qb1_debts b1_people b1_law b1_counters b1_kind b1_father b1_comes b1_wants b1_cost o_8.2.2.2.1 o_8.2.2.2.2) rfl rfl rfl rfl (by decide) rfl rfl 3 0 rfl rfl rfl rfl hl.1 rfl (Nat.le_of_ble_eq_true rfl) dX3_fillAsTheyCome_37 ⟨Nat.zero_le _, Nat.zero_le _⟩ (fun H locs hP hD hS => ?_)
          refine lv_pop hx hb dX3_fillAsTheyCome_40 rfl ?_
          refine lv_iload_n hx hb dX3_fillAsTheyCome_41 rfl (lv_at hl 3 rfl) ?_
          refine lv_iconst (v := 1) hx hb dX3_fillAsTheyCome_42 (by decide) ?_
          refine lv_iload hx hb dX3_fillAsTheyCome_43 (lv_at hl 0 rfl) ?_
          refine lv_ishl hx hb dX3_fillAsTheyCome_45 ?_
          refine lv_iconst (v := (-1)) hx hb dX3_fillAsTheyCome_46 (by decide) ?_
          refine lv_ixor hx hb dX3_fillAsTheyCome_47 ?_
          refine lv_iand hx hb dX3_fillAsTheyCome_48 ?_
          refine mr_nmI hM (fun x3_9 hM => ?_)
          refine lv_istore_n (lv' := [(3, .int x3_9), (5, .int o_7), (0, .ref qt), (1, .ref qb1), (4, .int x4_2)]) hx hb dX3_fillAsTheyCome_49 rfl hl (by decide) rfl (fun ls hl => ?_)
          refine mr_iinc (k := 4) (d := 1) hx hb (fun x4_10 => [(4, .int x4_10), (3, .int x3_9), (5, .int o_7), (0, .ref qt), (1, .ref qb1)]) hM (by decide) dX3_fillAsTheyCome_50 hl rfl (by decide) (fun _ => rfl) (fun x4_10 hM ls hl => ?_)
          refine lv_goto (tgt := 10) hx hb dX3_fillAsTheyCome_53 (by decide) ?_
          exact ih x3_9 x4_10 o_8.2.1 o_8.2.2.1 o_8.2.2.2.1 o_8.2.2.2.2 hM _ _ hP hD hS ls (lv_sub hl [3, 4, 1, 0] rfl)
        · exact hK29 t_length_3 t_ones_4 b1_coins_5 b1_debts_6 hM _ _ hP hD hS ls (lv_sub hl [] rfl)
  refine hL10 _ _ (fun t_length_11 t_ones_12 b1_coins_13 b1_debts_14 hM H locs hP hD hS ls hl => ?_) (fun t_length_15 t_ones_16 b1_coins_17 b1_debts_18 hM H locs hP hD hS ls hl => ?_) _ p2 0 0 t_ones b1_coins b1_debts hM _ _ hP hD hS ls (lv_sub hl [2, 3, 1, 0] rfl)
  · refine lv_goto (tgt := 56) hx hb dX3_fillAsTheyCome_29 (by decide) ?_
    have hM := Option.some.inj hM
    subst hM
    exact mr_vret hx hb hr hlocks hQ hP hD hS dX3_fillAsTheyCome_56
  · have hM := Option.some.inj hM
    subst hM
    exact mr_vret hx hb hr hlocks hQ hP hD hS dX3_fillAsTheyCome_56

abbrev rmX3_add : Room := { frames := 0, cells := 0, slots := 0, locals := 0 }
set_option maxHeartbeats 40000000 in
set_option maxRecDepth 100000 in
theorem k_Row_add (l : Launch) (D : va_G) (cI cB cZ cS cT : ClassId) (qt qt_ones : Nat) (t_length : Int32) (t_ones : Nat → Int32) (p1 : Int32) (o : Int32 × (Nat → Int32)) (hM : Row_add p1 t_length t_ones = some o) : mtV l yX3_add wsX3_add rmX3_add D (tys5 cI cB cZ cS cT) [.ref qt, .int p1] (w_Row cI cB cZ cS cT qt qt_ones t_length t_ones) (w_Row cI cB cZ cS cT qt qt_ones o.1 o.2) := by
  refine mtV.of (cc := cX3_add) (maxL := 2) (ret := none) (by decide) rfl (Nat.le_of_ble_eq_true rfl) ?_
  intro p e s m below meth c A Q av hav hQ hx hb hr hml hown hts hlocks hK hP hD hA hS ls hl
  have hown : s.vm.findClass RX3 = some m.cls := hown
  have hl : lv_has ls 2 [(0, .ref qt), (1, .int p1)] := hl
  unfold Row_add at hM
  have inX3w : ∀ w ∈ u_ws RX3 TX3 2, w ∈ wsX3_add := by decide +kernel
  have hf15 := hts (.fieldLink RX3 15 "LetsIn$Row" "length" "I") (by decide +kernel)
  have hf9 := hts (.fieldLink RX3 9 "LetsIn$Row" "ones" "[I") (by decide +kernel)
  refine lv_aload_n hx hb dX3_add_0 rfl (lv_at hl 0 rfl) ?_
  refine va_get (D := D) (ci := 3) (v := .int t_length) (C := RX3) (T := TX3) (N := 2) hx hb hts inX3w hown hK hP 0 rfl rfl 1 (by decide) hf15 (fun _ h9 => h9) rfl dX3_add_1 ?_
  refine lv_bipush (v := 7) hx hb dX3_add_4 (by decide) ?_
  refine mr_icmp_ge (tgt := 29) hx hb hM dX3_add_6 (by decide) (fun hM => ?_) (fun hM => ?_)
  · have hM := Option.some.inj hM
    subst hM
    exact mr_vret hx hb hr hlocks hQ hP hD hS dX3_add_29
  · refine lv_aload_n hx hb dX3_add_9 rfl (lv_at hl 0 rfl) ?_
    refine va_get (D := D) (ci := 3) (v := .ref qt_ones) (C := RX3) (T := TX3) (N := 2) hx hb hts inX3w hown hK hP 0 rfl rfl 0 (by decide) hf9 (fun _ h9 => h9) rfl dX3_add_10 ?_
    refine lv_aload_n hx hb dX3_add_13 rfl (lv_at hl 0 rfl) ?_
    refine va_get (D := D) (ci := 3) (v := .int t_length) (C := RX3) (T := TX3) (N := 2) hx hb hts inX3w hown hK hP 0 rfl rfl 1 (by decide) hf15 (fun _ h9 => h9) rfl dX3_add_14 ?_
    refine lv_iload_n hx hb dX3_add_17 rfl (lv_at hl 1 rfl) ?_
    refine mr_iast hx hb hK hP hD hS 1 0 (fun t_ones_1 => (w_Row cI cB cZ cS cT qt qt_ones t_length t_ones_1)) rfl rfl (fun _ => rfl) hM dX3_add_18 (fun t_ones_1 hM H locs hP hD hS => ?_)
    refine lv_aload_n hx hb dX3_add_19 rfl (lv_at hl 0 rfl) ?_
    refine lv_dup hx hb dX3_add_20 rfl ?_
    refine va_get (D := D) (ci := 3) (v := .int t_length) (C := RX3) (T := TX3) (N := 2) hx hb hts inX3w hown hK hP 0 rfl rfl 1 (by decide) hf15 (fun _ h9 => h9) rfl dX3_add_21 ?_
    refine lv_iconst (v := 1) hx hb dX3_add_24 (by decide) ?_
    refine lv_iadd hx hb dX3_add_25 ?_
    refine mr_nmI hM (fun t_length_2 hM => ?_)
    refine mr_put (D := D) (ci := 3) (v := .int t_length_2) (ty := .int) (C := RX3) (T := TX3) (N := 2) hx hb hts inX3w tyX3 tyX3_ok nmX3 hown hK hP hD hS 0 rfl rfl 1 (by decide) hf15 (fun _ h9 => h9) rfl (by decide +kernel) rfl rfl (Nat.le_of_ble_eq_true rfl) dX3_add_26 (w_Row cI cB cZ cS cT qt qt_ones t_length_2 t_ones_1) rfl (fun H locs hP hD hS => ?_)
    have hM := Option.some.inj hM
    subst hM
    exact mr_vret hx hb hr hlocks hQ hP hD hS dX3_add_29

abbrev rmX3_bits : Room := { frames := 0, cells := 0, slots := 0, locals := 0 }
set_option maxHeartbeats 40000000 in
set_option maxRecDepth 100000 in
theorem k_Row_bits (l : Launch) (D : va_G) (cI cB cZ cS cT : ClassId) (qt qt_ones : Nat) (t_length : Int32) (t_ones : Nat → Int32)  (o : Int32) (hM : Row_bits t_length t_ones = some o) : mtI l yX3_bits wsX3_bits rmX3_bits D (tys5 cI cB cZ cS cT) [.ref qt] (w_Row cI cB cZ cS cT qt qt_ones t_length t_ones) (w_Row cI cB cZ cS cT qt qt_ones t_length t_ones) o := by
  refine mtI.of (cc := cX3_bits) (maxL := 3) (ret := (some .int)) (by decide) rfl (Nat.le_of_ble_eq_true rfl) ?_
  intro p e s m below meth c A Q av hav hQ hx hb hr hml hown hts hlocks hK hP hD hA hS ls hl
  have hown : s.vm.findClass RX3 = some m.cls := hown
  have hl : lv_has ls 3 [(0, .ref qt)] := hl
  unfold Row_bits at hM
  have inX3w : ∀ w ∈ u_ws RX3 TX3 2, w ∈ wsX3_bits := by decide +kernel
  have hf15 := hts (.fieldLink RX3 15 "LetsIn$Row" "length" "I") (by decide +kernel)
  have hf9 := hts (.fieldLink RX3 9 "LetsIn$Row" "ones" "[I") (by decide +kernel)
  refine lv_iconst (v := 0) hx hb dX3_bits_0 (by decide) ?_
  refine lv_istore_n (lv' := [(1, .int 0), (0, .ref qt)]) hx hb dX3_bits_1 rfl hl (by decide) rfl (fun ls hl => ?_)
  refine lv_iconst (v := 0) hx hb dX3_bits_2 (by decide) ?_
  refine lv_istore_n (lv' := [(2, .int 0), (1, .int 0), (0, .ref qt)]) hx hb dX3_bits_3 rfl hl (by decide) rfl (fun ls hl => ?_)
  have hL4 : ∀ (K29 : Int32 → Option (Int32)), (∀ (x1_6 : Int32), K29 x1_6 = some o → ∀ (H : Heap) (locs : List Loc), va_P D vwCl (w_Row cI cB cZ cS cT qt qt_ones t_length t_ones) H → va_D A (w_Row cI cB cZ cS cT qt qt_ones t_length t_ones) → va_S A s.heap H locs → ∀ ls : Array Slot, lv_has ls 3 [(1, .int x1_6)] → W p l e rmX3_bits s m av below meth c H locs 0 0 Q (F0 m 29 ls [])) → ∀ (n : Nat) (x1_1 x2_2 : Int32), Row_bits_L4 t_length t_ones K29 n x1_1 x2_2 = some o → ∀ (H : Heap) (locs : List Loc), va_P D vwCl (w_Row cI cB cZ cS cT qt qt_ones t_length t_ones) H → va_D A (w_Row cI cB cZ cS cT qt qt_ones t_length t_ones) → va_S A s.heap H locs → ∀ ls : Array Slot, lv_has ls 3 [(0, .ref qt), (1, .int x1_1), (2, .int x2_2)] → W p l e rmX3_bits s m av below meth c H locs 0 0 Q (F0 m 4 ls []) := by
    intro K29 hK29 n
    induction n with
    | zero =>
      intro x1_1 x2_2 hM
      rw [Row_bits_L4] at hM
      cases hM
    | succ n ih =>
      intro x1_1 x2_2 hM H locs hP hD hS ls hl
      rw [Row_bits_L4] at hM
      refine lv_iload_n hx hb dX3_bits_4 rfl (lv_at hl 2 rfl) ?_
      refine lv_aload_n hx hb dX3_bits_5 rfl (lv_at hl 0 rfl) ?_
      refine va_get (D := D) (ci := 3) (v := .int t_length) (C := RX3) (T := TX3) (N := 2) hx hb hts inX3w hown hK hP 0 rfl rfl 1 (by decide) hf15 (fun _ h9 => h9) rfl dX3_bits_6 ?_
      refine mr_icmp_ge (tgt := 29) hx hb hM dX3_bits_9 (by decide) (fun hM => ?_) (fun hM => ?_)
      · exact hK29 x1_1 hM _ _ hP hD hS ls (lv_sub hl [1] rfl)
      · refine lv_iload_n hx hb dX3_bits_12 rfl (lv_at hl 1 rfl) ?_
        refine lv_iconst (v := 1) hx hb dX3_bits_13 (by decide) ?_
        refine lv_aload_n hx hb dX3_bits_14 rfl (lv_at hl 0 rfl) ?_
        refine va_get (D := D) (ci := 3) (v := .ref qt_ones) (C := RX3) (T := TX3) (N := 2) hx hb hts inX3w hown hK hP 0 rfl rfl 0 (by decide) hf9 (fun _ h9 => h9) rfl dX3_bits_15 ?_
        refine lv_iload_n hx hb dX3_bits_18 rfl (lv_at hl 2 rfl) ?_
        refine mr_iald hx hb hK hP 1 0 rfl rfl hM dX3_bits_19 (fun v_3 hM => ?_)
        refine lv_ishl hx hb dX3_bits_20 ?_
        refine lv_ior hx hb dX3_bits_21 ?_
        refine mr_nmI hM (fun x1_4 hM => ?_)
        refine lv_istore_n (lv' := [(1, .int x1_4), (0, .ref qt), (2, .int x2_2)]) hx hb dX3_bits_22 rfl hl (by decide) rfl (fun ls hl => ?_)
        refine mr_iinc (k := 2) (d := 1) hx hb (fun x2_5 => [(2, .int x2_5), (1, .int x1_4), (0, .ref qt)]) hM (by decide) dX3_bits_23 hl rfl (by decide) (fun _ => rfl) (fun x2_5 hM ls hl => ?_)
        refine lv_goto (tgt := 4) hx hb dX3_bits_26 (by decide) ?_
        exact ih x1_4 x2_5 hM _ _ hP hD hS ls (lv_sub hl [2, 1, 0] rfl)
  refine hL4 _ (fun x1_6 hM H locs hP hD hS ls hl => ?_) _ 0 0 hM _ _ hP hD hS ls (lv_sub hl [2, 1, 0] rfl)
  refine lv_iload_n hx hb dX3_bits_29 rfl (lv_at hl 0 rfl) ?_
  have hM := Option.some.inj hM
  subst hM
  exact mr_iret hx hb hr hlocks hQ hP hD hS rfl dX3_bits_30
