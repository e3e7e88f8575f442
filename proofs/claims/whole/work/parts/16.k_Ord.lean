abbrev rmX1_ask : Room := { frames := 2, cells := 0, slots := 0, locals := 46 }
set_option maxHeartbeats 40000000 in
set_option maxRecDepth 100000 in
theorem k_Ord_ask (l : Launch) (D : va_G) (cI cB cZ cS cT : ClassId) (qt qt_lets qt_ways qt_restCost qt_found qt_found_ones qb1 qb1_kind qb1_father qb1_comes qb1_wants qb1_cost qb1_coins qb1_debts : Nat) (t_people : Int32) (t_lets t_ways t_restCost : Nat → Int32) (t_found_length : Int32) (t_found_ones : Nat → Int32) (b1_people b1_law b1_counters : Int32) (b1_kind b1_father b1_comes b1_wants b1_cost b1_coins b1_debts : Nat → Int32)  (o : Int32 × (Nat → Int32)) (hM : Ord_ask t_lets b1_people b1_law b1_kind b1_father b1_debts = some o) : mtV l yX1_ask wsX1_ask rmX1_ask D (tys5 cI cB cZ cS cT) [.ref qt, .ref qb1] (w_Ord cI cB cZ cS cT qt qt_lets qt_ways qt_restCost qt_found qt_found_ones t_people t_lets t_ways t_restCost t_found_length t_found_ones ++ w_Twn cI cB cZ cS cT qb1 qb1_kind qb1_father qb1_comes qb1_wants qb1_cost qb1_coins qb1_debts b1_people b1_law b1_counters b1_kind b1_father b1_comes b1_wants b1_cost b1_coins b1_debts) (w_Ord cI cB cZ cS cT qt qt_lets qt_ways qt_restCost qt_found qt_found_ones o.1 o.2 t_ways t_restCost t_found_length t_found_ones ++ w_Twn cI cB cZ cS cT qb1 qb1_kind qb1_father qb1_comes qb1_wants qb1_cost qb1_coins qb1_debts b1_people b1_law b1_counters b1_kind b1_father b1_comes b1_wants b1_cost b1_coins b1_debts) := by
  refine mtV.of (cc := cX1_ask) (maxL := 4) (ret := none) (by decide) rfl (Nat.le_of_ble_eq_true rfl) ?_
  intro p e s m below meth c A Q av hav hQ hx hb hr hml hown hts hlocks hK hP hD hA hS ls hl
  have hown : s.vm.findClass RX1 = some m.cls := hown
  have hl : lv_has ls 4 [(0, .ref qt), (1, .ref qb1)] := hl
  unfold Ord_ask at hM
  have inX1w : ∀ w ∈ u_ws RX1 TX1 5, w ∈ wsX1_ask := by decide +kernel
  have inX7w : ∀ w ∈ u_ws RX7 TX7 10, w ∈ wsX1_ask := by decide +kernel
  have hf28 := hts (.fieldLink RX1 28 "LetsIn$Town" "people" "I") (by decide +kernel)
  have hf34 := hts (.fieldLink RX1 34 "LetsIn$Orders" "people" "I") (by decide +kernel)
  have hf9 := hts (.fieldLink RX1 9 "LetsIn$Orders" "lets" "[I") (by decide +kernel)
  refine lv_aload_n hx hb dX1_ask_0 rfl (lv_at hl 0 rfl) ?_
  refine lv_aload_n hx hb dX1_ask_1 rfl (lv_at hl 1 rfl) ?_
  refine va_get (D := D) (ci := 7) (v := .int b1_people) (C := RX7) (T := TX7) (N := 10) hx hb hts inX7w hown hK hP 6 rfl rfl 0 (by decide) hf28 (fun _ h9 => h9) rfl dX1_ask_2 ?_
  refine mr_put (D := D) (ci := 1) (v := .int b1_people) (ty := .int) (C := RX1) (T := TX1) (N := 5) hx hb hts inX1w tyX1 tyX1_ok nmX1 hown hK hP hD hS 0 rfl rfl 0 (by decide) hf34 (fun _ h9 => h9) rfl (by decide +kernel) rfl rfl (Nat.le_of_ble_eq_true rfl) dX1_ask_5 (w_Ord cI cB cZ cS cT qt qt_lets qt_ways qt_restCost qt_found qt_found_ones b1_people t_lets t_ways t_restCost t_found_length t_found_ones ++ w_Twn cI cB cZ cS cT qb1 qb1_kind qb1_father qb1_comes qb1_wants qb1_cost qb1_coins qb1_debts b1_people b1_law b1_counters b1_kind b1_father b1_comes b1_wants b1_cost b1_coins b1_debts) rfl (fun H locs hP hD hS => ?_)
  refine lv_iconst (v := 0) hx hb dX1_ask_8 (by decide) ?_
  refine lv_istore_n (lv' := [(2, .int 0), (0, .ref qt), (1, .ref qb1)]) hx hb dX1_ask_9 rfl hl (by decide) rfl (fun ls hl => ?_)
  have hL10 : ∀ (K73 : (Nat → Int32) → Option (Int32 × (Nat → Int32))), (∀ (t_lets_14 : Nat → Int32), K73 t_lets_14 = some o → ∀ (H : Heap) (locs : List Loc), va_P D vwCl (w_Ord cI cB cZ cS cT qt qt_lets qt_ways qt_restCost qt_found qt_found_ones b1_people t_lets_14 t_ways t_restCost t_found_length t_found_ones ++ w_Twn cI cB cZ cS cT qb1 qb1_kind qb1_father qb1_comes qb1_wants qb1_cost qb1_coins qb1_debts b1_people b1_law b1_counters b1_kind b1_father b1_comes b1_wants b1_cost b1_coins b1_debts) H → va_D A (w_Ord cI cB cZ cS cT qt qt_lets qt_ways qt_restCost qt_found qt_found_ones b1_people t_lets_14 t_ways t_restCost t_found_length t_found_ones ++ w_Twn cI cB cZ cS cT qb1 qb1_kind qb1_father qb1_comes qb1_wants qb1_cost qb1_coins qb1_debts b1_people b1_law b1_counters b1_kind b1_father b1_comes b1_wants b1_cost b1_coins b1_debts) → va_S A s.heap H locs → ∀ ls : Array Slot, lv_has ls 4 [] → W p l e rmX1_ask s m av below meth c H locs 0 0 Q (F0 m 73 ls [])) → ∀ (n : Nat) (x2_1 : Int32) (t_lets_2 : Nat → Int32), Ord_ask_L10 b1_people b1_law b1_kind b1_father b1_debts K73 n x2_1 t_lets_2 = some o → ∀ (H : Heap) (locs : List Loc), va_P D vwCl (w_Ord cI cB cZ cS cT qt qt_lets qt_ways qt_restCost qt_found qt_found_ones b1_people t_lets_2 t_ways t_restCost t_found_length t_found_ones ++ w_Twn cI cB cZ cS cT qb1 qb1_kind qb1_father qb1_comes qb1_wants qb1_cost qb1_coins qb1_debts b1_people b1_law b1_counters b1_kind b1_father b1_comes b1_wants b1_cost b1_coins b1_debts) H → va_D A (w_Ord cI cB cZ cS cT qt qt_lets qt_ways qt_restCost qt_found qt_found_ones b1_people t_lets_2 t_ways t_restCost t_found_length t_found_ones ++ w_Twn cI cB cZ cS cT qb1 qb1_kind qb1_father qb1_comes qb1_wants qb1_cost qb1_coins qb1_debts b1_people b1_law b1_counters b1_kind b1_father b1_comes b1_wants b1_cost b1_coins b1_debts) → va_S A s.heap H locs → ∀ ls : Array Slot, lv_has ls 4 [(0, .ref qt), (1, .ref qb1), (2, .int x2_1)] → W p l e rmX1_ask s m av below meth c H locs 0 0 Q (F0 m 10 ls []) := by
    intro K73 hK73 n
    induction n with
    | zero =>
      intro x2_1 t_lets_2 hM
      rw [Ord_ask_L10] at hM
      cases hM
    | succ n ih =>
      intro x2_1 t_lets_2 hM H locs hP hD hS ls hl
      rw [Ord_ask_L10] at hM
      refine lv_iload_n hx hb dX1_ask_10 rfl (lv_at hl 2 rfl) ?_
      refine lv_aload_n hx hb dX1_ask_11 rfl (lv_at hl 0 rfl) ?_
      refine va_get (D := D) (ci := 1) (v := .int b1_people) (C := RX1) (T := TX1) (N := 5) hx hb hts inX1w hown hK hP 0 rfl rfl 0 (by decide) hf34 (fun _ h9 => h9) rfl dX1_ask_12 ?_
      refine mr_icmp_ge (tgt := 73) hx hb hM dX1_ask_15 (by decide) (fun hM => ?_) (fun hM => ?_)
      · exact hK73 t_lets_2 hM _ _ hP hD hS ls (lv_sub hl [] rfl)
      · refine lv_aload_n hx hb dX1_ask_18 rfl (lv_at hl 0 rfl) ?_
        refine va_get (D := D) (ci := 1) (v := .ref qt_lets) (C := RX1) (T := TX1) (N := 5) hx hb hts inX1w hown hK hP 0 rfl rfl 1 (by decide) hf9 (fun _ h9 => h9) rfl dX1_ask_19 ?_
        refine lv_iload_n hx hb dX1_ask_22 rfl (lv_at hl 2 rfl) ?_
        refine lv_iconst (v := 0) hx hb dX1_ask_23 (by decide) ?_
        refine mr_iast hx hb hK hP hD hS 1 0 (fun t_lets_3 => (w_Ord cI cB cZ cS cT qt qt_lets qt_ways qt_restCost qt_found qt_found_ones b1_people t_lets_3 t_ways t_restCost t_found_length t_found_ones ++ w_Twn cI cB cZ cS cT qb1 qb1_kind qb1_father qb1_comes qb1_wants qb1_cost qb1_coins qb1_debts b1_people b1_law b1_counters b1_kind b1_father b1_comes b1_wants b1_cost b1_coins b1_debts)) rfl rfl (fun _ => rfl) hM dX1_ask_24 (fun t_lets_3 hM H locs hP hD hS => ?_)
        refine lv_iconst (v := 0) hx hb dX1_ask_25 (by decide) ?_
        refine lv_istore_n (lv' := [(3, .int 0), (0, .ref qt), (1, .ref qb1), (2, .int x2_1)]) hx hb dX1_ask_26 rfl hl (by decide) rfl (fun ls hl => ?_)
        have hL27 : ∀ (K67 : (Nat → Int32) → Option (Int32 × (Nat → Int32))), (∀ (t_lets_12 : Nat → Int32), K67 t_lets_12 = some o → ∀ (H : Heap) (locs : List Loc), va_P D vwCl (w_Ord cI cB cZ cS cT qt qt_lets qt_ways qt_restCost qt_found qt_found_ones b1_people t_lets_12 t_ways t_restCost t_found_length t_found_ones ++ w_Twn cI cB cZ cS cT qb1 qb1_kind qb1_father qb1_comes qb1_wants qb1_cost qb1_coins qb1_debts b1_people b1_law b1_counters b1_kind b1_father b1_comes b1_wants b1_cost b1_coins b1_debts) H → va_D A (w_Ord cI cB cZ cS cT qt qt_lets qt_ways qt_restCost qt_found qt_found_ones b1_people t_lets_12 t_ways t_restCost t_found_length t_found_ones ++ w_Twn cI cB cZ cS cT qb1 qb1_kind qb1_father qb1_comes qb1_wants qb1_cost qb1_coins qb1_debts b1_people b1_law b1_counters b1_kind b1_father b1_comes b1_wants b1_cost b1_coins b1_debts) → va_S A s.heap H locs → ∀ ls : Array Slot, lv_has ls 4 [(0, .ref qt), (1, .ref qb1), (2, .int x2_1)] → W p l e rmX1_ask s m av below meth c H locs 0 0 Q (F0 m 67 ls [])) → ∀ (n : Nat) (x3_4 : Int32) (t_lets_5 : Nat → Int32), Ord_ask_L27 b1_people b1_law b1_kind b1_father b1_debts x2_1 K67 n x3_4 t_lets_5 = some o → ∀ (H : Heap) (locs : List Loc), va_P D vwCl (w_Ord cI cB cZ cS cT qt qt_lets qt_ways qt_restCost qt_found qt_found_ones b1_people t_lets_5 t_ways t_restCost t_found_length t_found_ones ++ w_Twn cI cB cZ cS cT qb1 qb1_kind qb1_father qb1_comes qb1_wants qb1_cost qb1_coins qb1_debts b1_people b1_law b1_counters b1_kind b1_father b1_comes b1_wants b1_cost b1_coins b1_debts) H → va_D A (w_Ord cI cB cZ cS cT qt qt_lets qt_ways qt_restCost qt_found qt_found_ones b1_people t_lets_5 t_ways t_restCost t_found_length t_found_ones ++ w_Twn cI cB cZ cS cT qb1 qb1_kind qb1_father qb1_comes qb1_wants qb1_cost qb1_coins qb1_debts b1_people b1_law b1_counters b1_kind b1_father b1_comes b1_wants b1_cost b1_coins b1_debts) → va_S A s.heap H locs → ∀ ls : Array Slot, lv_has ls 4 [(0, .ref qt), (1, .ref qb1), (2, .int x2_1), (3, .int x3_4)] → W p l e rmX1_ask s m av below meth c H locs 0 0 Q (F0 m 27 ls []) := by
          intro K67 hK67 n
          induction n with
          | zero =>
            intro x3_4 t_lets_5 hM
            rw [Ord_ask_L27] at hM
            cases hM
          | succ n ih =>
            intro x3_4 t_lets_5 hM H locs hP hD hS ls hl
            rw [Ord_ask_L27] at hM
            refine lv_iload_n hx hb dX1_ask_27 rfl (lv_at hl 3 rfl) ?_
            refine lv_aload_n hx hb dX1_ask_28 rfl (lv_at hl 0 rfl) ?_
            refine va_get (D := D) (ci := 1) (v := .int b1_people) (C := RX1) (T := TX1) (N := 5) hx hb hts inX1w hown hK hP 0 rfl rfl 0 (by decide) hf34 (fun _ h9 => h9) rfl dX1_ask_29 ?_
            refine mr_icmp_ge (tgt := 67) hx hb hM dX1_ask_32 (by decide) (fun hM => ?_) (fun hM => ?_)
            · exact hK67 t_lets_5 hM _ _ hP hD hS ls (lv_sub hl [0, 1, 2] rfl)
            · refine lv_iload_n hx hb dX1_ask_35 rfl (lv_at hl 2 rfl) ?_
              refine lv_iload_n hx hb dX1_ask_36 rfl (lv_at hl 3 rfl) ?_
              refine mr_icmp_eq (tgt := 61) hx hb hM dX1_ask_37 (by decide) (fun hM => ?_) (fun hM => ?_)
              · refine mr_iinc (k := 3) (d := 1) hx hb (fun x3_6 => [(3, .int x3_6), (0, .ref qt), (1, .ref qb1), (2, .int x2_1)]) hM (by decide) dX1_ask_61 hl rfl (by decide) (fun _ => rfl) (fun x3_6 hM ls hl => ?_)
                refine lv_goto (tgt := 27) hx hb dX1_ask_64 (by decide) ?_
                exact ih x3_6 t_lets_5 hM _ _ hP hD hS ls (lv_sub hl [1, 2, 3, 0] rfl)
              · refine lv_aload_n hx hb dX1_ask_40 rfl (lv_at hl 1 rfl) ?_
                refine lv_iload_n hx hb dX1_ask_41 rfl (lv_at hl 2 rfl) ?_
                refine lv_iload_n hx hb dX1_ask_42 rfl (lv_at hl 3 rfl) ?_
                obtain ⟨o_7, hc, hM⟩ := bind_so hM
                refine mr_callVi (As := [.int x2_1, .int x3_4]) (rest := []) (wr := [(qt, .inr (1, [.int b1_people, .ref qt_lets, .ref qt_ways, .ref qt_restCost, .ref qt_found])), (qt_lets, .inl (cI, 7, .inl t_lets_5)), (qt_ways, .inl (cI, 128, .inl t_ways)), (qt_restCost, .inl (cI, 128, .inl t_restCost)), (qt_found, .inr (3, [.ref qt_found_ones, .int t_found_length])), (qt_found_ones, .inl (cI, 7, .inl t_found_ones))]) ⟨hx, hb, hml, hown, hts⟩ (k_Twn_mustLet l D cI cB cZ cS cT qb1 qb1_kind qb1_father qb1_comes qb1_wants qb1_cost qb1_coins qb1_debts b1_people b1_law b1_counters b1_kind b1_father b1_comes b1_wants b1_cost b1_coins b1_debts x2_1 x3_4 _ hc) (cwV 2 hts gX1_ask_X7_mustLet rfl rfl rfl (by decide +kernel) ⟨Nat.le_of_ble_eq_true rfl, Nat.le_of_ble_eq_true rfl⟩) hK hP hD hS hA [6, 7, 8, 9, 10, 11, 12, 13] [0, 1, 2, 3, 4, 5] [0, 1, 2, 3, 4, 5, 6, 7, 8, 9, 10, 11, 12, 13] (w_Ord cI cB cZ cS cT qt qt_lets qt_ways qt_restCost qt_found qt_found_ones b1_people t_lets_5 t_ways t_restCost t_found_length t_found_ones ++ w_Twn cI cB cZ cS cT qb1 qb1_kind qb1_father qb1_comes qb1_wants qb1_cost qb1_coins qb1_debts b1_people b1_law b1_counters b1_kind b1_father b1_comes b1_wants b1_cost b1_coins b1_debts) rfl rfl rfl rfl (by decide) rfl rfl 7 0 rfl rfl rfl rfl hl.1 rfl (Nat.le_of_ble_eq_true rfl) dX1_ask_43 ⟨Nat.zero_le _, Nat.zero_le _⟩ (fun H locs hP hD hS => ?_)
                refine mr_if_eq (tgt := 61) hx hb hM dX1_ask_46 (by decide) (fun hM => ?_) (fun hM => ?_)
                · refine mr_iinc (k := 3) (d := 1) hx hb (fun x3_8 => [(3, .int x3_8), (0, .ref qt), (1, .ref qb1), (2, .int x2_1)]) hM (by decide) dX1_ask_61 hl rfl (by decide) (fun _ => rfl) (fun x3_8 hM ls hl => ?_)
                  refine lv_goto (tgt := 27) hx hb dX1_ask_64 (by decide) ?_
                  exact ih x3_8 t_lets_5 hM _ _ hP hD hS ls (lv_sub hl [1, 2, 3, 0] rfl)
                · refine lv_aload_n hx hb dX1_ask_49 rfl (lv_at hl 0 rfl) ?_
                  refine va_get (D := D) (ci := 1) (v := .ref qt_lets) (C := RX1) (T := TX1) (N := 5) hx hb hts inX1w hown hK hP 0 rfl rfl 1 (by decide) hf9 (fun _ h9 => h9) rfl dX1_ask_50 ?_
                  refine lv_iload_n hx hb dX1_ask_53 rfl (lv_at hl 2 rfl) ?_
                  refine lv_dup2_11 hx hb dX1_ask_54 rfl rfl ?_
                  refine mr_iald hx hb hK hP 1 0 rfl rfl hM dX1_ask_55 (fun v_9 hM => ?_)
                  refine lv_iconst (v := 1) hx hb dX1_ask_56 (by decide) ?_
                  refine lv_iload_n hx hb dX1_ask_57 rfl (lv_at hl 3 rfl) ?_
                  refine lv_ishl hx hb dX1_ask_58 ?_
                  refine lv_ior hx hb dX1_ask_59 ?_
                  refine mr_iast hx hb hK hP hD hS 1 0 (fun t_lets_10 => (w_Ord cI cB cZ cS cT qt qt_lets qt_ways qt_restCost qt_found qt_found_ones b1_people t_lets_10 t_ways t_restCost t_found_length t_found_ones ++ w_Twn cI cB cZ cS cT qb1 qb1_kind qb1_father qb1_comes qb1_wants qb1_cost qb1_coins qb1_debts b1_people b1_law b1_counters b1_kind b1_father b1_comes b1_wants b1_cost b1_coins b1_debts)) rfl rfl (fun _ => rfl) hM dX1_ask_60 (fun t_lets_10 hM H locs hP hD hS => ?_)
                  refine mr_iinc (k := 3) (d := 1) hx hb (fun x3_11 => [(3, .int x3_11), (0, .ref qt), (1, .ref qb1), (2, .int x2_1)]) hM (by decide) dX1_ask_61 hl rfl (by decide) (fun _ => rfl) (fun x3_11 hM ls hl => ?_)
                  refine lv_goto (tgt := 27) hx hb dX1_ask_64 (by decide) ?_
                  exact ih x3_11 t_lets_10 hM _ _ hP hD hS ls (lv_sub hl [1, 2, 3, 0] rfl)
        refine hL27 _ (fun t_lets_12 hM H locs hP hD hS ls hl => ?_) _ 0 t_lets_3 hM _ _ hP hD hS ls (lv_sub hl [1, 2, 3, 0] rfl)
        refine mr_iinc (k := 2) (d := 1) hx hb (fun x2_13 => [(2, .int x2_13), (0, .ref qt), (1, .ref qb1)]) hM (by decide) dX1_ask_67 hl rfl (by decide) (fun _ => rfl) (fun x2_13 hM ls hl => ?_)
        refine lv_goto (tgt := 10) hx hb dX1_ask_70 (by decide) ?_
        exact ih x2_13 t_lets_12 hM _ _ hP hD hS ls (lv_sub hl [1, 2, 0] rfl)
  refine hL10 _ (fun t_lets_14 hM H locs hP hD hS ls hl => ?_) _ 0 t_lets hM _ _ hP hD hS ls (lv_sub hl [1, 2, 0] rfl)
  have hM := Option.some.inj hM
  subst hM
  exact mr_vret hx hb hr hlocks hQ hP hD hS dX1_ask_73

abbrev rmX1_canFollow : Room := { frames := 0, cells := 0, slots := 0, locals := 0 }
set_option maxHeartbeats 40000000 in
set_option maxRecDepth 100000 in
theorem k_Ord_canFollow (l : Launch) (D : va_G) (cI cB cZ cS cT : ClassId) (qt qt_lets qt_ways qt_restCost qt_found qt_found_ones : Nat) (t_people : Int32) (t_lets t_ways t_restCost : Nat → Int32) (t_found_length : Int32) (t_found_ones : Nat → Int32) (p1 p2 : Int32) (o : Int32) (hM : Ord_canFollow p1 p2 t_lets = some o) : mtI l yX1_canFollow wsX1_canFollow rmX1_canFollow D (tys5 cI cB cZ cS cT) [.ref qt, .int p1, .int p2] (w_Ord cI cB cZ cS cT qt qt_lets qt_ways qt_restCost qt_found qt_found_ones t_people t_lets t_ways t_restCost t_found_length t_found_ones) (w_Ord cI cB cZ cS cT qt qt_lets qt_ways qt_restCost qt_found qt_found_ones t_people t_lets t_ways t_restCost t_found_length t_found_ones) o := by
  refine mtI.of (cc := cX1_canFollow) (maxL := 3) (ret := (some .boolean)) (by decide) rfl (Nat.le_of_ble_eq_true rfl) ?_
  intro p e s m below meth c A Q av hav hQ hx hb hr hml hown hts hlocks hK hP hD hA hS ls hl
  have hown : s.vm.findClass RX1 = some m.cls := hown
  have hl : lv_has ls 3 [(0, .ref qt), (1, .int p1), (2, .int p2)] := hl
  unfold Ord_canFollow at hM
  have inX1w : ∀ w ∈ u_ws RX1 TX1 5, w ∈ wsX1_canFollow := by decide +kernel
  have hf9 := hts (.fieldLink RX1 9 "LetsIn$Orders" "lets" "[I") (by decide +kernel)
  refine lv_iload_n hx hb dX1_canFollow_0 rfl (lv_at hl 2 rfl) ?_
  refine lv_iload_n hx hb dX1_canFollow_1 rfl (lv_at hl 1 rfl) ?_
  refine lv_ishr hx hb dX1_canFollow_2 ?_
  refine lv_iconst (v := 1) hx hb dX1_canFollow_3 (by decide) ?_
  refine lv_iand hx hb dX1_canFollow_4 ?_
  refine mr_if_ne (tgt := 25) hx hb hM dX1_canFollow_5 (by decide) (fun hM => ?_) (fun hM => ?_)
  · refine lv_iconst (v := 0) hx hb dX1_canFollow_25 (by decide) ?_
    have hM := Option.some.inj hM
    subst hM
    exact mr_zret hx hb hr (by decide) hlocks hQ hP hD hS rfl dX1_canFollow_26
  · refine lv_aload_n hx hb dX1_canFollow_8 rfl (lv_at hl 0 rfl) ?_
    refine va_get (D := D) (ci := 1) (v := .ref qt_lets) (C := RX1) (T := TX1) (N := 5) hx hb hts inX1w hown hK hP 0 rfl rfl 1 (by decide) hf9 (fun _ h9 => h9) rfl dX1_canFollow_9 ?_
    refine lv_iload_n hx hb dX1_canFollow_12 rfl (lv_at hl 1 rfl) ?_
    refine mr_iald hx hb hK hP 1 0 rfl rfl hM dX1_canFollow_13 (fun v_1 hM => ?_)
    refine lv_iload_n hx hb dX1_canFollow_14 rfl (lv_at hl 2 rfl) ?_
    refine lv_iconst (v := (-1)) hx hb dX1_canFollow_15 (by decide) ?_
    refine lv_ixor hx hb dX1_canFollow_16 ?_
    refine lv_iand hx hb dX1_canFollow_17 ?_
    refine mr_if_ne (tgt := 25) hx hb hM dX1_canFollow_18 (by decide) (fun hM => ?_) (fun hM => ?_)
    · refine lv_iconst (v := 0) hx hb dX1_canFollow_25 (by decide) ?_
      have hM := Option.some.inj hM
      subst hM
      exact mr_zret hx hb hr (by decide) hlocks hQ hP hD hS rfl dX1_canFollow_26
    · refine lv_iconst (v := 1) hx hb dX1_canFollow_21 (by decide) ?_
      refine lv_goto (tgt := 26) hx hb dX1_canFollow_22 (by decide) ?_
      have hM := Option.some.inj hM
      subst hM
      exact mr_zret hx hb hr (by decide) hlocks hQ hP hD hS rfl dX1_canFollow_26

abbrev rmX1_number : Room := { frames := 1, cells := 0, slots := 0, locals := 22 }
set_option maxHeartbeats 40000000 in
set_option maxRecDepth 100000 in
theorem k_Ord_number (l : Launch) (D : va_G) (cI cB cZ cS cT : ClassId) (qt qt_lets qt_ways qt_restCost qt_found qt_found_ones : Nat) (t_people : Int32) (t_lets t_ways t_restCost : Nat → Int32) (t_found_length : Int32) (t_found_ones : Nat → Int32)  (o : Int32 × (Nat → Int32)) (hM : Ord_number t_people t_lets t_ways = some o) : mtI l yX1_number wsX1_number rmX1_number D (tys5 cI cB cZ cS cT) [.ref qt] (w_Ord cI cB cZ cS cT qt qt_lets qt_ways qt_restCost qt_found qt_found_ones t_people t_lets t_ways t_restCost t_found_length t_found_ones) (w_Ord cI cB cZ cS cT qt qt_lets qt_ways qt_restCost qt_found qt_found_ones t_people t_lets o.2 t_restCost t_found_length t_found_ones) o.1 := by
  refine mtI.of (cc := cX1_number) (maxL := 4) (ret := (some .int)) (by decide) rfl (Nat.le_of_ble_eq_true rfl) ?_
  intro p e s m below meth c A Q av hav hQ hx hb hr hml hown hts hlocks hK hP hD hA hS ls hl
  have hown : s.vm.findClass RX1 = some m.cls := hown
  have hl : lv_has ls 4 [(0, .ref qt)] := hl
  unfold Ord_number at hM
  have inX1w : ∀ w ∈ u_ws RX1 TX1 5, w ∈ wsX1_number := by decide +kernel
  have hf34 := hts (.fieldLink RX1 34 "LetsIn$Orders" "people" "I") (by decide +kernel)
  have hf15 := hts (.fieldLink RX1 15 "LetsIn$Orders" "ways" "[I") (by decide +kernel)
  refine lv_iconst (v := 1) hx hb dX1_number_0 (by decide) ?_
  refine lv_aload_n hx hb dX1_number_1 rfl (lv_at hl 0 rfl) ?_
  refine va_get (D := D) (ci := 1) (v := .int t_people) (C := RX1) (T := TX1) (N := 5) hx hb hts inX1w hown hK hP 0 rfl rfl 0 (by decide) hf34 (fun _ h9 => h9) rfl dX1_number_2 ?_
  refine lv_ishl hx hb dX1_number_5 ?_
  refine lv_iconst (v := 1) hx hb dX1_number_6 (by decide) ?_
  refine lv_isub hx hb dX1_number_7 ?_
  refine mr_nmI hM (fun x1_1 hM => ?_)
  refine lv_istore_n (lv' := [(1, .int x1_1), (0, .ref qt)]) hx hb dX1_number_8 rfl hl (by decide) rfl (fun ls hl => ?_)
  refine lv_iconst (v := 0) hx hb dX1_number_9 (by decide) ?_
  refine lv_istore_n (lv' := [(2, .int 0), (1, .int x1_1), (0, .ref qt)]) hx hb dX1_number_10 rfl hl (by decide) rfl (fun ls hl => ?_)
  have hL11 : ∀ (K29 : (Nat → Int32) → Option (Int32 × (Nat → Int32))), (∀ (t_ways_6 : Nat → Int32), K29 t_ways_6 = some o → ∀ (H : Heap) (locs : List Loc), va_P D vwCl (w_Ord cI cB cZ cS cT qt qt_lets qt_ways qt_restCost qt_found qt_found_ones t_people t_lets t_ways_6 t_restCost t_found_length t_found_ones) H → va_D A (w_Ord cI cB cZ cS cT qt qt_lets qt_ways qt_restCost qt_found qt_found_ones t_people t_lets t_ways_6 t_restCost t_found_length t_found_ones) → va_S A s.heap H locs → ∀ ls : Array Slot, lv_has ls 4 [(0, .ref qt), (1, .int x1_1)] → W p l e rmX1_number s m av below meth c H locs 0 0 Q (F0 m 29 ls [])) → ∀ (n : Nat) (x2_2 : Int32) (t_ways_3 : Nat → Int32), Ord_number_L11 x1_1 K29 n x2_2 t_ways_3 = some o → ∀ (H : Heap) (locs : List Loc), va_P D vwCl (w_Ord cI cB cZ cS cT qt qt_lets qt_ways qt_restCost qt_found qt_found_ones t_people t_lets t_ways_3 t_restCost t_found_length t_found_ones) H → va_D A (w_Ord cI cB cZ cS cT qt qt_lets qt_ways qt_restCost qt_found qt_found_ones t_people t_lets t_ways_3 t_restCost t_found_length t_found_ones) → va_S A s.heap H locs → ∀ ls : Array Slot, lv_has ls 4 [(0, .ref qt), (1, .int x1_1), (2, .int x2_2)] → W p l e rmX1_number s m av below meth c H locs 0 0 Q (F0 m 11 ls []) := by
    intro K29 hK29 n
    induction n with
    | zero =>
      intro x2_2 t_ways_3 hM
      rw [Ord_number_L11] at hM
      cases hM
    | succ n ih =>
      intro x2_2 t_ways_3 hM H locs hP hD hS ls hl
      rw [Ord_number_L11] at hM
      refine lv_iload_n hx hb dX1_number_11 rfl (lv_at hl 2 rfl) ?_
      refine lv_iload_n hx hb dX1_number_12 rfl (lv_at hl 1 rfl) ?_
      refine mr_icmp_gt (tgt := 29) hx hb hM dX1_number_13 (by decide) (fun hM => ?_) (fun hM => ?_)
      · exact hK29 t_ways_3 hM _ _ hP hD hS ls (lv_sub hl [0, 1] rfl)
      · refine lv_aload_n hx hb dX1_number_16 rfl (lv_at hl 0 rfl) ?_
        refine va_get (D := D) (ci := 1) (v := .ref qt_ways) (C := RX1) (T := TX1) (N := 5) hx hb hts inX1w hown hK hP 0 rfl rfl 2 (by decide) hf15 (fun _ h9 => h9) rfl dX1_number_17 ?_
        refine lv_iload_n hx hb dX1_number_20 rfl (lv_at hl 2 rfl) ?_
        refine lv_iconst (v := 0) hx hb dX1_number_21 (by decide) ?_
        refine mr_iast hx hb hK hP hD hS 2 0 (fun t_ways_4 => (w_Ord cI cB cZ cS cT qt qt_lets qt_ways qt_restCost qt_found qt_found_ones t_people t_lets t_ways_4 t_restCost t_found_length t_found_ones)) rfl rfl (fun _ => rfl) hM dX1_number_22 (fun t_ways_4 hM H locs hP hD hS => ?_)
        refine mr_iinc (k := 2) (d := 1) hx hb (fun x2_5 => [(2, .int x2_5), (0, .ref qt), (1, .int x1_1)]) hM (by decide) dX1_number_23 hl rfl (by decide) (fun _ => rfl) (fun x2_5 hM ls hl => ?_)
        refine lv_goto (tgt := 11) hx hb dX1_number_26 (by decide) ?_
        exact ih x2_5 t_ways_4 hM _ _ hP hD hS ls (lv_sub hl [1, 2, 0] rfl)
  refine hL11 _ (fun t_ways_6 hM H locs hP hD hS ls hl => ?_) _ 0 t_ways hM _ _ hP hD hS ls (lv_sub hl [2, 1, 0] rfl)
  refine lv_aload_n hx hb dX1_number_29 rfl (lv_at hl 0 rfl) ?_
  refine va_get (D := D) (ci := 1) (v := .ref qt_ways) (C := RX1) (T := TX1) (N := 5) hx hb hts inX1w hown hK hP 0 rfl rfl 2 (by decide) hf15 (fun _ h9 => h9) rfl dX1_number_30 ?_
  refine lv_iconst (v := 0) hx hb dX1_number_33 (by decide) ?_
  refine lv_iconst (v := 1) hx hb dX1_number_34 (by decide) ?_
  refine mr_iast hx hb hK hP hD hS 2 0 (fun t_ways_7 => (w_Ord cI cB cZ cS cT qt qt_lets qt_ways qt_restCost qt_found qt_found_ones t_people t_lets t_ways_7 t_restCost t_found_length t_found_ones)) rfl rfl (fun _ => rfl) hM dX1_number_35 (fun t_ways_7 hM H locs hP hD hS => ?_)
  refine lv_iconst (v := 0) hx hb dX1_number_36 (by decide) ?_
  refine lv_istore_n (lv' := [(2, .int 0), (0, .ref qt), (1, .int x1_1)]) hx hb dX1_number_37 rfl hl (by decide) rfl (fun ls hl => ?_)
  have hL38 : ∀ (K102 : (Nat → Int32) → Option (Int32 × (Nat → Int32))), (∀ (t_ways_23 : Nat → Int32), K102 t_ways_23 = some o → ∀ (H : Heap) (locs : List Loc), va_P D vwCl (w_Ord cI cB cZ cS cT qt qt_lets qt_ways qt_restCost qt_found qt_found_ones t_people t_lets t_ways_23 t_restCost t_found_length t_found_ones) H → va_D A (w_Ord cI cB cZ cS cT qt qt_lets qt_ways qt_restCost qt_found qt_found_ones t_people t_lets t_ways_23 t_restCost t_found_length t_found_ones) → va_S A s.heap H locs → ∀ ls : Array Slot, lv_has ls 4 [(0, .ref qt), (1, .int x1_1)] → W p l e rmX1_number s m av below meth c H locs 0 0 Q (F0 m 102 ls [])) → ∀ (n : Nat) (x2_8 : Int32) (t_ways_9 : Nat → Int32), Ord_number_L38 t_people t_lets x1_1 K102 n x2_8 t_ways_9 = some o → ∀ (H : Heap) (locs : List Loc), va_P D vwCl (w_Ord cI cB cZ cS cT qt qt_lets qt_ways qt_restCost qt_found qt_found_ones t_people t_lets t_ways_9 t_restCost t_found_length t_found_ones) H → va_D A (w_Ord cI cB cZ cS cT qt qt_lets qt_ways qt_restCost qt_found qt_found_ones t_people t_lets t_ways_9 t_restCost t_found_length t_found_ones) → va_S A s.heap H locs → ∀ ls : Array Slot, lv_has ls 4 [(0, .ref qt), (1, .int x1_1), (2, .int x2_8)] → W p l e rmX1_number s m av below meth c H locs 0 0 Q (F0 m 38 ls []) := by
    intro K102 hK102 n
    induction n with
    | zero =>
      intro x2_8 t_ways_9 hM
      rw [Ord_number_L38] at hM
      cases hM
    | succ n ih =>
      intro x2_8 t_ways_9 hM H locs hP hD hS ls hl
      rw [Ord_number_L38] at hM
      refine lv_iload_n hx hb dX1_number_38 rfl (lv_at hl 2 rfl) ?_
      refine lv_iload_n hx hb dX1_number_39 rfl (lv_at hl 1 rfl) ?_
      refine mr_icmp_ge (tgt := 102) hx hb hM dX1_number_40 (by decide) (fun hM => ?_) (fun hM => ?_)
      · exact hK102 t_ways_9 hM _ _ hP hD hS ls (lv_sub hl [0, 1] rfl)
      · refine lv_iconst (v := 0) hx hb dX1_number_43 (by decide) ?_
        refine lv_istore_n (lv' := [(3, .int 0), (0, .ref qt), (1, .int x1_1), (2, .int x2_8)]) hx hb dX1_number_44 rfl hl (by decide) rfl (fun ls hl => ?_)
        have hL45 : ∀ (K96 : (Nat → Int32) → Option (Int32 × (Nat → Int32))), (∀ (t_ways_21 : Nat → Int32), K96 t_ways_21 = some o → ∀ (H : Heap) (locs : List Loc), va_P D vwCl (w_Ord cI cB cZ cS cT qt qt_lets qt_ways qt_restCost qt_found qt_found_ones t_people t_lets t_ways_21 t_restCost t_found_length t_found_ones) H → va_D A (w_Ord cI cB cZ cS cT qt qt_lets qt_ways qt_restCost qt_found qt_found_ones t_people t_lets t_ways_21 t_restCost t_found_length t_found_ones) → va_S A s.heap H locs → ∀ ls : Array Slot, lv_has ls 4 [(0, .ref qt), (1, .int x1_1), (2, .int x2_8)] → W p l e rmX1_number s m av below meth c H locs 0 0 Q (F0 m 96 ls [])) → ∀ (n : Nat) (x3_10 : Int32) (t_ways_11 : Nat → Int32), Ord_number_L45 t_people t_lets x2_8 K96 n x3_10 t_ways_11 = some o → ∀ (H : Heap) (locs : List Loc), va_P D vwCl (w_Ord cI cB cZ cS cT qt qt_lets qt_ways qt_restCost qt_found qt_found_ones t_people t_lets t_ways_11 t_restCost t_found_length t_found_ones) H → va_D A (w_Ord cI cB cZ cS cT qt qt_lets qt_ways qt_restCost qt_found qt_found_ones t_people t_lets t_ways_11 t_restCost t_found_length t_found_ones) → va_S A s.heap H locs → ∀ ls : Array Slot, lv_has ls 4 [(0, .ref qt), (1, .int x1_1), (2, .int x2_8), (3, .int x3_10)] → W p l e rmX1_number s m av below meth c H locs 0 0 Q (F0 m 45 ls []) := by
          intro K96 hK96 n
          induction n with
          | zero =>
            intro x3_10 t_ways_11 hM
            rw [Ord_number_L45] at hM
            cases hM
          | succ n ih =>
            intro x3_10 t_ways_11 hM H locs hP hD hS ls hl
            rw [Ord_number_L45] at hM
            refine lv_iload_n hx hb dX1_number_45 rfl (lv_at hl 3 rfl) ?_
            refine lv_aload_n hx hb dX1_number_46 rfl (lv_at hl 0 rfl) ?_
            refine va_get (D := D) (ci := 1) (v := .int t_people) (C := RX1) (T := TX1) (N := 5) hx hb hts inX1w hown hK hP 0 rfl rfl 0 (by decide) hf34 (fun _ h9 => h9) rfl dX1_number_47 ?_
            refine mr_icmp_ge (tgt := 96) hx hb hM dX1_number_50 (by decide) (fun hM => ?_) (fun hM => ?_)
            · exact hK96 t_ways_11 hM _ _ hP hD hS ls (lv_sub hl [0, 1, 2] rfl)
            · refine lv_aload_n hx hb dX1_number_53 rfl (lv_at hl 0 rfl) ?_
              refine va_get (D := D) (ci := 1) (v := .ref qt_ways) (C := RX1) (T := TX1) (N := 5) hx hb hts inX1w hown hK hP 0 rfl rfl 2 (by decide) hf15 (fun _ h9 => h9) rfl dX1_number_54 ?_
              refine lv_iload_n hx hb dX1_number_57 rfl (lv_at hl 2 rfl) ?_
              refine mr_iald hx hb hK hP 2 0 rfl rfl hM dX1_number_58 (fun v_12 hM => ?_)
              refine mr_if_le (tgt := 90) hx hb hM dX1_number_59 (by decide) (fun hM => ?_) (fun hM => ?_)
              · refine mr_iinc (k := 3) (d := 1) hx hb (fun x3_13 => [(3, .int x3_13), (0, .ref qt), (1, .int x1_1), (2, .int x2_8)]) hM (by decide) dX1_number_90 hl rfl (by decide) (fun _ => rfl) (fun x3_13 hM ls hl => ?_)
                refine lv_goto (tgt := 45) hx hb dX1_number_93 (by decide) ?_
                exact ih x3_13 t_ways_11 hM _ _ hP hD hS ls (lv_sub hl [1, 2, 3, 0] rfl)
              · refine lv_aload_n hx hb dX1_number_62 rfl (lv_at hl 0 rfl) ?_
                refine lv_iload_n hx hb dX1_number_63 rfl (lv_at hl 3 rfl) ?_
                refine lv_iload_n hx hb dX1_number_64 rfl (lv_at hl 2 rfl) ?_
                obtain ⟨o_14, hc, hM⟩ := bind_so hM
                refine mr_callVi (As := [.int x3_10, .int x2_8]) (rest := []) (wr := []) ⟨hx, hb, hml, hown, hts⟩ (k_Ord_canFollow l D cI cB cZ cS cT qt qt_lets qt_ways qt_restCost qt_found qt_found_ones t_people t_lets t_ways_11 t_restCost t_found_length t_found_ones x3_10 x2_8 _ hc) (cwV 2 hts gX1_number_X1_canFollow rfl rfl rfl (by decide +kernel) ⟨Nat.le_of_ble_eq_true rfl, Nat.le_of_ble_eq_true rfl⟩) hK hP hD hS hA [0, 1, 2, 3, 4, 5] [] [0, 1, 2, 3, 4, 5] (w_Ord cI cB cZ cS cT qt qt_lets qt_ways qt_restCost qt_found qt_found_ones t_people t_lets t_ways_11 t_restCost t_found_length t_found_ones) rfl rfl rfl rfl (by decide) rfl rfl 1 0 rfl rfl rfl rfl hl.1 rfl (Nat.le_of_ble_eq_true rfl) dX1_number_65 ⟨Nat.zero_le _, Nat.zero_le _⟩ (fun H locs hP hD hS => ?_)
                refine mr_if_eq (tgt := 90) hx hb hM dX1_number_68 (by decide) (fun hM => ?_) (fun hM => ?_)
                · refine mr_iinc (k := 3) (d := 1) hx hb (fun x3_15 => [(3, .int x3_15), (0, .ref qt), (1, .int x1_1), (2, .int x2_8)]) hM (by decide) dX1_number_90 hl rfl (by decide) (fun _ => rfl) (fun x3_15 hM ls hl => ?_)
                  refine lv_goto (tgt := 45) hx hb dX1_number_93 (by decide) ?_
                  exact ih x3_15 t_ways_11 hM _ _ hP hD hS ls (lv_sub hl [1, 2, 3, 0] rfl)
                · refine lv_aload_n hx hb dX1_number_71 rfl (lv_at hl 0 rfl) ?_
                  refine va_get (D := D) (ci := 1) (v := .ref qt_ways) (C := RX1) (T := TX1) (N := 5) hx hb hts inX1w hown hK hP 0 rfl rfl 2 (by decide) hf15 (fun _ h9 => h9) rfl dX1_number_72 ?_
                  refine lv_iload_n hx hb dX1_number_75 rfl (lv_at hl 2 rfl) ?_
                  refine lv_iconst (v := 1) hx hb dX1_number_76 (by decide) ?_
                  refine lv_iload_n hx hb dX1_number_77 rfl (lv_at hl 3 rfl) ?_
                  refine lv_ishl hx hb dX1_number_78 ?_
                  refine lv_ior hx hb dX1_number_79 ?_
                  refine mr_nmI hM (fun v_16 hM => ?_)
                  refine lv_dup2_11 hx hb dX1_number_80 rfl rfl ?_
                  refine mr_iald hx hb hK hP 2 0 rfl rfl hM dX1_number_81 (fun v_17 hM => ?_)
                  refine lv_aload_n hx hb dX1_number_82 rfl (lv_at hl 0 rfl) ?_
                  refine va_get (D := D) (ci := 1) (v := .ref qt_ways) (C := RX1) (T := TX1) (N := 5) hx hb hts inX1w hown hK hP 0 rfl rfl 2 (by decide) hf15 (fun _ h9 => h9) rfl dX1_number_83 ?_
                  refine lv_iload_n hx hb dX1_number_86 rfl (lv_at hl 2 rfl) ?_
                  refine mr_iald hx hb hK hP 2 0 rfl rfl hM dX1_number_87 (fun v_18 hM => ?_)
                  refine lv_iadd hx hb dX1_number_88 ?_
                  refine mr_iast hx hb hK hP hD hS 2 0 (fun t_ways_19 => (w_Ord cI cB cZ cS cT qt qt_lets qt_ways qt_restCost qt_found qt_found_ones t_people t_lets t_ways_19 t_restCost t_found_length t_found_ones)) rfl rfl (fun _ => rfl) hM dX1_number_89 (fun t_ways_19 hM H locs hP hD hS => ?_)
                  refine mr_iinc (k := 3) (d := 1) hx hb (fun x3_20 => [(3, .int x3_20), (0, .ref qt), (1, .int x1_1), (2, .int x2_8)]) hM (by decide) dX1_number_90 hl rfl (by decide) (fun _ => rfl) (fun x3_20 hM ls hl => ?_)
                  refine lv_goto (tgt := 45) hx hb dX1_number_93 (by decide) ?_
                  exact ih x3_20 t_ways_19 hM _ _ hP hD hS ls (lv_sub hl [1, 2, 3, 0] rfl)
        refine hL45 _ (fun t_ways_21 hM H locs hP hD hS ls hl => ?_) _ 0 t_ways_9 hM _ _ hP hD hS ls (lv_sub hl [1, 2, 3, 0] rfl)
        refine mr_iinc (k := 2) (d := 1) hx hb (fun x2_22 => [(2, .int x2_22), (0, .ref qt), (1, .int x1_1)]) hM (by decide) dX1_number_96 hl rfl (by decide) (fun _ => rfl) (fun x2_22 hM ls hl => ?_)
        refine lv_goto (tgt := 38) hx hb dX1_number_99 (by decide) ?_
        exact ih x2_22 t_ways_21 hM _ _ hP hD hS ls (lv_sub hl [1, 2, 0] rfl)
  refine hL38 _ (fun t_ways_23 hM H locs hP hD hS ls hl => ?_) _ 0 t_ways_7 hM _ _ hP hD hS ls (lv_sub hl [1, 2, 0] rfl)
  refine lv_aload_n hx hb dX1_number_102 rfl (lv_at hl 0 rfl) ?_
  refine va_get (D := D) (ci := 1) (v := .ref qt_ways) (C := RX1) (T := TX1) (N := 5) hx hb hts inX1w hown hK hP 0 rfl rfl 2 (by decide) hf15 (fun _ h9 => h9) rfl dX1_number_103 ?_
  refine lv_iload_n hx hb dX1_number_106 rfl (lv_at hl 1 rfl) ?_
  refine mr_iald hx hb hK hP 2 0 rfl rfl hM dX1_number_107 (fun v_24 hM => ?_)
  have hM := Option.some.inj hM
  subst hM
  exact mr_iret hx hb hr hlocks hQ hP hD hS rfl dX1_number_108

abbrev rmX1_findFirst : Room := { frames := 1, cells := 0, slots := 0, locals := 22 }
set_option maxHeartbeats 40000000 in
set_option maxRecDepth 100000 in
theorem k_Ord_findFirst (l : Launch) (D : va_G) (cI cB cZ cS cT : ClassId) (qt qt_lets qt_ways qt_restCost qt_found qt_found_ones : Nat) (t_people : Int32) (t_lets t_ways t_restCost : Nat → Int32) (t_found_length : Int32) (t_found_ones : Nat → Int32)  (o : Int32 × Int32 × (Nat → Int32)) (hM : Ord_findFirst t_people t_lets t_found_ones = some o) : mtI l yX1_findFirst wsX1_findFirst rmX1_findFirst D (tys5 cI cB cZ cS cT) [.ref qt] (w_Ord cI cB cZ cS cT qt qt_lets qt_ways qt_restCost qt_found qt_found_ones t_people t_lets t_ways t_restCost t_found_length t_found_ones) (w_Ord cI cB cZ cS cT qt qt_lets qt_ways qt_restCost qt_found qt_found_ones t_people t_lets t_ways t_restCost o.2.1 o.2.2) o.1 := by
  refine mtI.of (cc := cX1_findFirst) (maxL := 5) (ret := (some .boolean)) (by decide) rfl (Nat.le_of_ble_eq_true rfl) ?_
  intro p e s m below meth c A Q av hav hQ hx hb hr hml hown hts hlocks hK hP hD hA hS ls hl
  have hown : s.vm.findClass RX1 = some m.cls := hown
  have hl : lv_has ls 5 [(0, .ref qt)] := hl
  unfold Ord_findFirst at hM
  have inX1w : ∀ w ∈ u_ws RX1 TX1 5, w ∈ wsX1_findFirst := by decide +kernel
  have inX3w : ∀ w ∈ u_ws RX3 TX3 2, w ∈ wsX1_findFirst := by decide +kernel
  have hf24 := hts (.fieldLink RX1 24 "LetsIn$Orders" "found" "LLetsIn$Row;") (by decide +kernel)
  have hf42 := hts (.fieldLink RX1 42 "LetsIn$Row" "length" "I") (by decide +kernel)
  have hf34 := hts (.fieldLink RX1 34 "LetsIn$Orders" "people" "I") (by decide +kernel)
  refine lv_aload_n hx hb dX1_findFirst_0 rfl (lv_at hl 0 rfl) ?_
  refine va_get (D := D) (ci := 1) (v := .ref qt_found) (C := RX1) (T := TX1) (N := 5) hx hb hts inX1w hown hK hP 0 rfl rfl 4 (by decide) hf24 (fun _ h9 => h9) rfl dX1_findFirst_1 ?_
  refine lv_iconst (v := 0) hx hb dX1_findFirst_4 (by decide) ?_
  refine mr_put (D := D) (ci := 3) (v := .int 0) (ty := .int) (C := RX3) (T := TX3) (N := 2) hx hb hts inX3w tyX3 tyX3_ok nmX3 hown hK hP hD hS 4 rfl rfl 1 (by decide) hf42 (fun _ h9 => h9) rfl (by decide +kernel) rfl rfl (Nat.le_of_ble_eq_true rfl) dX1_findFirst_5 (w_Ord cI cB cZ cS cT qt qt_lets qt_ways qt_restCost qt_found qt_found_ones t_people t_lets t_ways t_restCost 0 t_found_ones) rfl (fun H locs hP hD hS => ?_)
  refine lv_iconst (v := 0) hx hb dX1_findFirst_8 (by decide) ?_
  refine lv_istore_n (lv' := [(1, .int 0), (0, .ref qt)]) hx hb dX1_findFirst_9 rfl hl (by decide) rfl (fun ls hl => ?_)
  refine lv_iconst (v := 0) hx hb dX1_findFirst_10 (by decide) ?_
  refine lv_istore_n (lv' := [(2, .int 0), (1, .int 0), (0, .ref qt)]) hx hb dX1_findFirst_11 rfl hl (by decide) rfl (fun ls hl => ?_)
  have hL12 : ∀ (K59 : Int32 → (Nat → Int32) → Option (Int32 × Int32 × (Nat → Int32))) (K81 : Int32 → (Nat → Int32) → Option (Int32 × Int32 × (Nat → Int32))), (∀ (t_found_length_15 : Int32) (t_found_ones_16 : Nat → Int32), K59 t_found_length_15 t_found_ones_16 = some o → ∀ (H : Heap) (locs : List Loc), va_P D vwCl (w_Ord cI cB cZ cS cT qt qt_lets qt_ways qt_restCost qt_found qt_found_ones t_people t_lets t_ways t_restCost t_found_length_15 t_found_ones_16) H → va_D A (w_Ord cI cB cZ cS cT qt qt_lets qt_ways qt_restCost qt_found qt_found_ones t_people t_lets t_ways t_restCost t_found_length_15 t_found_ones_16) → va_S A s.heap H locs → ∀ ls : Array Slot, lv_has ls 5 [] → W p l e rmX1_findFirst s m av below meth c H locs 0 0 Q (F0 m 59 ls [])) → (∀ (t_found_length_17 : Int32) (t_found_ones_18 : Nat → Int32), K81 t_found_length_17 t_found_ones_18 = some o → ∀ (H : Heap) (locs : List Loc), va_P D vwCl (w_Ord cI cB cZ cS cT qt qt_lets qt_ways qt_restCost qt_found qt_found_ones t_people t_lets t_ways t_restCost t_found_length_17 t_found_ones_18) H → va_D A (w_Ord cI cB cZ cS cT qt qt_lets qt_ways qt_restCost qt_found qt_found_ones t_people t_lets t_ways t_restCost t_found_length_17 t_found_ones_18) → va_S A s.heap H locs → ∀ ls : Array Slot, lv_has ls 5 [] → W p l e rmX1_findFirst s m av below meth c H locs 0 0 Q (F0 m 81 ls [])) → ∀ (n : Nat) (x1_1 x2_2 t_found_length_3 : Int32) (t_found_ones_4 : Nat → Int32), Ord_findFirst_L12 t_people t_lets K59 K81 n x1_1 x2_2 t_found_length_3 t_found_ones_4 = some o → ∀ (H : Heap) (locs : List Loc), va_P D vwCl (w_Ord cI cB cZ cS cT qt qt_lets qt_ways qt_restCost qt_found qt_found_ones t_people t_lets t_ways t_restCost t_found_length_3 t_found_ones_4) H → va_D A (w_Ord cI cB cZ cS cT qt qt_lets qt_ways qt_restCost qt_found qt_found_ones t_people t_lets t_ways t_restCost t_found_length_3 t_found_ones_4) → va_S A s.heap H locs → ∀ ls : Array Slot, lv_has ls 5 [(0, .ref qt), (1, .int x1_1), (2, .int x2_2)] → W p l e rmX1_findFirst s m av below meth c H locs 0 0 Q (F0 m 12 ls []) := by
    intro K59 K81 hK59 hK81 n
    induction n with
    | zero =>
      intro x1_1 x2_2 t_found_length_3 t_found_ones_4 hM
      rw [Ord_findFirst_L12] at hM
      cases hM
    | succ n ih =>
      intro x1_1 x2_2 t_found_length_3 t_found_ones_4 hM H locs hP hD hS ls hl
      rw [Ord_findFirst_L12] at hM
      refine lv_iload_n hx hb dX1_findFirst_12 rfl (lv_at hl 2 rfl) ?_
      refine lv_aload_n hx hb dX1_findFirst_13 rfl (lv_at hl 0 rfl) ?_
      refine va_get (D := D) (ci := 1) (v := .int t_people) (C := RX1) (T := TX1) (N := 5) hx hb hts inX1w hown hK hP 0 rfl rfl 0 (by decide) hf34 (fun _ h9 => h9) rfl dX1_findFirst_14 ?_
      refine mr_icmp_ge (tgt := 81) hx hb hM dX1_findFirst_17 (by decide) (fun hM => ?_) (fun hM => ?_)
      · exact hK81 t_found_length_3 t_found_ones_4 hM _ _ hP hD hS ls (lv_sub hl [] rfl)
      · refine lv_bipush (v := (-4)) hx hb dX1_findFirst_20 (by decide) ?_
        refine lv_istore_n (lv' := [(3, .int (-4)), (0, .ref qt), (1, .int x1_1), (2, .int x2_2)]) hx hb dX1_findFirst_22 rfl hl (by decide) rfl (fun ls hl => ?_)
        refine lv_aload_n hx hb dX1_findFirst_23 rfl (lv_at hl 1 rfl) ?_
        refine va_get (D := D) (ci := 1) (v := .int t_people) (C := RX1) (T := TX1) (N := 5) hx hb hts inX1w hown hK hP 0 rfl rfl 0 (by decide) hf34 (fun _ h9 => h9) rfl dX1_findFirst_24 ?_
        refine lv_iconst (v := 1) hx hb dX1_findFirst_27 (by decide) ?_
        refine lv_isub hx hb dX1_findFirst_28 ?_
        refine mr_nmI hM (fun x4_5 hM => ?_)
        refine lv_istore (lv' := [(4, .int x4_5), (3, .int (-4)), (0, .ref qt), (1, .int x1_1), (2, .int x2_2)]) hx hb dX1_findFirst_29 hl (by decide) rfl (fun ls hl => ?_)
        have hL31 : ∀ (K55 : Int32 → Option (Int32 × Int32 × (Nat → Int32))), (∀ (x3_11 : Int32), K55 x3_11 = some o → ∀ (H : Heap) (locs : List Loc), va_P D vwCl (w_Ord cI cB cZ cS cT qt qt_lets qt_ways qt_restCost qt_found qt_found_ones t_people t_lets t_ways t_restCost t_found_length_3 t_found_ones_4) H → va_D A (w_Ord cI cB cZ cS cT qt qt_lets qt_ways qt_restCost qt_found qt_found_ones t_people t_lets t_ways t_restCost t_found_length_3 t_found_ones_4) → va_S A s.heap H locs → ∀ ls : Array Slot, lv_has ls 5 [(0, .ref qt), (1, .int x1_1), (2, .int x2_2), (3, .int x3_11)] → W p l e rmX1_findFirst s m av below meth c H locs 0 0 Q (F0 m 55 ls [])) → ∀ (n : Nat) (x3_6 x4_7 : Int32), Ord_findFirst_L31 t_lets x1_1 K55 n x3_6 x4_7 = some o → ∀ (H : Heap) (locs : List Loc), va_P D vwCl (w_Ord cI cB cZ cS cT qt qt_lets qt_ways qt_restCost qt_found qt_found_ones t_people t_lets t_ways t_restCost t_found_length_3 t_found_ones_4) H → va_D A (w_Ord cI cB cZ cS cT qt qt_lets qt_ways qt_restCost qt_found qt_found_ones t_people t_lets t_ways t_restCost t_found_length_3 t_found_ones_4) → va_S A s.heap H locs → ∀ ls : Array Slot, lv_has ls 5 [(0, .ref qt), (1, .int x1_1), (2, .int x2_2), (3, .int x3_6), (4, .int x4_7)] → W p l e rmX1_findFirst s m av below meth c H locs 0 0 Q (F0 m 31 ls []) := by
          intro K55 hK55 n
          induction n with
          | zero =>
            intro x3_6 x4_7 hM
            rw [Ord_findFirst_L31] at hM
            cases hM
          | succ n ih =>
            intro x3_6 x4_7 hM H locs hP hD hS ls hl
            rw [Ord_findFirst_L31] at hM
            refine lv_iload hx hb dX1_findFirst_31 (lv_at hl 4 rfl) ?_
            refine mr_if_lt (tgt := 55) hx hb hM dX1_findFirst_33 (by decide) (fun hM => ?_) (fun hM => ?_)
            · exact hK55 x3_6 hM _ _ hP hD hS ls (lv_sub hl [0, 1, 2, 3] rfl)
            · refine lv_aload_n hx hb dX1_findFirst_36 rfl (lv_at hl 0 rfl) ?_
              refine lv_iload hx hb dX1_findFirst_37 (lv_at hl 4 rfl) ?_
              refine lv_iload_n hx hb dX1_findFirst_39 rfl (lv_at hl 1 rfl) ?_
              obtain ⟨o_8, hc, hM⟩ := bind_so hM
              refine mr_callVi (As := [.int x4_7, .int x1_1]) (rest := []) (wr := []) ⟨hx, hb, hml, hown, hts⟩ (k_Ord_canFollow l D cI cB cZ cS cT qt qt_lets qt_ways qt_restCost qt_found qt_found_ones t_people t_lets t_ways t_restCost t_found_length_3 t_found_ones_4 x4_7 x1_1 _ hc) (cwV 2 hts gX1_findFirst_X1_canFollow rfl rfl rfl (by decide +kernel) ⟨Nat.le_of_ble_eq_true rfl, Nat.le_of_ble_eq_true rfl⟩) hK hP hD hS hA [0, 1, 2, 3, 4, 5] [] [0, 1, 2, 3, 4, 5] (w_Ord cI cB cZ cS cT qt qt_lets qt_ways qt_restCost qt_found qt_found_ones t_people t_lets t_ways t_restCost t_found_length_3 t_found_ones_4) rfl rfl rfl rfl (by decide) rfl rfl 1 0 rfl rfl rfl rfl hl.1 rfl (Nat.le_of_ble_eq_true rfl) dX1_findFirst_40 ⟨Nat.zero_le _, Nat.zero_le _⟩ (fun H locs hP hD hS => ?_)
              refine mr_if_eq (tgt := 49) hx hb hM dX1_findFirst_43 (by decide) (fun hM => ?_) (fun hM => ?_)
              · refine mr_iinc (k := 4) (d := (-1)) hx hb (fun x4_9 => [(4, .int x4_9), (0, .ref qt), (1, .int x1_1), (2, .int x2_2), (3, .int x3_6)]) hM (by decide) dX1_findFirst_49 hl rfl (by decide) (fun _ => rfl) (fun x4_9 hM ls hl => ?_)
                refine lv_goto (tgt := 31) hx hb dX1_findFirst_52 (by decide) ?_
                exact ih x3_6 x4_9 hM _ _ hP hD hS ls (lv_sub hl [1, 2, 3, 4, 0] rfl)
              · refine lv_iload hx hb dX1_findFirst_46 (lv_at hl 4 rfl) ?_
                refine lv_istore_n (lv' := [(3, .int x4_7), (0, .ref qt), (1, .int x1_1), (2, .int x2_2), (4, .int x4_7)]) hx hb dX1_findFirst_48 rfl hl (by decide) rfl (fun ls hl => ?_)
                refine mr_iinc (k := 4) (d := (-1)) hx hb (fun x4_10 => [(4, .int x4_10), (3, .int x4_7), (0, .ref qt), (1, .int x1_1), (2, .int x2_2)]) hM (by decide) dX1_findFirst_49 hl rfl (by decide) (fun _ => rfl) (fun x4_10 hM ls hl => ?_)
                refine lv_goto (tgt := 31) hx hb dX1_findFirst_52 (by decide) ?_
                exact ih x4_7 x4_10 hM _ _ hP hD hS ls (lv_sub hl [2, 3, 4, 1, 0] rfl)
        refine hL31 _ (fun x3_11 hM H locs hP hD hS ls hl => ?_) _ (-4) x4_5 hM _ _ hP hD hS ls (lv_sub hl [2, 3, 4, 1, 0] rfl)
        refine lv_iload_n hx hb dX1_findFirst_55 rfl (lv_at hl 3 rfl) ?_
        refine mr_if_ge (tgt := 61) hx hb hM dX1_findFirst_56 (by decide) (fun hM => ?_) (fun hM => ?_)
        · refine lv_aload_n hx hb dX1_findFirst_61 rfl (lv_at hl 0 rfl) ?_
          refine va_get (D := D) (ci := 1) (v := .ref qt_found) (C := RX1) (T := TX1) (N := 5) hx hb hts inX1w hown hK hP 0 rfl rfl 4 (by decide) hf24 (fun _ h9 => h9) rfl dX1_findFirst_62 ?_
          refine lv_iload_n hx hb dX1_findFirst_65 rfl (lv_at hl 3 rfl) ?_
          obtain ⟨o_12, hc, hM⟩ := bind_so hM
          refine mr_callVv (As := [.int x3_11]) (rest := []) (wr := [(qt, .inr (1, [.int t_people, .ref qt_lets, .ref qt_ways, .ref qt_restCost, .ref qt_found])), (qt_lets, .inl (cI, 7, .inl t_lets)), (qt_ways, .inl (cI, 128, .inl t_ways)), (qt_restCost, .inl (cI, 128, .inl t_restCost))]) ⟨hx, hb, hml, hown, hts⟩ (k_Row_add l D cI cB cZ cS cT qt_found qt_found_ones t_found_length_3 t_found_ones_4 x3_11 _ hc) (cwV 1 hts gX1_findFirst_X3_add rfl rfl rfl (by decide +kernel) ⟨Nat.le_of_ble_eq_true rfl, Nat.le_of_ble_eq_true rfl⟩) hK hP hD hS hA [4, 5] [0, 1, 2, 3] [0, 1, 2, 3, 4, 5] (w_Ord cI cB cZ cS cT qt qt_lets qt_ways qt_restCost qt_found qt_found_ones t_people t_lets t_ways t_restCost o_12.1 o_12.2) rfl rfl rfl rfl (by decide) rfl rfl 3 0 rfl rfl rfl rfl hl.1 rfl (Nat.le_of_ble_eq_true rfl) dX1_findFirst_66 ⟨Nat.zero_le _, Nat.zero_le _⟩ (fun H locs hP hD hS => ?_)
          refine lv_iload_n hx hb dX1_findFirst_69 rfl (lv_at hl 1 rfl) ?_
          refine lv_iconst (v := 1) hx hb dX1_findFirst_70 (by decide) ?_
          refine lv_iload_n hx hb dX1_findFirst_71 rfl (lv_at hl 3 rfl) ?_
          refine lv_ishl hx hb dX1_findFirst_72 ?_
          refine lv_ior hx hb dX1_findFirst_73 ?_
          refine mr_nmI hM (fun x1_13 hM => ?_)
          refine lv_istore_n (lv' := [(1, .int x1_13), (0, .ref qt), (2, .int x2_2), (3, .int x3_11)]) hx hb dX1_findFirst_74 rfl hl (by decide) rfl (fun ls hl => ?_)
          refine mr_iinc (k := 2) (d := 1) hx hb (fun x2_14 => [(2, .int x2_14), (1, .int x1_13), (0, .ref qt), (3, .int x3_11)]) hM (by decide) dX1_findFirst_75 hl rfl (by decide) (fun _ => rfl) (fun x2_14 hM ls hl => ?_)
          refine lv_goto (tgt := 12) hx hb dX1_findFirst_78 (by decide) ?_
          exact ih x1_13 x2_14 o_12.1 o_12.2 hM _ _ hP hD hS ls (lv_sub hl [2, 1, 0] rfl)
        · exact hK59 t_found_length_3 t_found_ones_4 hM _ _ hP hD hS ls (lv_sub hl [] rfl)
  refine hL12 _ _ (fun t_found_length_15 t_found_ones_16 hM H locs hP hD hS ls hl => ?_) (fun t_found_length_17 t_found_ones_18 hM H locs hP hD hS ls hl => ?_) _ 0 0 0 t_found_ones hM _ _ hP hD hS ls (lv_sub hl [2, 1, 0] rfl)
  · refine lv_iconst (v := 0) hx hb dX1_findFirst_59 (by decide) ?_
    have hM := Option.some.inj hM
    subst hM
    exact mr_zret hx hb hr (by decide) hlocks hQ hP hD hS rfl dX1_findFirst_60
  · refine lv_iconst (v := 1) hx hb dX1_findFirst_81 (by decide) ?_
    have hM := Option.some.inj hM
    subst hM
    exact mr_zret hx hb hr (by decide) hlocks hQ hP hD hS rfl dX1_findFirst_82

abbrev rmX1_ringed : Room := { frames := 0, cells := 0, slots := 0, locals := 0 }
set_option maxHeartbeats 40000000 in
set_option maxRecDepth 100000 in
theorem k_Ord_ringed (l : Launch) (D : va_G) (cI cB cZ cS cT : ClassId) (qt qt_lets qt_ways qt_restCost qt_found qt_found_ones : Nat) (t_people : Int32) (t_lets t_ways t_restCost : Nat → Int32) (t_found_length : Int32) (t_found_ones : Nat → Int32)  (o : Int32 × (Nat → Int32)) (hM : Ord_ringed t_people t_lets = some o) : mtI l yX1_ringed wsX1_ringed rmX1_ringed D (tys5 cI cB cZ cS cT) [.ref qt] (w_Ord cI cB cZ cS cT qt qt_lets qt_ways qt_restCost qt_found qt_found_ones t_people t_lets t_ways t_restCost t_found_length t_found_ones) (w_Ord cI cB cZ cS cT qt qt_lets qt_ways qt_restCost qt_found qt_found_ones t_people o.2 t_ways t_restCost t_found_length t_found_ones) o.1 := by
  refine mtI.of (cc := cX1_ringed) (maxL := 3) (ret := (some .int)) (by decide) rfl (Nat.le_of_ble_eq_true rfl) ?_
  intro p e s m below meth c A Q av hav hQ hx hb hr hml hown hts hlocks hK hP hD hA hS ls hl
  have hown : s.vm.findClass RX1 = some m.cls := hown
  have hl : lv_has ls 3 [(0, .ref qt)] := hl
  unfold Ord_ringed at hM
  have inX1w : ∀ w ∈ u_ws RX1 TX1 5, w ∈ wsX1_ringed := by decide +kernel
  have hf34 := hts (.fieldLink RX1 34 "LetsIn$Orders" "people" "I") (by decide +kernel)
  have hf9 := hts (.fieldLink RX1 9 "LetsIn$Orders" "lets" "[I") (by decide +kernel)
  refine lv_iconst (v := 0) hx hb dX1_ringed_0 (by decide) ?_
  refine lv_istore_n (lv' := [(1, .int 0), (0, .ref qt)]) hx hb dX1_ringed_1 rfl hl (by decide) rfl (fun ls hl => ?_)
  have hL2 : ∀ (K60 : (Nat → Int32) → Option (Int32 × (Nat → Int32))), (∀ (t_lets_13 : Nat → Int32), K60 t_lets_13 = some o → ∀ (H : Heap) (locs : List Loc), va_P D vwCl (w_Ord cI cB cZ cS cT qt qt_lets qt_ways qt_restCost qt_found qt_found_ones t_people t_lets_13 t_ways t_restCost t_found_length t_found_ones) H → va_D A (w_Ord cI cB cZ cS cT qt qt_lets qt_ways qt_restCost qt_found qt_found_ones t_people t_lets_13 t_ways t_restCost t_found_length t_found_ones) → va_S A s.heap H locs → ∀ ls : Array Slot, lv_has ls 3 [(0, .ref qt)] → W p l e rmX1_ringed s m av below meth c H locs 0 0 Q (F0 m 60 ls [])) → ∀ (n : Nat) (x1_1 : Int32) (t_lets_2 : Nat → Int32), Ord_ringed_L2 t_people K60 n x1_1 t_lets_2 = some o → ∀ (H : Heap) (locs : List Loc), va_P D vwCl (w_Ord cI cB cZ cS cT qt qt_lets qt_ways qt_restCost qt_found qt_found_ones t_people t_lets_2 t_ways t_restCost t_found_length t_found_ones) H → va_D A (w_Ord cI cB cZ cS cT qt qt_lets qt_ways qt_restCost qt_found qt_found_ones t_people t_lets_2 t_ways t_restCost t_found_length t_found_ones) → va_S A s.heap H locs → ∀ ls : Array Slot, lv_has ls 3 [(0, .ref qt), (1, .int x1_1)] → W p l e rmX1_ringed s m av below meth c H locs 0 0 Q (F0 m 2 ls []) := by
    intro K60 hK60 n
    induction n with
    | zero =>
      intro x1_1 t_lets_2 hM
      rw [Ord_ringed_L2] at hM
      cases hM
    | succ n ih =>
      intro x1_1 t_lets_2 hM H locs hP hD hS ls hl
      rw [Ord_ringed_L2] at hM
      refine lv_iload_n hx hb dX1_ringed_2 rfl (lv_at hl 1 rfl) ?_
      refine lv_aload_n hx hb dX1_ringed_3 rfl (lv_at hl 0 rfl) ?_
      refine va_get (D := D) (ci := 1) (v := .int t_people) (C := RX1) (T := TX1) (N := 5) hx hb hts inX1w hown hK hP 0 rfl rfl 0 (by decide) hf34 (fun _ h9 => h9) rfl dX1_ringed_4 ?_
      refine mr_icmp_ge (tgt := 60) hx hb hM dX1_ringed_7 (by decide) (fun hM => ?_) (fun hM => ?_)
      · exact hK60 t_lets_2 hM _ _ hP hD hS ls (lv_sub hl [0] rfl)
      · refine lv_iconst (v := 0) hx hb dX1_ringed_10 (by decide) ?_
        refine lv_istore_n (lv' := [(2, .int 0), (0, .ref qt), (1, .int x1_1)]) hx hb dX1_ringed_11 rfl hl (by decide) rfl (fun ls hl => ?_)
        have hL12 : ∀ (K54 : (Nat → Int32) → Option (Int32 × (Nat → Int32))), (∀ (t_lets_11 : Nat → Int32), K54 t_lets_11 = some o → ∀ (H : Heap) (locs : List Loc), va_P D vwCl (w_Ord cI cB cZ cS cT qt qt_lets qt_ways qt_restCost qt_found qt_found_ones t_people t_lets_11 t_ways t_restCost t_found_length t_found_ones) H → va_D A (w_Ord cI cB cZ cS cT qt qt_lets qt_ways qt_restCost qt_found qt_found_ones t_people t_lets_11 t_ways t_restCost t_found_length t_found_ones) → va_S A s.heap H locs → ∀ ls : Array Slot, lv_has ls 3 [(0, .ref qt), (1, .int x1_1)] → W p l e rmX1_ringed s m av below meth c H locs 0 0 Q (F0 m 54 ls [])) → ∀ (n : Nat) (x2_3 : Int32) (t_lets_4 : Nat → Int32), Ord_ringed_L12 t_people x1_1 K54 n x2_3 t_lets_4 = some o → ∀ (H : Heap) (locs : List Loc), va_P D vwCl (w_Ord cI cB cZ cS cT qt qt_lets qt_ways qt_restCost qt_found qt_found_ones t_people t_lets_4 t_ways t_restCost t_found_length t_found_ones) H → va_D A (w_Ord cI cB cZ cS cT qt qt_lets qt_ways qt_restCost qt_found qt_found_ones t_people t_lets_4 t_ways t_restCost t_found_length t_found_ones) → va_S A s.heap H locs → ∀ ls : Array Slot, lv_has ls 3 [(0, .ref qt), (1, .int x1_1), (2, .int x2_3)] → W p l e rmX1_ringed s m av below meth c H locs 0 0 Q (F0 m 12 ls []) := by
          intro K54 hK54 n
          induction n with
          | zero =>
            intro x2_3 t_lets_4 hM
            rw [Ord_ringed_L12] at hM
            cases hM
          | succ n ih =>
            intro x2_3 t_lets_4 hM H locs hP hD hS ls hl
            rw [Ord_ringed_L12] at hM
            refine lv_iload_n hx hb dX1_ringed_12 rfl (lv_at hl 2 rfl) ?_
            refine lv_aload_n hx hb dX1_ringed_13 rfl (lv_at hl 0 rfl) ?_
            refine va_get (D := D) (ci := 1) (v := .int t_people) (C := RX1) (T := TX1) (N := 5) hx hb hts inX1w hown hK hP 0 rfl rfl 0 (by decide) hf34 (fun _ h9 => h9) rfl dX1_ringed_14 ?_
            refine mr_icmp_ge (tgt := 54) hx hb hM dX1_ringed_17 (by decide) (fun hM => ?_) (fun hM => ?_)
            · exact hK54 t_lets_4 hM _ _ hP hD hS ls (lv_sub hl [0, 1] rfl)
            · refine lv_aload_n hx hb dX1_ringed_20 rfl (lv_at hl 0 rfl) ?_
              refine va_get (D := D) (ci := 1) (v := .ref qt_lets) (C := RX1) (T := TX1) (N := 5) hx hb hts inX1w hown hK hP 0 rfl rfl 1 (by decide) hf9 (fun _ h9 => h9) rfl dX1_ringed_21 ?_
              refine lv_iload_n hx hb dX1_ringed_24 rfl (lv_at hl 2 rfl) ?_
              refine mr_iald hx hb hK hP 1 0 rfl rfl hM dX1_ringed_25 (fun v_5 hM => ?_)
              refine lv_iload_n hx hb dX1_ringed_26 rfl (lv_at hl 1 rfl) ?_
              refine lv_ishr hx hb dX1_ringed_27 ?_
              refine lv_iconst (v := 1) hx hb dX1_ringed_28 (by decide) ?_
              refine lv_iand hx hb dX1_ringed_29 ?_
              refine mr_if_eq (tgt := 48) hx hb hM dX1_ringed_30 (by decide) (fun hM => ?_) (fun hM => ?_)
              · refine mr_iinc (k := 2) (d := 1) hx hb (fun x2_6 => [(2, .int x2_6), (0, .ref qt), (1, .int x1_1)]) hM (by decide) dX1_ringed_48 hl rfl (by decide) (fun _ => rfl) (fun x2_6 hM ls hl => ?_)
                refine lv_goto (tgt := 12) hx hb dX1_ringed_51 (by decide) ?_
                exact ih x2_6 t_lets_4 hM _ _ hP hD hS ls (lv_sub hl [1, 2, 0] rfl)
              · refine lv_aload_n hx hb dX1_ringed_33 rfl (lv_at hl 0 rfl) ?_
                refine va_get (D := D) (ci := 1) (v := .ref qt_lets) (C := RX1) (T := TX1) (N := 5) hx hb hts inX1w hown hK hP 0 rfl rfl 1 (by decide) hf9 (fun _ h9 => h9) rfl dX1_ringed_34 ?_
                refine lv_iload_n hx hb dX1_ringed_37 rfl (lv_at hl 2 rfl) ?_
                refine lv_dup2_11 hx hb dX1_ringed_38 rfl rfl ?_
                refine mr_iald hx hb hK hP 1 0 rfl rfl hM dX1_ringed_39 (fun v_7 hM => ?_)
                refine lv_aload_n hx hb dX1_ringed_40 rfl (lv_at hl 0 rfl) ?_
                refine va_get (D := D) (ci := 1) (v := .ref qt_lets) (C := RX1) (T := TX1) (N := 5) hx hb hts inX1w hown hK hP 0 rfl rfl 1 (by decide) hf9 (fun _ h9 => h9) rfl dX1_ringed_41 ?_
                refine lv_iload_n hx hb dX1_ringed_44 rfl (lv_at hl 1 rfl) ?_
                refine mr_iald hx hb hK hP 1 0 rfl rfl hM dX1_ringed_45 (fun v_8 hM => ?_)
                refine lv_ior hx hb dX1_ringed_46 ?_
                refine mr_iast hx hb hK hP hD hS 1 0 (fun t_lets_9 => (w_Ord cI cB cZ cS cT qt qt_lets qt_ways qt_restCost qt_found qt_found_ones t_people t_lets_9 t_ways t_restCost t_found_length t_found_ones)) rfl rfl (fun _ => rfl) hM dX1_ringed_47 (fun t_lets_9 hM H locs hP hD hS => ?_)
                refine mr_iinc (k := 2) (d := 1) hx hb (fun x2_10 => [(2, .int x2_10), (0, .ref qt), (1, .int x1_1)]) hM (by decide) dX1_ringed_48 hl rfl (by decide) (fun _ => rfl) (fun x2_10 hM ls hl => ?_)
                refine lv_goto (tgt := 12) hx hb dX1_ringed_51 (by decide) ?_
                exact ih x2_10 t_lets_9 hM _ _ hP hD hS ls (lv_sub hl [1, 2, 0] rfl)
        refine hL12 _ (fun t_lets_11 hM H locs hP hD hS ls hl => ?_) _ 0 t_lets_2 hM _ _ hP hD hS ls (lv_sub hl [1, 2, 0] rfl)
        refine mr_iinc (k := 1) (d := 1) hx hb (fun x1_12 => [(1, .int x1_12), (0, .ref qt)]) hM (by decide) dX1_ringed_54 hl rfl (by decide) (fun _ => rfl) (fun x1_12 hM ls hl => ?_)
        refine lv_goto (tgt := 2) hx hb dX1_ringed_57 (by decide) ?_
        exact ih x1_12 t_lets_11 hM _ _ hP hD hS ls (lv_sub hl [1, 0] rfl)
  refine hL2 _ (fun t_lets_13 hM H locs hP hD hS ls hl => ?_) _ 0 t_lets hM _ _ hP hD hS ls (lv_sub hl [1, 0] rfl)
  refine lv_iconst (v := 0) hx hb dX1_ringed_60 (by decide) ?_
  refine lv_istore_n (lv' := [(1, .int 0), (0, .ref qt)]) hx hb dX1_ringed_61 rfl hl (by decide) rfl (fun ls hl => ?_)
  refine lv_iconst (v := 0) hx hb dX1_ringed_62 (by decide) ?_
  refine lv_istore_n (lv' := [(2, .int 0), (1, .int 0), (0, .ref qt)]) hx hb dX1_ringed_63 rfl hl (by decide) rfl (fun ls hl => ?_)
  have hL64 : ∀ (K91 : Int32 → Option (Int32 × (Nat → Int32))), (∀ (x1_19 : Int32), K91 x1_19 = some o → ∀ (H : Heap) (locs : List Loc), va_P D vwCl (w_Ord cI cB cZ cS cT qt qt_lets qt_ways qt_restCost qt_found qt_found_ones t_people t_lets_13 t_ways t_restCost t_found_length t_found_ones) H → va_D A (w_Ord cI cB cZ cS cT qt qt_lets qt_ways qt_restCost qt_found qt_found_ones t_people t_lets_13 t_ways t_restCost t_found_length t_found_ones) → va_S A s.heap H locs → ∀ ls : Array Slot, lv_has ls 3 [(1, .int x1_19)] → W p l e rmX1_ringed s m av below meth c H locs 0 0 Q (F0 m 91 ls [])) → ∀ (n : Nat) (x1_14 x2_15 : Int32), Ord_ringed_L64 t_people t_lets_13 K91 n x1_14 x2_15 = some o → ∀ (H : Heap) (locs : List Loc), va_P D vwCl (w_Ord cI cB cZ cS cT qt qt_lets qt_ways qt_restCost qt_found qt_found_ones t_people t_lets_13 t_ways t_restCost t_found_length t_found_ones) H → va_D A (w_Ord cI cB cZ cS cT qt qt_lets qt_ways qt_restCost qt_found qt_found_ones t_people t_lets_13 t_ways t_restCost t_found_length t_found_ones) → va_S A s.heap H locs → ∀ ls : Array Slot, lv_has ls 3 [(0, .ref qt), (1, .int x1_14), (2, .int x2_15)] → W p l e rmX1_ringed s m av below meth c H locs 0 0 Q (F0 m 64 ls []) := by
    intro K91 hK91 n
    induction n with
    | zero =>
      intro x1_14 x2_15 hM
      rw [Ord_ringed_L64] at hM
      cases hM
    | succ n ih =>
      intro x1_14 x2_15 hM H locs hP hD hS ls hl
      rw [Ord_ringed_L64] at hM
      refine lv_iload_n hx hb dX1_ringed_64 rfl (lv_at hl 2 rfl) ?_
      refine lv_aload_n hx hb dX1_ringed_65 rfl (lv_at hl 0 rfl) ?_
      refine va_get (D := D) (ci := 1) (v := .int t_people) (C := RX1) (T := TX1) (N := 5) hx hb hts inX1w hown hK hP 0 rfl rfl 0 (by decide) hf34 (fun _ h9 => h9) rfl dX1_ringed_66 ?_
      refine mr_icmp_ge (tgt := 91) hx hb hM dX1_ringed_69 (by decide) (fun hM => ?_) (fun hM => ?_)
      · exact hK91 x1_14 hM _ _ hP hD hS ls (lv_sub hl [1] rfl)
      · refine lv_iload_n hx hb dX1_ringed_72 rfl (lv_at hl 1 rfl) ?_
        refine lv_aload_n hx hb dX1_ringed_73 rfl (lv_at hl 0 rfl) ?_
        refine va_get (D := D) (ci := 1) (v := .ref qt_lets) (C := RX1) (T := TX1) (N := 5) hx hb hts inX1w hown hK hP 0 rfl rfl 1 (by decide) hf9 (fun _ h9 => h9) rfl dX1_ringed_74 ?_
        refine lv_iload_n hx hb dX1_ringed_77 rfl (lv_at hl 2 rfl) ?_
        refine mr_iald hx hb hK hP 1 0 rfl rfl hM dX1_ringed_78 (fun v_16 hM => ?_)
        refine lv_iconst (v := 1) hx hb dX1_ringed_79 (by decide) ?_
        refine lv_iload_n hx hb dX1_ringed_80 rfl (lv_at hl 2 rfl) ?_
        refine lv_ishl hx hb dX1_ringed_81 ?_
        refine lv_iand hx hb dX1_ringed_82 ?_
        refine lv_ior hx hb dX1_ringed_83 ?_
        refine mr_nmI hM (fun x1_17 hM => ?_)
        refine lv_istore_n (lv' := [(1, .int x1_17), (0, .ref qt), (2, .int x2_15)]) hx hb dX1_ringed_84 rfl hl (by decide) rfl (fun ls hl => ?_)
        refine mr_iinc (k := 2) (d := 1) hx hb (fun x2_18 => [(2, .int x2_18), (1, .int x1_17), (0, .ref qt)]) hM (by decide) dX1_ringed_85 hl rfl (by decide) (fun _ => rfl) (fun x2_18 hM ls hl => ?_)
        refine lv_goto (tgt := 64) hx hb dX1_ringed_88 (by decide) ?_
        exact ih x1_17 x2_18 hM _ _ hP hD hS ls (lv_sub hl [2, 1, 0] rfl)
  refine hL64 _ (fun x1_19 hM H locs hP hD hS ls hl => ?_) _ 0 0 hM _ _ hP hD hS ls (lv_sub hl [2, 1, 0] rfl)
  refine lv_iload_n hx hb dX1_ringed_91 rfl (lv_at hl 0 rfl) ?_
  have hM := Option.some.inj hM
  subst hM
  exact mr_iret hx hb hr hlocks hQ hP hD hS rfl dX1_ringed_92

abbrev rmX1_minutesOf : Room := { frames := 0, cells := 0, slots := 0, locals := 0 }
set_option maxHeartbeats 40000000 in
set_option maxRecDepth 100000 in
theorem k_Ord_minutesOf (l : Launch) (D : va_G) (cI cB cZ cS cT : ClassId) (qt qt_lets qt_ways qt_restCost qt_found qt_found_ones qb1 qb1_kind qb1_father qb1_comes qb1_wants qb1_cost qb1_coins qb1_debts : Nat) (t_people : Int32) (t_lets t_ways t_restCost : Nat → Int32) (t_found_length : Int32) (t_found_ones : Nat → Int32) (b1_people b1_law b1_counters : Int32) (b1_kind b1_father b1_comes b1_wants b1_cost b1_coins b1_debts : Nat → Int32) (p2 : Int32) (o : Int32) (hM : Ord_minutesOf p2 t_people b1_wants = some o) : mtI l yX1_minutesOf wsX1_minutesOf rmX1_minutesOf D (tys5 cI cB cZ cS cT) [.ref qt, .ref qb1, .int p2] (w_Ord cI cB cZ cS cT qt qt_lets qt_ways qt_restCost qt_found qt_found_ones t_people t_lets t_ways t_restCost t_found_length t_found_ones ++ w_Twn cI cB cZ cS cT qb1 qb1_kind qb1_father qb1_comes qb1_wants qb1_cost qb1_coins qb1_debts b1_people b1_law b1_counters b1_kind b1_father b1_comes b1_wants b1_cost b1_coins b1_debts) (w_Ord cI cB cZ cS cT qt qt_lets qt_ways qt_restCost qt_found qt_found_ones t_people t_lets t_ways t_restCost t_found_length t_found_ones ++ w_Twn cI cB cZ cS cT qb1 qb1_kind qb1_father qb1_comes qb1_wants qb1_cost qb1_coins qb1_debts b1_people b1_law b1_counters b1_kind b1_father b1_comes b1_wants b1_cost b1_coins b1_debts) o := by
  refine mtI.of (cc := cX1_minutesOf) (maxL := 5) (ret := (some .int)) (by decide) rfl (Nat.le_of_ble_eq_true rfl) ?_
  intro p e s m below meth c A Q av hav hQ hx hb hr hml hown hts hlocks hK hP hD hA hS ls hl
  have hown : s.vm.findClass RX1 = some m.cls := hown
  have hl : lv_has ls 5 [(0, .ref qt), (1, .ref qb1), (2, .int p2)] := hl
  unfold Ord_minutesOf at hM
  have inX1w : ∀ w ∈ u_ws RX1 TX1 5, w ∈ wsX1_minutesOf := by decide +kernel
  have inX7w : ∀ w ∈ u_ws RX7 TX7 10, w ∈ wsX1_minutesOf := by decide +kernel
  have hf34 := hts (.fieldLink RX1 34 "LetsIn$Orders" "people" "I") (by decide +kernel)
  have hf64 := hts (.fieldLink RX1 64 "LetsIn$Town" "wants" "[I") (by decide +kernel)
  refine lv_iconst (v := 0) hx hb dX1_minutesOf_0 (by decide) ?_
  refine lv_istore_n (lv' := [(3, .int 0), (0, .ref qt), (1, .ref qb1), (2, .int p2)]) hx hb dX1_minutesOf_1 rfl hl (by decide) rfl (fun ls hl => ?_)
  refine lv_iconst (v := 0) hx hb dX1_minutesOf_2 (by decide) ?_
  refine lv_istore (lv' := [(4, .int 0), (3, .int 0), (0, .ref qt), (1, .ref qb1), (2, .int p2)]) hx hb dX1_minutesOf_3 hl (by decide) rfl (fun ls hl => ?_)
  have hL5 : ∀ (K43 : Int32 → Option (Int32)), (∀ (x3_9 : Int32), K43 x3_9 = some o → ∀ (H : Heap) (locs : List Loc), va_P D vwCl (w_Ord cI cB cZ cS cT qt qt_lets qt_ways qt_restCost qt_found qt_found_ones t_people t_lets t_ways t_restCost t_found_length t_found_ones ++ w_Twn cI cB cZ cS cT qb1 qb1_kind qb1_father qb1_comes qb1_wants qb1_cost qb1_coins qb1_debts b1_people b1_law b1_counters b1_kind b1_father b1_comes b1_wants b1_cost b1_coins b1_debts) H → va_D A (w_Ord cI cB cZ cS cT qt qt_lets qt_ways qt_restCost qt_found qt_found_ones t_people t_lets t_ways t_restCost t_found_length t_found_ones ++ w_Twn cI cB cZ cS cT qb1 qb1_kind qb1_father qb1_comes qb1_wants qb1_cost qb1_coins qb1_debts b1_people b1_law b1_counters b1_kind b1_father b1_comes b1_wants b1_cost b1_coins b1_debts) → va_S A s.heap H locs → ∀ ls : Array Slot, lv_has ls 5 [(3, .int x3_9)] → W p l e rmX1_minutesOf s m av below meth c H locs 0 0 Q (F0 m 43 ls [])) → ∀ (n : Nat) (x3_1 x4_2 : Int32), Ord_minutesOf_L5 t_people b1_wants p2 K43 n x3_1 x4_2 = some o → ∀ (H : Heap) (locs : List Loc), va_P D vwCl (w_Ord cI cB cZ cS cT qt qt_lets qt_ways qt_restCost qt_found qt_found_ones t_people t_lets t_ways t_restCost t_found_length t_found_ones ++ w_Twn cI cB cZ cS cT qb1 qb1_kind qb1_father qb1_comes qb1_wants qb1_cost qb1_coins qb1_debts b1_people b1_law b1_counters b1_kind b1_father b1_comes b1_wants b1_cost b1_coins b1_debts) H → va_D A (w_Ord cI cB cZ cS cT qt qt_lets qt_ways qt_restCost qt_found qt_found_ones t_people t_lets t_ways t_restCost t_found_length t_found_ones ++ w_Twn cI cB cZ cS cT qb1 qb1_kind qb1_father qb1_comes qb1_wants qb1_cost qb1_coins qb1_debts b1_people b1_law b1_counters b1_kind b1_father b1_comes b1_wants b1_cost b1_coins b1_debts) → va_S A s.heap H locs → ∀ ls : Array Slot, lv_has ls 5 [(0, .ref qt), (1, .ref qb1), (2, .int p2), (3, .int x3_1), (4, .int x4_2)] → W p l e rmX1_minutesOf s m av below meth c H locs 0 0 Q (F0 m 5 ls []) := by
    intro K43 hK43 n
    induction n with
    | zero =>
      intro x3_1 x4_2 hM
      rw [Ord_minutesOf_L5] at hM
      cases hM
    | succ n ih =>
      intro x3_1 x4_2 hM H locs hP hD hS ls hl
      rw [Ord_minutesOf_L5] at hM
      refine lv_iload hx hb dX1_minutesOf_5 (lv_at hl 4 rfl) ?_
      refine lv_aload_n hx hb dX1_minutesOf_7 rfl (lv_at hl 0 rfl) ?_
      refine va_get (D := D) (ci := 1) (v := .int t_people) (C := RX1) (T := TX1) (N := 5) hx hb hts inX1w hown hK hP 0 rfl rfl 0 (by decide) hf34 (fun _ h9 => h9) rfl dX1_minutesOf_8 ?_
      refine mr_icmp_ge (tgt := 43) hx hb hM dX1_minutesOf_11 (by decide) (fun hM => ?_) (fun hM => ?_)
      · exact hK43 x3_1 hM _ _ hP hD hS ls (lv_sub hl [3] rfl)
      · refine lv_iload_n hx hb dX1_minutesOf_14 rfl (lv_at hl 3 rfl) ?_
        refine lv_iload_n hx hb dX1_minutesOf_15 rfl (lv_at hl 2 rfl) ?_
        refine lv_iload hx hb dX1_minutesOf_16 (lv_at hl 4 rfl) ?_
        refine lv_ishr hx hb dX1_minutesOf_18 ?_
        refine lv_iconst (v := 1) hx hb dX1_minutesOf_19 (by decide) ?_
        refine lv_iand hx hb dX1_minutesOf_20 ?_
        refine mr_jn hM (fun j35_3 => ∀ (y_4 y_5 : Int32), j35_3 y_4 y_5 = some o → ∀ (H : Heap) (locs : List Loc), va_P D vwCl (w_Ord cI cB cZ cS cT qt qt_lets qt_ways qt_restCost qt_found qt_found_ones t_people t_lets t_ways t_restCost t_found_length t_found_ones ++ w_Twn cI cB cZ cS cT qb1 qb1_kind qb1_father qb1_comes qb1_wants qb1_cost qb1_coins qb1_debts b1_people b1_law b1_counters b1_kind b1_father b1_comes b1_wants b1_cost b1_coins b1_debts) H → va_D A (w_Ord cI cB cZ cS cT qt qt_lets qt_ways qt_restCost qt_found qt_found_ones t_people t_lets t_ways t_restCost t_found_length t_found_ones ++ w_Twn cI cB cZ cS cT qb1 qb1_kind qb1_father qb1_comes qb1_wants qb1_cost qb1_coins qb1_debts b1_people b1_law b1_counters b1_kind b1_father b1_comes b1_wants b1_cost b1_coins b1_debts) → va_S A s.heap H locs → ∀ ls : Array Slot, lv_has ls 5 [(0, .ref qt), (1, .ref qb1), (2, .int p2), (4, .int x4_2)] → W p l e rmX1_minutesOf s m av below meth c H locs 0 0 Q (F0 m 35 ls [.int y_5, .int y_4])) (fun y_4 y_5 hM H locs hP hD hS ls hl => ?_) (fun j35_3 hj35_3 hM => ?_)
        · refine lv_iadd hx hb dX1_minutesOf_35 ?_
          refine mr_nmI hM (fun x3_6 hM => ?_)
          refine lv_istore_n (lv' := [(3, .int x3_6), (0, .ref qt), (1, .ref qb1), (2, .int p2), (4, .int x4_2)]) hx hb dX1_minutesOf_36 rfl hl (by decide) rfl (fun ls hl => ?_)
          refine mr_iinc (k := 4) (d := 1) hx hb (fun x4_7 => [(4, .int x4_7), (3, .int x3_6), (0, .ref qt), (1, .ref qb1), (2, .int p2)]) hM (by decide) dX1_minutesOf_37 hl rfl (by decide) (fun _ => rfl) (fun x4_7 hM ls hl => ?_)
          refine lv_goto (tgt := 5) hx hb dX1_minutesOf_40 (by decide) ?_
          exact ih x3_6 x4_7 hM _ _ hP hD hS ls (lv_sub hl [2, 3, 4, 1, 0] rfl)
        · refine mr_if_eq (tgt := 34) hx hb hM dX1_minutesOf_21 (by decide) (fun hM => ?_) (fun hM => ?_)
          · refine lv_iconst (v := 0) hx hb dX1_minutesOf_34 (by decide) ?_
            exact hj35_3 x3_1 0 hM _ _ hP hD hS ls (lv_sub hl [0, 1, 2, 4] rfl)
          · refine lv_aload_n hx hb dX1_minutesOf_24 rfl (lv_at hl 1 rfl) ?_
            refine va_get (D := D) (ci := 7) (v := .ref qb1_wants) (C := RX7) (T := TX7) (N := 10) hx hb hts inX7w hown hK hP 6 rfl rfl 6 (by decide) hf64 (fun _ h9 => h9) rfl dX1_minutesOf_25 ?_
            refine lv_iload hx hb dX1_minutesOf_28 (lv_at hl 4 rfl) ?_
            refine mr_iald hx hb hK hP 10 0 rfl rfl hM dX1_minutesOf_30 (fun v_8 hM => ?_)
            refine lv_goto (tgt := 35) hx hb dX1_minutesOf_31 (by decide) ?_
            exact hj35_3 x3_1 v_8 hM _ _ hP hD hS ls (lv_sub hl [0, 1, 2, 4] rfl)
  refine hL5 _ (fun x3_9 hM H locs hP hD hS ls hl => ?_) _ 0 0 hM _ _ hP hD hS ls (lv_sub hl [2, 3, 4, 1, 0] rfl)
  refine lv_iload_n hx hb dX1_minutesOf_43 rfl (lv_at hl 0 rfl) ?_
  have hM := Option.some.inj hM
  subst hM
  exact mr_iret hx hb hr hlocks hQ hP hD hS rfl dX1_minutesOf_44

abbrev rmX1_costWith : Room := { frames := 1, cells := 0, slots := 0, locals := 22 }
set_option maxHeartbeats 40000000 in
set_option maxRecDepth 100000 in
theorem k_Ord_costWith (l : Launch) (D : va_G) (cI cB cZ cS cT : ClassId) (qt qt_lets qt_ways qt_restCost qt_found qt_found_ones qb1 qb1_kind qb1_father qb1_comes qb1_wants qb1_cost qb1_coins qb1_debts : Nat) (t_people : Int32) (t_lets t_ways t_restCost : Nat → Int32) (t_found_length : Int32) (t_found_ones : Nat → Int32) (b1_people b1_law b1_counters : Int32) (b1_kind b1_father b1_comes b1_wants b1_cost b1_coins b1_debts : Nat → Int32) (p2 p3 p4 : Int32) (o : Int32) (hM : Ord_costWith p2 p3 p4 t_lets t_restCost b1_cost = some o) : mtI l yX1_costWith wsX1_costWith rmX1_costWith D (tys5 cI cB cZ cS cT) [.ref qt, .ref qb1, .int p2, .int p3, .int p4] (w_Ord cI cB cZ cS cT qt qt_lets qt_ways qt_restCost qt_found qt_found_ones t_people t_lets t_ways t_restCost t_found_length t_found_ones ++ w_Twn cI cB cZ cS cT qb1 qb1_kind qb1_father qb1_comes qb1_wants qb1_cost qb1_coins qb1_debts b1_people b1_law b1_counters b1_kind b1_father b1_comes b1_wants b1_cost b1_coins b1_debts) (w_Ord cI cB cZ cS cT qt qt_lets qt_ways qt_restCost qt_found qt_found_ones t_people t_lets t_ways t_restCost t_found_length t_found_ones ++ w_Twn cI cB cZ cS cT qb1 qb1_kind qb1_father qb1_comes qb1_wants qb1_cost qb1_coins qb1_debts b1_people b1_law b1_counters b1_kind b1_father b1_comes b1_wants b1_cost b1_coins b1_debts) o := by
  refine mtI.of (cc := cX1_costWith) (maxL := 6) (ret := (some .int)) (by decide) rfl (Nat.le_of_ble_eq_true rfl) ?_
  intro p e s m below meth c A Q av hav hQ hx hb hr hml hown hts hlocks hK hP hD hA hS ls hl
  have hown : s.vm.findClass RX1 = some m.cls := hown
  have hl : lv_has ls 6 [(0, .ref qt), (1, .ref qb1), (2, .int p2), (3, .int p3), (4, .int p4)] := hl
  unfold Ord_costWith at hM
  have inX1w : ∀ w ∈ u_ws RX1 TX1 5, w ∈ wsX1_costWith := by decide +kernel
  have inX7w : ∀ w ∈ u_ws RX7 TX7 10, w ∈ wsX1_costWith := by decide +kernel
  have hf18 := hts (.fieldLink RX1 18 "LetsIn$Orders" "restCost" "[I") (by decide +kernel)
  have hf61 := hts (.fieldLink RX1 61 "LetsIn$Town" "cost" "[I") (by decide +kernel)
  refine lv_aload_n hx hb dX1_costWith_0 rfl (lv_at hl 0 rfl) ?_
  refine lv_iload_n hx hb dX1_costWith_1 rfl (lv_at hl 2 rfl) ?_
  refine lv_iload_n hx hb dX1_costWith_2 rfl (lv_at hl 3 rfl) ?_
  obtain ⟨o_1, hc, hM⟩ := bind_so hM
  refine mr_callVi (As := [.int p2, .int p3]) (rest := []) (wr := [(qb1, .inr (7, [.int b1_people, .int b1_law, .int b1_counters, .ref qb1_kind, .ref qb1_father, .ref qb1_comes, .ref qb1_wants, .ref qb1_cost, .ref qb1_coins, .ref qb1_debts])), (qb1_kind, .inl (cI, 7, .inl b1_kind)), (qb1_father, .inl (cI, 7, .inl b1_father)), (qb1_comes, .inl (cI, 7, .inl b1_comes)), (qb1_wants, .inl (cI, 7, .inl b1_wants)), (qb1_cost, .inl (cI, 7, .inl b1_cost)), (qb1_coins, .inl (cI, 7, .inl b1_coins)), (qb1_debts, .inl (cI, 49, .inl b1_debts))]) ⟨hx, hb, hml, hown, hts⟩ (k_Ord_canFollow l D cI cB cZ cS cT qt qt_lets qt_ways qt_restCost qt_found qt_found_ones t_people t_lets t_ways t_restCost t_found_length t_found_ones p2 p3 _ hc) (cwV 2 hts gX1_costWith_X1_canFollow rfl rfl rfl (by decide +kernel) ⟨Nat.le_of_ble_eq_true rfl, Nat.le_of_ble_eq_true rfl⟩) hK hP hD hS hA [0, 1, 2, 3, 4, 5] [6, 7, 8, 9, 10, 11, 12, 13] [8, 9, 10, 11, 12, 13, 0, 1, 2, 3, 4, 5, 6, 7] (w_Ord cI cB cZ cS cT qt qt_lets qt_ways qt_restCost qt_found qt_found_ones t_people t_lets t_ways t_restCost t_found_length t_found_ones ++ w_Twn cI cB cZ cS cT qb1 qb1_kind qb1_father qb1_comes qb1_wants qb1_cost qb1_coins qb1_debts b1_people b1_law b1_counters b1_kind b1_father b1_comes b1_wants b1_cost b1_coins b1_debts) rfl rfl rfl rfl (by decide) rfl rfl 1 0 rfl rfl rfl rfl hl.1 rfl (Nat.le_of_ble_eq_true rfl) dX1_costWith_3 ⟨Nat.zero_le _, Nat.zero_le _⟩ (fun H locs hP hD hS => ?_)
  refine mr_if_ne (tgt := 11) hx hb hM dX1_costWith_6 (by decide) (fun hM => ?_) (fun hM => ?_)
  · refine lv_aload_n hx hb dX1_costWith_11 rfl (lv_at hl 0 rfl) ?_
    refine va_get (D := D) (ci := 1) (v := .ref qt_restCost) (C := RX1) (T := TX1) (N := 5) hx hb hts inX1w hown hK hP 0 rfl rfl 3 (by decide) hf18 (fun _ h9 => h9) rfl dX1_costWith_12 ?_
    refine lv_iload_n hx hb dX1_costWith_15 rfl (lv_at hl 3 rfl) ?_
    refine lv_iconst (v := 1) hx hb dX1_costWith_16 (by decide) ?_
    refine lv_iload_n hx hb dX1_costWith_17 rfl (lv_at hl 2 rfl) ?_
    refine lv_ishl hx hb dX1_costWith_18 ?_
    refine lv_ior hx hb dX1_costWith_19 ?_
    refine mr_iald hx hb hK hP 3 0 rfl rfl hM dX1_costWith_20 (fun v_2 hM => ?_)
    refine lv_istore (lv' := [(5, .int v_2), (0, .ref qt), (1, .ref qb1), (2, .int p2), (3, .int p3), (4, .int p4)]) hx hb dX1_costWith_21 hl (by decide) rfl (fun ls hl => ?_)
    refine lv_iload hx hb dX1_costWith_23 (lv_at hl 0 rfl) ?_
    refine mr_if_ge (tgt := 32) hx hb hM dX1_costWith_25 (by decide) (fun hM => ?_) (fun hM => ?_)
    · refine lv_aload_n hx hb dX1_costWith_32 rfl (lv_at hl 2 rfl) ?_
      refine va_get (D := D) (ci := 7) (v := .ref qb1_cost) (C := RX7) (T := TX7) (N := 10) hx hb hts inX7w hown hK hP 6 rfl rfl 7 (by decide) hf61 (fun _ h9 => h9) rfl dX1_costWith_33 ?_
      refine lv_iload_n hx hb dX1_costWith_36 rfl (lv_at hl 3 rfl) ?_
      refine mr_iald hx hb hK hP 11 0 rfl rfl hM dX1_costWith_37 (fun v_3 hM => ?_)
      refine lv_iload hx hb dX1_costWith_38 (lv_at hl 5 rfl) ?_
      refine lv_imul hx hb dX1_costWith_40 ?_
      refine lv_iload hx hb dX1_costWith_41 (lv_at hl 0 rfl) ?_
      refine lv_iadd hx hb dX1_costWith_43 ?_
      have hM := Option.some.inj hM
      subst hM
      exact mr_iret hx hb hr hlocks hQ hP hD hS rfl dX1_costWith_44
    · refine lv_iconst (v := (-1)) hx hb dX1_costWith_28 (by decide) ?_
      refine lv_goto (tgt := 44) hx hb dX1_costWith_29 (by decide) ?_
      have hM := Option.some.inj hM
      subst hM
      exact mr_iret hx hb hr hlocks hQ hP hD hS rfl dX1_costWith_44
  · refine lv_iconst (v := (-1)) hx hb dX1_costWith_9 (by decide) ?_
    have hM := Option.some.inj hM
    subst hM
    exact mr_iret hx hb hr hlocks hQ hP hD hS rfl dX1_costWith_10

abbrev rmX1_weighRests : Room := { frames := 2, cells := 0, slots := 0, locals := 47 }
set_option maxHeartbeats 40000000 in
set_option maxRecDepth 100000 in
theorem k_Ord_weighRests (l : Launch) (D : va_G) (cI cB cZ cS cT : ClassId) (qt qt_lets qt_ways qt_restCost qt_found qt_found_ones qb1 qb1_kind qb1_father qb1_comes qb1_wants qb1_cost qb1_coins qb1_debts : Nat) (t_people : Int32) (t_lets t_ways t_restCost : Nat → Int32) (t_found_length : Int32) (t_found_ones : Nat → Int32) (b1_people b1_law b1_counters : Int32) (b1_kind b1_father b1_comes b1_wants b1_cost b1_coins b1_debts : Nat → Int32)  (o : (Nat → Int32)) (hM : Ord_weighRests t_people t_lets t_restCost b1_wants b1_cost = some o) : mtV l yX1_weighRests wsX1_weighRests rmX1_weighRests D (tys5 cI cB cZ cS cT) [.ref qt, .ref qb1] (w_Ord cI cB cZ cS cT qt qt_lets qt_ways qt_restCost qt_found qt_found_ones t_people t_lets t_ways t_restCost t_found_length t_found_ones ++ w_Twn cI cB cZ cS cT qb1 qb1_kind qb1_father qb1_comes qb1_wants qb1_cost qb1_coins qb1_debts b1_people b1_law b1_counters b1_kind b1_father b1_comes b1_wants b1_cost b1_coins b1_debts) (w_Ord cI cB cZ cS cT qt qt_lets qt_ways qt_restCost qt_found qt_found_ones t_people t_lets t_ways o t_found_length t_found_ones ++ w_Twn cI cB cZ cS cT qb1 qb1_kind qb1_father qb1_comes qb1_wants qb1_cost qb1_coins qb1_debts b1_people b1_law b1_counters b1_kind b1_father b1_comes b1_wants b1_cost b1_coins b1_debts) := by
  refine mtV.of (cc := cX1_weighRests) (maxL := 8) (ret := none) (by decide) rfl (Nat.le_of_ble_eq_true rfl) ?_
  intro p e s m below meth c A Q av hav hQ hx hb hr hml hown hts hlocks hK hP hD hA hS ls hl
  have hown : s.vm.findClass RX1 = some m.cls := hown
  have hl : lv_has ls 8 [(0, .ref qt), (1, .ref qb1)] := hl
  unfold Ord_weighRests at hM
  have inX1w : ∀ w ∈ u_ws RX1 TX1 5, w ∈ wsX1_weighRests := by decide +kernel
  have hf34 := hts (.fieldLink RX1 34 "LetsIn$Orders" "people" "I") (by decide +kernel)
  have hf18 := hts (.fieldLink RX1 18 "LetsIn$Orders" "restCost" "[I") (by decide +kernel)
  refine lv_iconst (v := 1) hx hb dX1_weighRests_0 (by decide) ?_
  refine lv_aload_n hx hb dX1_weighRests_1 rfl (lv_at hl 0 rfl) ?_
  refine va_get (D := D) (ci := 1) (v := .int t_people) (C := RX1) (T := TX1) (N := 5) hx hb hts inX1w hown hK hP 0 rfl rfl 0 (by decide) hf34 (fun _ h9 => h9) rfl dX1_weighRests_2 ?_
  refine lv_ishl hx hb dX1_weighRests_5 ?_
  refine lv_iconst (v := 1) hx hb dX1_weighRests_6 (by decide) ?_
  refine lv_isub hx hb dX1_weighRests_7 ?_
  refine mr_nmI hM (fun x2_1 hM => ?_)
  refine lv_istore_n (lv' := [(2, .int x2_1), (0, .ref qt), (1, .ref qb1)]) hx hb dX1_weighRests_8 rfl hl (by decide) rfl (fun ls hl => ?_)
  refine lv_aload_n hx hb dX1_weighRests_9 rfl (lv_at hl 1 rfl) ?_
  refine va_get (D := D) (ci := 1) (v := .ref qt_restCost) (C := RX1) (T := TX1) (N := 5) hx hb hts inX1w hown hK hP 0 rfl rfl 3 (by decide) hf18 (fun _ h9 => h9) rfl dX1_weighRests_10 ?_
  refine lv_iload_n hx hb dX1_weighRests_13 rfl (lv_at hl 0 rfl) ?_
  refine lv_iconst (v := 0) hx hb dX1_weighRests_14 (by decide) ?_
  refine mr_iast hx hb hK hP hD hS 3 0 (fun t_restCost_2 => (w_Ord cI cB cZ cS cT qt qt_lets qt_ways qt_restCost qt_found qt_found_ones t_people t_lets t_ways t_restCost_2 t_found_length t_found_ones ++ w_Twn cI cB cZ cS cT qb1 qb1_kind qb1_father qb1_comes qb1_wants qb1_cost qb1_coins qb1_debts b1_people b1_law b1_counters b1_kind b1_father b1_comes b1_wants b1_cost b1_coins b1_debts)) rfl rfl (fun _ => rfl) hM dX1_weighRests_15 (fun t_restCost_2 hM H locs hP hD hS => ?_)
  refine lv_iload_n hx hb dX1_weighRests_16 rfl (lv_at hl 0 rfl) ?_
  refine lv_iconst (v := 1) hx hb dX1_weighRests_17 (by decide) ?_
  refine lv_isub hx hb dX1_weighRests_18 ?_
  refine mr_nmI hM (fun x3_3 hM => ?_)
  refine lv_istore_n (lv' := [(3, .int x3_3), (2, .int x2_1), (0, .ref qt), (1, .ref qb1)]) hx hb dX1_weighRests_19 rfl hl (by decide) rfl (fun ls hl => ?_)
  have hL20 : ∀ (K101 : (Nat → Int32) → Option ((Nat → Int32))), (∀ (t_restCost_17 : Nat → Int32), K101 t_restCost_17 = some o → ∀ (H : Heap) (locs : List Loc), va_P D vwCl (w_Ord cI cB cZ cS cT qt qt_lets qt_ways qt_restCost qt_found qt_found_ones t_people t_lets t_ways t_restCost_17 t_found_length t_found_ones ++ w_Twn cI cB cZ cS cT qb1 qb1_kind qb1_father qb1_comes qb1_wants qb1_cost qb1_coins qb1_debts b1_people b1_law b1_counters b1_kind b1_father b1_comes b1_wants b1_cost b1_coins b1_debts) H → va_D A (w_Ord cI cB cZ cS cT qt qt_lets qt_ways qt_restCost qt_found qt_found_ones t_people t_lets t_ways t_restCost_17 t_found_length t_found_ones ++ w_Twn cI cB cZ cS cT qb1 qb1_kind qb1_father qb1_comes qb1_wants qb1_cost qb1_coins qb1_debts b1_people b1_law b1_counters b1_kind b1_father b1_comes b1_wants b1_cost b1_coins b1_debts) → va_S A s.heap H locs → ∀ ls : Array Slot, lv_has ls 8 [] → W p l e rmX1_weighRests s m av below meth c H locs 0 0 Q (F0 m 101 ls [])) → ∀ (n : Nat) (x3_4 : Int32) (t_restCost_5 : Nat → Int32), Ord_weighRests_L20 t_people t_lets b1_wants b1_cost K101 n x3_4 t_restCost_5 = some o → ∀ (H : Heap) (locs : List Loc), va_P D vwCl (w_Ord cI cB cZ cS cT qt qt_lets qt_ways qt_restCost qt_found qt_found_ones t_people t_lets t_ways t_restCost_5 t_found_length t_found_ones ++ w_Twn cI cB cZ cS cT qb1 qb1_kind qb1_father qb1_comes qb1_wants qb1_cost qb1_coins qb1_debts b1_people b1_law b1_counters b1_kind b1_father b1_comes b1_wants b1_cost b1_coins b1_debts) H → va_D A (w_Ord cI cB cZ cS cT qt qt_lets qt_ways qt_restCost qt_found qt_found_ones t_people t_lets t_ways t_restCost_5 t_found_length t_found_ones ++ w_Twn cI cB cZ cS cT qb1 qb1_kind qb1_father qb1_comes qb1_wants qb1_cost qb1_coins qb1_debts b1_people b1_law b1_counters b1_kind b1_father b1_comes b1_wants b1_cost b1_coins b1_debts) → va_S A s.heap H locs → ∀ ls : Array Slot, lv_has ls 8 [(0, .ref qt), (1, .ref qb1), (3, .int x3_4)] → W p l e rmX1_weighRests s m av below meth c H locs 0 0 Q (F0 m 20 ls []) := by
    intro K101 hK101 n
    induction n with
    | zero =>
      intro x3_4 t_restCost_5 hM
      rw [Ord_weighRests_L20] at hM
      cases hM
    | succ n ih =>
      intro x3_4 t_restCost_5 hM H locs hP hD hS ls hl
      rw [Ord_weighRests_L20] at hM
      refine lv_iload_n hx hb dX1_weighRests_20 rfl (lv_at hl 2 rfl) ?_
      refine mr_if_lt (tgt := 101) hx hb hM dX1_weighRests_21 (by decide) (fun hM => ?_) (fun hM => ?_)
      · exact hK101 t_restCost_5 hM _ _ hP hD hS ls (lv_sub hl [] rfl)
      · refine lv_aload_n hx hb dX1_weighRests_24 rfl (lv_at hl 0 rfl) ?_
        refine lv_aload_n hx hb dX1_weighRests_25 rfl (lv_at hl 1 rfl) ?_
        refine lv_iload_n hx hb dX1_weighRests_26 rfl (lv_at hl 2 rfl) ?_
        obtain ⟨o_6, hc, hM⟩ := bind_so hM
        refine mr_callVi (As := [.ref qb1, .int x3_4]) (rest := []) (wr := []) ⟨hx, hb, hml, hown, hts⟩ (k_Ord_minutesOf l D cI cB cZ cS cT qt qt_lets qt_ways qt_restCost qt_found qt_found_ones qb1 qb1_kind qb1_father qb1_comes qb1_wants qb1_cost qb1_coins qb1_debts t_people t_lets t_ways t_restCost_5 t_found_length t_found_ones b1_people b1_law b1_counters b1_kind b1_father b1_comes b1_wants b1_cost b1_coins b1_debts x3_4 _ hc) (cwV 2 hts gX1_weighRests_X1_minutesOf rfl rfl rfl (by decide +kernel) ⟨Nat.le_of_ble_eq_true rfl, Nat.le_of_ble_eq_true rfl⟩) hK hP hD hS hA [0, 1, 2, 3, 4, 5, 6, 7, 8, 9, 10, 11, 12, 13] [] [0, 1, 2, 3, 4, 5, 6, 7, 8, 9, 10, 11, 12, 13] (w_Ord cI cB cZ cS cT qt qt_lets qt_ways qt_restCost qt_found qt_found_ones t_people t_lets t_ways t_restCost_5 t_found_length t_found_ones ++ w_Twn cI cB cZ cS cT qb1 qb1_kind qb1_father qb1_comes qb1_wants qb1_cost qb1_coins qb1_debts b1_people b1_law b1_counters b1_kind b1_father b1_comes b1_wants b1_cost b1_coins b1_debts) rfl rfl rfl rfl (by decide) rfl rfl 1 0 rfl rfl rfl rfl hl.1 rfl (Nat.le_of_ble_eq_true rfl) dX1_weighRests_27 ⟨Nat.zero_le _, Nat.zero_le _⟩ (fun H locs hP hD hS => ?_)
        refine lv_istore (lv' := [(4, .int o_6), (0, .ref qt), (1, .ref qb1), (3, .int x3_4)]) hx hb dX1_weighRests_30 hl (by decide) rfl (fun ls hl => ?_)
        refine lv_bipush (v := (-4)) hx hb dX1_weighRests_32 (by decide) ?_
        refine lv_istore (lv' := [(5, .int (-4)), (4, .int o_6), (0, .ref qt), (1, .ref qb1), (3, .int x3_4)]) hx hb dX1_weighRests_34 hl (by decide) rfl (fun ls hl => ?_)
        refine lv_iconst (v := 0) hx hb dX1_weighRests_36 (by decide) ?_
        refine lv_istore (lv' := [(6, .int 0), (5, .int (-4)), (4, .int o_6), (0, .ref qt), (1, .ref qb1), (3, .int x3_4)]) hx hb dX1_weighRests_37 hl (by decide) rfl (fun ls hl => ?_)
        have hL39 : ∀ (K87 : Int32 → Option ((Nat → Int32))), (∀ (x5_14 : Int32), K87 x5_14 = some o → ∀ (H : Heap) (locs : List Loc), va_P D vwCl (w_Ord cI cB cZ cS cT qt qt_lets qt_ways qt_restCost qt_found qt_found_ones t_people t_lets t_ways t_restCost_5 t_found_length t_found_ones ++ w_Twn cI cB cZ cS cT qb1 qb1_kind qb1_father qb1_comes qb1_wants qb1_cost qb1_coins qb1_debts b1_people b1_law b1_counters b1_kind b1_father b1_comes b1_wants b1_cost b1_coins b1_debts) H → va_D A (w_Ord cI cB cZ cS cT qt qt_lets qt_ways qt_restCost qt_found qt_found_ones t_people t_lets t_ways t_restCost_5 t_found_length t_found_ones ++ w_Twn cI cB cZ cS cT qb1 qb1_kind qb1_father qb1_comes qb1_wants qb1_cost qb1_coins qb1_debts b1_people b1_law b1_counters b1_kind b1_father b1_comes b1_wants b1_cost b1_coins b1_debts) → va_S A s.heap H locs → ∀ ls : Array Slot, lv_has ls 8 [(0, .ref qt), (1, .ref qb1), (3, .int x3_4), (5, .int x5_14)] → W p l e rmX1_weighRests s m av below meth c H locs 0 0 Q (F0 m 87 ls [])) → ∀ (n : Nat) (x5_7 x6_8 : Int32), Ord_weighRests_L39 t_people t_lets b1_cost x3_4 t_restCost_5 o_6 K87 n x5_7 x6_8 = some o → ∀ (H : Heap) (locs : List Loc), va_P D vwCl (w_Ord cI cB cZ cS cT qt qt_lets qt_ways qt_restCost qt_found qt_found_ones t_people t_lets t_ways t_restCost_5 t_found_length t_found_ones ++ w_Twn cI cB cZ cS cT qb1 qb1_kind qb1_father qb1_comes qb1_wants qb1_cost qb1_coins qb1_debts b1_people b1_law b1_counters b1_kind b1_father b1_comes b1_wants b1_cost b1_coins b1_debts) H → va_D A (w_Ord cI cB cZ cS cT qt qt_lets qt_ways qt_restCost qt_found qt_found_ones t_people t_lets t_ways t_restCost_5 t_found_length t_found_ones ++ w_Twn cI cB cZ cS cT qb1 qb1_kind qb1_father qb1_comes qb1_wants qb1_cost qb1_coins qb1_debts b1_people b1_law b1_counters b1_kind b1_father b1_comes b1_wants b1_cost b1_coins b1_debts) → va_S A s.heap H locs → ∀ ls : Array Slot, lv_has ls 8 [(0, .ref qt), (1, .ref qb1), (3, .int x3_4), (4, .int o_6), (5, .int x5_7), (6, .int x6_8)] → W p l e rmX1_weighRests s m av below meth c H locs 0 0 Q (F0 m 39 ls []) := by
          intro K87 hK87 n
          induction n with
          | zero =>
            intro x5_7 x6_8 hM
            rw [Ord_weighRests_L39] at hM
            cases hM
          | succ n ih =>
            intro x5_7 x6_8 hM H locs hP hD hS ls hl
            rw [Ord_weighRests_L39] at hM
            refine lv_iload hx hb dX1_weighRests_39 (lv_at hl 5 rfl) ?_
            refine lv_aload_n hx hb dX1_weighRests_41 rfl (lv_at hl 0 rfl) ?_
            refine va_get (D := D) (ci := 1) (v := .int t_people) (C := RX1) (T := TX1) (N := 5) hx hb hts inX1w hown hK hP 0 rfl rfl 0 (by decide) hf34 (fun _ h9 => h9) rfl dX1_weighRests_42 ?_
            refine mr_icmp_ge (tgt := 87) hx hb hM dX1_weighRests_45 (by decide) (fun hM => ?_) (fun hM => ?_)
            · exact hK87 x5_7 hM _ _ hP hD hS ls (lv_sub hl [0, 1, 2, 4] rfl)
            · refine lv_aload_n hx hb dX1_weighRests_48 rfl (lv_at hl 0 rfl) ?_
              refine lv_aload_n hx hb dX1_weighRests_49 rfl (lv_at hl 1 rfl) ?_
              refine lv_iload hx hb dX1_weighRests_50 (lv_at hl 5 rfl) ?_
              refine lv_iload_n hx hb dX1_weighRests_52 rfl (lv_at hl 2 rfl) ?_
              refine lv_iload hx hb dX1_weighRests_53 (lv_at hl 3 rfl) ?_
              obtain ⟨o_9, hc, hM⟩ := bind_so hM
              refine mr_callVi (As := [.ref qb1, .int x6_8, .int x3_4, .int o_6]) (rest := []) (wr := []) ⟨hx, hb, hml, hown, hts⟩ (k_Ord_costWith l D cI cB cZ cS cT qt qt_lets qt_ways qt_restCost qt_found qt_found_ones qb1 qb1_kind qb1_father qb1_comes qb1_wants qb1_cost qb1_coins qb1_debts t_people t_lets t_ways t_restCost_5 t_found_length t_found_ones b1_people b1_law b1_counters b1_kind b1_father b1_comes b1_wants b1_cost b1_coins b1_debts x6_8 x3_4 o_6 _ hc) (cwV 4 hts gX1_weighRests_X1_costWith rfl rfl rfl (by decide +kernel) ⟨Nat.le_of_ble_eq_true rfl, Nat.le_of_ble_eq_true rfl⟩) hK hP hD hS hA [0, 1, 2, 3, 4, 5, 6, 7, 8, 9, 10, 11, 12, 13] [] [0, 1, 2, 3, 4, 5, 6, 7, 8, 9, 10, 11, 12, 13] (w_Ord cI cB cZ cS cT qt qt_lets qt_ways qt_restCost qt_found qt_found_ones t_people t_lets t_ways t_restCost_5 t_found_length t_found_ones ++ w_Twn cI cB cZ cS cT qb1 qb1_kind qb1_father qb1_comes qb1_wants qb1_cost qb1_coins qb1_debts b1_people b1_law b1_counters b1_kind b1_father b1_comes b1_wants b1_cost b1_coins b1_debts) rfl rfl rfl rfl (by decide) rfl rfl 1 0 rfl rfl rfl rfl hl.1 rfl (Nat.le_of_ble_eq_true rfl) dX1_weighRests_55 ⟨Nat.zero_le _, Nat.zero_le _⟩ (fun H locs hP hD hS => ?_)
              refine lv_istore (lv' := [(7, .int o_9), (0, .ref qt), (1, .ref qb1), (3, .int x3_4), (4, .int o_6), (5, .int x5_7), (6, .int x6_8)]) hx hb dX1_weighRests_58 hl (by decide) rfl (fun ls hl => ?_)
              refine lv_iload hx hb dX1_weighRests_60 (lv_at hl 0 rfl) ?_
              refine mr_if_lt (tgt := 81) hx hb hM dX1_weighRests_62 (by decide) (fun hM => ?_) (fun hM => ?_)
              · refine mr_iinc (k := 6) (d := 1) hx hb (fun x6_10 => [(6, .int x6_10), (7, .int o_9), (0, .ref qt), (1, .ref qb1), (3, .int x3_4), (4, .int o_6), (5, .int x5_7)]) hM (by decide) dX1_weighRests_81 hl rfl (by decide) (fun _ => rfl) (fun x6_10 hM ls hl => ?_)
                refine lv_goto (tgt := 39) hx hb dX1_weighRests_84 (by decide) ?_
                exact ih x5_7 x6_10 hM _ _ hP hD hS ls (lv_sub hl [2, 3, 4, 5, 6, 0] rfl)
              · refine lv_iload hx hb dX1_weighRests_65 (lv_at hl 5 rfl) ?_
                refine mr_jn hM (fun j77_11 => ∀ _u : Unit, j77_11 _u = some o → ∀ (H : Heap) (locs : List Loc), va_P D vwCl (w_Ord cI cB cZ cS cT qt qt_lets qt_ways qt_restCost qt_found qt_found_ones t_people t_lets t_ways t_restCost_5 t_found_length t_found_ones ++ w_Twn cI cB cZ cS cT qb1 qb1_kind qb1_father qb1_comes qb1_wants qb1_cost qb1_coins qb1_debts b1_people b1_law b1_counters b1_kind b1_father b1_comes b1_wants b1_cost b1_coins b1_debts) H → va_D A (w_Ord cI cB cZ cS cT qt qt_lets qt_ways qt_restCost qt_found qt_found_ones t_people t_lets t_ways t_restCost_5 t_found_length t_found_ones ++ w_Twn cI cB cZ cS cT qb1 qb1_kind qb1_father qb1_comes qb1_wants qb1_cost qb1_coins qb1_debts b1_people b1_law b1_counters b1_kind b1_father b1_comes b1_wants b1_cost b1_coins b1_debts) → va_S A s.heap H locs → ∀ ls : Array Slot, lv_has ls 8 [(0, .ref qt), (1, .ref qb1), (3, .int x3_4), (4, .int o_6), (6, .int x6_8), (7, .int o_9)] → W p l e rmX1_weighRests s m av below meth c H locs 0 0 Q (F0 m 77 ls [])) (fun _u hM H locs hP hD hS ls hl => ?_) (fun j77_11 hj77_11 hM => ?_)
                · refine lv_iload hx hb dX1_weighRests_77 (lv_at hl 5 rfl) ?_
                  refine lv_istore (lv' := [(5, .int o_9), (0, .ref qt), (1, .ref qb1), (3, .int x3_4), (4, .int o_6), (6, .int x6_8), (7, .int o_9)]) hx hb dX1_weighRests_79 hl (by decide) rfl (fun ls hl => ?_)
                  refine mr_iinc (k := 5) (d := 1) hx hb (fun x6_12 => [(6, .int x6_12), (5, .int o_9), (0, .ref qt), (1, .ref qb1), (3, .int x3_4), (4, .int o_6), (7, .int o_9)]) hM (by decide) dX1_weighRests_81 hl rfl (by decide) (fun _ => rfl) (fun x6_12 hM ls hl => ?_)
                  refine lv_goto (tgt := 39) hx hb dX1_weighRests_84 (by decide) ?_
                  exact ih o_9 x6_12 hM _ _ hP hD hS ls (lv_sub hl [2, 3, 4, 5, 1, 0] rfl)
                · refine mr_if_lt (tgt := 77) hx hb hM dX1_weighRests_67 (by decide) (fun hM => ?_) (fun hM => ?_)
                  · exact hj77_11 () hM _ _ hP hD hS ls (lv_sub hl [1, 2, 3, 4, 6, 0] rfl)
                  · refine lv_iload hx hb dX1_weighRests_70 (lv_at hl 0 rfl) ?_
                    refine lv_iload hx hb dX1_weighRests_72 (lv_at hl 5 rfl) ?_
                    refine mr_icmp_ge (tgt := 81) hx hb hM dX1_weighRests_74 (by decide) (fun hM => ?_) (fun hM => ?_)
                    · refine mr_iinc (k := 6) (d := 1) hx hb (fun x6_13 => [(6, .int x6_13), (7, .int o_9), (0, .ref qt), (1, .ref qb1), (3, .int x3_4), (4, .int o_6), (5, .int x5_7)]) hM (by decide) dX1_weighRests_81 hl rfl (by decide) (fun _ => rfl) (fun x6_13 hM ls hl => ?_)
                      refine lv_goto (tgt := 39) hx hb dX1_weighRests_84 (by decide) ?_
                      exact ih x5_7 x6_13 hM _ _ hP hD hS ls (lv_sub hl [2, 3, 4, 5, 6, 0] rfl)
                    · exact hj77_11 () hM _ _ hP hD hS ls (lv_sub hl [1, 2, 3, 4, 6, 0] rfl)
        refine hL39 _ (fun x5_14 hM H locs hP hD hS ls hl => ?_) _ (-4) 0 hM _ _ hP hD hS ls (lv_sub hl [3, 4, 5, 2, 1, 0] rfl)
        refine lv_aload_n hx hb dX1_weighRests_87 rfl (lv_at hl 0 rfl) ?_
        refine va_get (D := D) (ci := 1) (v := .ref qt_restCost) (C := RX1) (T := TX1) (N := 5) hx hb hts inX1w hown hK hP 0 rfl rfl 3 (by decide) hf18 (fun _ h9 => h9) rfl dX1_weighRests_88 ?_
        refine lv_iload_n hx hb dX1_weighRests_91 rfl (lv_at hl 2 rfl) ?_
        refine lv_iload hx hb dX1_weighRests_92 (lv_at hl 3 rfl) ?_
        refine mr_iast hx hb hK hP hD hS 3 0 (fun t_restCost_15 => (w_Ord cI cB cZ cS cT qt qt_lets qt_ways qt_restCost qt_found qt_found_ones t_people t_lets t_ways t_restCost_15 t_found_length t_found_ones ++ w_Twn cI cB cZ cS cT qb1 qb1_kind qb1_father qb1_comes qb1_wants qb1_cost qb1_coins qb1_debts b1_people b1_law b1_counters b1_kind b1_father b1_comes b1_wants b1_cost b1_coins b1_debts)) rfl rfl (fun _ => rfl) hM dX1_weighRests_94 (fun t_restCost_15 hM H locs hP hD hS => ?_)
        refine mr_iinc (k := 2) (d := (-1)) hx hb (fun x3_16 => [(3, .int x3_16), (0, .ref qt), (1, .ref qb1), (5, .int x5_14)]) hM (by decide) dX1_weighRests_95 hl rfl (by decide) (fun _ => rfl) (fun x3_16 hM ls hl => ?_)
        refine lv_goto (tgt := 20) hx hb dX1_weighRests_98 (by decide) ?_
        exact ih x3_16 t_restCost_15 hM _ _ hP hD hS ls (lv_sub hl [1, 2, 0] rfl)
  refine hL20 _ (fun t_restCost_17 hM H locs hP hD hS ls hl => ?_) _ x3_3 t_restCost_2 hM _ _ hP hD hS ls (lv_sub hl [2, 3, 0] rfl)
  have hM := Option.some.inj hM
  subst hM
  exact mr_vret hx hb hr hlocks hQ hP hD hS dX1_weighRests_101

abbrev rmX1_findBest : Room := { frames := 3, cells := 0, slots := 0, locals := 74 }
set_option maxHeartbeats 40000000 in
set_option maxRecDepth 100000 in
theorem k_Ord_findBest (l : Launch) (D : va_G) (cI cB cZ cS cT : ClassId) (qt qt_lets qt_ways qt_restCost qt_found qt_found_ones qb1 qb1_kind qb1_father qb1_comes qb1_wants qb1_cost qb1_coins qb1_debts : Nat) (t_people : Int32) (t_lets t_ways t_restCost : Nat → Int32) (t_found_length : Int32) (t_found_ones : Nat → Int32) (b1_people b1_law b1_counters : Int32) (b1_kind b1_father b1_comes b1_wants b1_cost b1_coins b1_debts : Nat → Int32)  (o : Int32 × (Nat → Int32) × Int32 × (Nat → Int32)) (hM : Ord_findBest t_people t_lets t_restCost t_found_length t_found_ones b1_wants b1_cost = some o) : mtI l yX1_findBest wsX1_findBest rmX1_findBest D (tys5 cI cB cZ cS cT) [.ref qt, .ref qb1] (w_Ord cI cB cZ cS cT qt qt_lets qt_ways qt_restCost qt_found qt_found_ones t_people t_lets t_ways t_restCost t_found_length t_found_ones ++ w_Twn cI cB cZ cS cT qb1 qb1_kind qb1_father qb1_comes qb1_wants qb1_cost qb1_coins qb1_debts b1_people b1_law b1_counters b1_kind b1_father b1_comes b1_wants b1_cost b1_coins b1_debts) (w_Ord cI cB cZ cS cT qt qt_lets qt_ways qt_restCost qt_found qt_found_ones t_people t_lets t_ways o.2.1 o.2.2.1 o.2.2.2 ++ w_Twn cI cB cZ cS cT qb1 qb1_kind qb1_father qb1_comes qb1_wants qb1_cost qb1_coins qb1_debts b1_people b1_law b1_counters b1_kind b1_father b1_comes b1_wants b1_cost b1_coins b1_debts) o.1 := by
  refine mtI.of (cc := cX1_findBest) (maxL := 7) (ret := (some .boolean)) (by decide) rfl (Nat.le_of_ble_eq_true rfl) ?_
  intro p e s m below meth c A Q av hav hQ hx hb hr hml hown hts hlocks hK hP hD hA hS ls hl
  have hown : s.vm.findClass RX1 = some m.cls := hown
  have hl : lv_has ls 7 [(0, .ref qt), (1, .ref qb1)] := hl
  unfold Ord_findBest at hM
  have inX1w : ∀ w ∈ u_ws RX1 TX1 5, w ∈ wsX1_findBest := by decide +kernel
  have inX3w : ∀ w ∈ u_ws RX3 TX3 2, w ∈ wsX1_findBest := by decide +kernel
  have hf18 := hts (.fieldLink RX1 18 "LetsIn$Orders" "restCost" "[I") (by decide +kernel)
  have hf24 := hts (.fieldLink RX1 24 "LetsIn$Orders" "found" "LLetsIn$Row;") (by decide +kernel)
  have hf42 := hts (.fieldLink RX1 42 "LetsIn$Row" "length" "I") (by decide +kernel)
  have hf34 := hts (.fieldLink RX1 34 "LetsIn$Orders" "people" "I") (by decide +kernel)
  refine lv_aload_n hx hb dX1_findBest_0 rfl (lv_at hl 0 rfl) ?_
  refine lv_aload_n hx hb dX1_findBest_1 rfl (lv_at hl 1 rfl) ?_
  obtain ⟨o_1, hc, hM⟩ := bind_so hM
  refine mr_callVv (As := [.ref qb1]) (rest := []) (wr := []) ⟨hx, hb, hml, hown, hts⟩ (k_Ord_weighRests l D cI cB cZ cS cT qt qt_lets qt_ways qt_restCost qt_found qt_found_ones qb1 qb1_kind qb1_father qb1_comes qb1_wants qb1_cost qb1_coins qb1_debts t_people t_lets t_ways t_restCost t_found_length t_found_ones b1_people b1_law b1_counters b1_kind b1_father b1_comes b1_wants b1_cost b1_coins b1_debts  _ hc) (cwV 1 hts gX1_findBest_X1_weighRests rfl rfl rfl (by decide +kernel) ⟨Nat.le_of_ble_eq_true rfl, Nat.le_of_ble_eq_true rfl⟩) hK hP hD hS hA [0, 1, 2, 3, 4, 5, 6, 7, 8, 9, 10, 11, 12, 13] [] [0, 1, 2, 3, 4, 5, 6, 7, 8, 9, 10, 11, 12, 13] (w_Ord cI cB cZ cS cT qt qt_lets qt_ways qt_restCost qt_found qt_found_ones t_people t_lets t_ways o_1 t_found_length t_found_ones ++ w_Twn cI cB cZ cS cT qb1 qb1_kind qb1_father qb1_comes qb1_wants qb1_cost qb1_coins qb1_debts b1_people b1_law b1_counters b1_kind b1_father b1_comes b1_wants b1_cost b1_coins b1_debts) rfl rfl rfl rfl (by decide) rfl rfl 1 0 rfl rfl rfl rfl hl.1 rfl (Nat.le_of_ble_eq_true rfl) dX1_findBest_2 ⟨Nat.zero_le _, Nat.zero_le _⟩ (fun H locs hP hD hS => ?_)
  refine lv_aload_n hx hb dX1_findBest_5 rfl (lv_at hl 0 rfl) ?_
  refine va_get (D := D) (ci := 1) (v := .ref qt_restCost) (C := RX1) (T := TX1) (N := 5) hx hb hts inX1w hown hK hP 0 rfl rfl 3 (by decide) hf18 (fun _ h9 => h9) rfl dX1_findBest_6 ?_
  refine lv_iconst (v := 0) hx hb dX1_findBest_9 (by decide) ?_
  refine mr_iald hx hb hK hP 3 0 rfl rfl hM dX1_findBest_10 (fun v_2 hM => ?_)
  refine mr_if_ge (tgt := 16) hx hb hM dX1_findBest_11 (by decide) (fun hM => ?_) (fun hM => ?_)
  · refine lv_aload_n hx hb dX1_findBest_16 rfl (lv_at hl 0 rfl) ?_
    refine va_get (D := D) (ci := 1) (v := .ref qt_found) (C := RX1) (T := TX1) (N := 5) hx hb hts inX1w hown hK hP 0 rfl rfl 4 (by decide) hf24 (fun _ h9 => h9) rfl dX1_findBest_17 ?_
    refine lv_iconst (v := 0) hx hb dX1_findBest_20 (by decide) ?_
    refine mr_put (D := D) (ci := 3) (v := .int 0) (ty := .int) (C := RX3) (T := TX3) (N := 2) hx hb hts inX3w tyX3 tyX3_ok nmX3 hown hK hP hD hS 4 rfl rfl 1 (by decide) hf42 (fun _ h9 => h9) rfl (by decide +kernel) rfl rfl (Nat.le_of_ble_eq_true rfl) dX1_findBest_21 (w_Ord cI cB cZ cS cT qt qt_lets qt_ways qt_restCost qt_found qt_found_ones t_people t_lets t_ways o_1 0 t_found_ones ++ w_Twn cI cB cZ cS cT qb1 qb1_kind qb1_father qb1_comes qb1_wants qb1_cost qb1_coins qb1_debts b1_people b1_law b1_counters b1_kind b1_father b1_comes b1_wants b1_cost b1_coins b1_debts) rfl (fun H locs hP hD hS => ?_)
    refine lv_iconst (v := 0) hx hb dX1_findBest_24 (by decide) ?_
    refine lv_istore_n (lv' := [(2, .int 0), (0, .ref qt), (1, .ref qb1)]) hx hb dX1_findBest_25 rfl hl (by decide) rfl (fun ls hl => ?_)
    refine lv_iconst (v := 0) hx hb dX1_findBest_26 (by decide) ?_
    refine lv_istore_n (lv' := [(3, .int 0), (2, .int 0), (0, .ref qt), (1, .ref qb1)]) hx hb dX1_findBest_27 rfl hl (by decide) rfl (fun ls hl => ?_)
    have hL28 : ∀ (K95 : Int32 → (Nat → Int32) → Option (Int32 × (Nat → Int32) × Int32 × (Nat → Int32))) (K119 : Int32 → (Nat → Int32) → Option (Int32 × (Nat → Int32) × Int32 × (Nat → Int32))), (∀ (t_found_length_19 : Int32) (t_found_ones_20 : Nat → Int32), K95 t_found_length_19 t_found_ones_20 = some o → ∀ (H : Heap) (locs : List Loc), va_P D vwCl (w_Ord cI cB cZ cS cT qt qt_lets qt_ways qt_restCost qt_found qt_found_ones t_people t_lets t_ways o_1 t_found_length_19 t_found_ones_20 ++ w_Twn cI cB cZ cS cT qb1 qb1_kind qb1_father qb1_comes qb1_wants qb1_cost qb1_coins qb1_debts b1_people b1_law b1_counters b1_kind b1_father b1_comes b1_wants b1_cost b1_coins b1_debts) H → va_D A (w_Ord cI cB cZ cS cT qt qt_lets qt_ways qt_restCost qt_found qt_found_ones t_people t_lets t_ways o_1 t_found_length_19 t_found_ones_20 ++ w_Twn cI cB cZ cS cT qb1 qb1_kind qb1_father qb1_comes qb1_wants qb1_cost qb1_coins qb1_debts b1_people b1_law b1_counters b1_kind b1_father b1_comes b1_wants b1_cost b1_coins b1_debts) → va_S A s.heap H locs → ∀ ls : Array Slot, lv_has ls 7 [] → W p l e rmX1_findBest s m av below meth c H locs 0 0 Q (F0 m 95 ls [])) → (∀ (t_found_length_21 : Int32) (t_found_ones_22 : Nat → Int32), K119 t_found_length_21 t_found_ones_22 = some o → ∀ (H : Heap) (locs : List Loc), va_P D vwCl (w_Ord cI cB cZ cS cT qt qt_lets qt_ways qt_restCost qt_found qt_found_ones t_people t_lets t_ways o_1 t_found_length_21 t_found_ones_22 ++ w_Twn cI cB cZ cS cT qb1 qb1_kind qb1_father qb1_comes qb1_wants qb1_cost qb1_coins qb1_debts b1_people b1_law b1_counters b1_kind b1_father b1_comes b1_wants b1_cost b1_coins b1_debts) H → va_D A (w_Ord cI cB cZ cS cT qt qt_lets qt_ways qt_restCost qt_found qt_found_ones t_people t_lets t_ways o_1 t_found_length_21 t_found_ones_22 ++ w_Twn cI cB cZ cS cT qb1 qb1_kind qb1_father qb1_comes qb1_wants qb1_cost qb1_coins qb1_debts b1_people b1_law b1_counters b1_kind b1_father b1_comes b1_wants b1_cost b1_coins b1_debts) → va_S A s.heap H locs → ∀ ls : Array Slot, lv_has ls 7 [] → W p l e rmX1_findBest s m av below meth c H locs 0 0 Q (F0 m 119 ls [])) → ∀ (n : Nat) (x2_3 x3_4 t_found_length_5 : Int32) (t_found_ones_6 : Nat → Int32), Ord_findBest_L28 t_people t_lets b1_wants b1_cost o_1 K95 K119 n x2_3 x3_4 t_found_length_5 t_found_ones_6 = some o → ∀ (H : Heap) (locs : List Loc), va_P D vwCl (w_Ord cI cB cZ cS cT qt qt_lets qt_ways qt_restCost qt_found qt_found_ones t_people t_lets t_ways o_1 t_found_length_5 t_found_ones_6 ++ w_Twn cI cB cZ cS cT qb1 qb1_kind qb1_father qb1_comes qb1_wants qb1_cost qb1_coins qb1_debts b1_people b1_law b1_counters b1_kind b1_father b1_comes b1_wants b1_cost b1_coins b1_debts) H → va_D A (w_Ord cI cB cZ cS cT qt qt_lets qt_ways qt_restCost qt_found qt_found_ones t_people t_lets t_ways o_1 t_found_length_5 t_found_ones_6 ++ w_Twn cI cB cZ cS cT qb1 qb1_kind qb1_father qb1_comes qb1_wants qb1_cost qb1_coins qb1_debts b1_people b1_law b1_counters b1_kind b1_father b1_comes b1_wants b1_cost b1_coins b1_debts) → va_S A s.heap H locs → ∀ ls : Array Slot, lv_has ls 7 [(0, .ref qt), (1, .ref qb1), (2, .int x2_3), (3, .int x3_4)] → W p l e rmX1_findBest s m av below meth c H locs 0 0 Q (F0 m 28 ls []) := by
      intro K95 K119 hK95 hK119 n
      induction n with
      | zero =>
        intro x2_3 x3_4 t_found_length_5 t_found_ones_6 hM
        rw [Ord_findBest_L28] at hM
        cases hM
      | succ n ih =>
        intro x2_3 x3_4 t_found_length_5 t_found_ones_6 hM H locs hP hD hS ls hl
        rw [Ord_findBest_L28] at hM
        refine lv_iload_n hx hb dX1_findBest_28 rfl (lv_at hl 3 rfl) ?_
        refine lv_aload_n hx hb dX1_findBest_29 rfl (lv_at hl 0 rfl) ?_
        refine va_get (D := D) (ci := 1) (v := .int t_people) (C := RX1) (T := TX1) (N := 5) hx hb hts inX1w hown hK hP 0 rfl rfl 0 (by decide) hf34 (fun _ h9 => h9) rfl dX1_findBest_30 ?_
        refine mr_icmp_ge (tgt := 119) hx hb hM dX1_findBest_33 (by decide) (fun hM => ?_) (fun hM => ?_)
        · exact hK119 t_found_length_5 t_found_ones_6 hM _ _ hP hD hS ls (lv_sub hl [] rfl)
        · refine lv_aload_n hx hb dX1_findBest_36 rfl (lv_at hl 0 rfl) ?_
          refine lv_aload_n hx hb dX1_findBest_37 rfl (lv_at hl 1 rfl) ?_
          refine lv_iload_n hx hb dX1_findBest_38 rfl (lv_at hl 2 rfl) ?_
          obtain ⟨o_7, hc, hM⟩ := bind_so hM
          refine mr_callVi (As := [.ref qb1, .int x2_3]) (rest := []) (wr := []) ⟨hx, hb, hml, hown, hts⟩ (k_Ord_minutesOf l D cI cB cZ cS cT qt qt_lets qt_ways qt_restCost qt_found qt_found_ones qb1 qb1_kind qb1_father qb1_comes qb1_wants qb1_cost qb1_coins qb1_debts t_people t_lets t_ways o_1 t_found_length_5 t_found_ones_6 b1_people b1_law b1_counters b1_kind b1_father b1_comes b1_wants b1_cost b1_coins b1_debts x2_3 _ hc) (cwV 2 hts gX1_findBest_X1_minutesOf rfl rfl rfl (by decide +kernel) ⟨Nat.le_of_ble_eq_true rfl, Nat.le_of_ble_eq_true rfl⟩) hK hP hD hS hA [0, 1, 2, 3, 4, 5, 6, 7, 8, 9, 10, 11, 12, 13] [] [0, 1, 2, 3, 4, 5, 6, 7, 8, 9, 10, 11, 12, 13] (w_Ord cI cB cZ cS cT qt qt_lets qt_ways qt_restCost qt_found qt_found_ones t_people t_lets t_ways o_1 t_found_length_5 t_found_ones_6 ++ w_Twn cI cB cZ cS cT qb1 qb1_kind qb1_father qb1_comes qb1_wants qb1_cost qb1_coins qb1_debts b1_people b1_law b1_counters b1_kind b1_father b1_comes b1_wants b1_cost b1_coins b1_debts) rfl rfl rfl rfl (by decide) rfl rfl 1 0 rfl rfl rfl rfl hl.1 rfl (Nat.le_of_ble_eq_true rfl) dX1_findBest_39 ⟨Nat.zero_le _, Nat.zero_le _⟩ (fun H locs hP hD hS => ?_)
          refine lv_istore (lv' := [(4, .int o_7), (0, .ref qt), (1, .ref qb1), (2, .int x2_3), (3, .int x3_4)]) hx hb dX1_findBest_42 hl (by decide) rfl (fun ls hl => ?_)
          refine lv_bipush (v := (-4)) hx hb dX1_findBest_44 (by decide) ?_
          refine lv_istore (lv' := [(5, .int (-4)), (4, .int o_7), (0, .ref qt), (1, .ref qb1), (2, .int x2_3), (3, .int x3_4)]) hx hb dX1_findBest_46 hl (by decide) rfl (fun ls hl => ?_)
          refine lv_aload_n hx hb dX1_findBest_48 rfl (lv_at hl 2 rfl) ?_
          refine va_get (D := D) (ci := 1) (v := .int t_people) (C := RX1) (T := TX1) (N := 5) hx hb hts inX1w hown hK hP 0 rfl rfl 0 (by decide) hf34 (fun _ h9 => h9) rfl dX1_findBest_49 ?_
          refine lv_iconst (v := 1) hx hb dX1_findBest_52 (by decide) ?_
          refine lv_isub hx hb dX1_findBest_53 ?_
          refine mr_nmI hM (fun x6_8 hM => ?_)
          refine lv_istore (lv' := [(6, .int x6_8), (5, .int (-4)), (4, .int o_7), (0, .ref qt), (1, .ref qb1), (2, .int x2_3), (3, .int x3_4)]) hx hb dX1_findBest_54 hl (by decide) rfl (fun ls hl => ?_)
          have hL56 : ∀ (K90 : Int32 → Option (Int32 × (Nat → Int32) × Int32 × (Nat → Int32))), (∀ (x5_15 : Int32), K90 x5_15 = some o → ∀ (H : Heap) (locs : List Loc), va_P D vwCl (w_Ord cI cB cZ cS cT qt qt_lets qt_ways qt_restCost qt_found qt_found_ones t_people t_lets t_ways o_1 t_found_length_5 t_found_ones_6 ++ w_Twn cI cB cZ cS cT qb1 qb1_kind qb1_father qb1_comes qb1_wants qb1_cost qb1_coins qb1_debts b1_people b1_law b1_counters b1_kind b1_father b1_comes b1_wants b1_cost b1_coins b1_debts) H → va_D A (w_Ord cI cB cZ cS cT qt qt_lets qt_ways qt_restCost qt_found qt_found_ones t_people t_lets t_ways o_1 t_found_length_5 t_found_ones_6 ++ w_Twn cI cB cZ cS cT qb1 qb1_kind qb1_father qb1_comes qb1_wants qb1_cost qb1_coins qb1_debts b1_people b1_law b1_counters b1_kind b1_father b1_comes b1_wants b1_cost b1_coins b1_debts) → va_S A s.heap H locs → ∀ ls : Array Slot, lv_has ls 7 [(0, .ref qt), (1, .ref qb1), (2, .int x2_3), (3, .int x3_4), (5, .int x5_15)] → W p l e rmX1_findBest s m av below meth c H locs 0 0 Q (F0 m 90 ls [])) → ∀ (n : Nat) (x5_9 x6_10 : Int32), Ord_findBest_L56 t_lets b1_cost o_1 x2_3 o_7 K90 n x5_9 x6_10 = some o → ∀ (H : Heap) (locs : List Loc), va_P D vwCl (w_Ord cI cB cZ cS cT qt qt_lets qt_ways qt_restCost qt_found qt_found_ones t_people t_lets t_ways o_1 t_found_length_5 t_found_ones_6 ++ w_Twn cI cB cZ cS cT qb1 qb1_kind qb1_father qb1_comes qb1_wants qb1_cost qb1_coins qb1_debts b1_people b1_law b1_counters b1_kind b1_father b1_comes b1_wants b1_cost b1_coins b1_debts) H → va_D A (w_Ord cI cB cZ cS cT qt qt_lets qt_ways qt_restCost qt_found qt_found_ones t_people t_lets t_ways o_1 t_found_length_5 t_found_ones_6 ++ w_Twn cI cB cZ cS cT qb1 qb1_kind qb1_father qb1_comes qb1_wants qb1_cost qb1_coins qb1_debts b1_people b1_law b1_counters b1_kind b1_father b1_comes b1_wants b1_cost b1_coins b1_debts) → va_S A s.heap H locs → ∀ ls : Array Slot, lv_has ls 7 [(0, .ref qt), (1, .ref qb1), (2, .int x2_3), (3, .int x3_4), (4, .int o_7), (5, .int x5_9), (6, .int x6_10)] → W p l e rmX1_findBest s m av below meth c H locs 0 0 Q (F0 m 56 ls []) := by
            intro K90 hK90 n
            induction n with
            | zero =>
              intro x5_9 x6_10 hM
              rw [Ord_findBest_L56] at hM
              cases hM
            | succ n ih =>
              intro x5_9 x6_10 hM H locs hP hD hS ls hl
              rw [Ord_findBest_L56] at hM
              refine lv_iload hx hb dX1_findBest_56 (lv_at hl 6 rfl) ?_
              refine mr_if_lt (tgt := 90) hx hb hM dX1_findBest_58 (by decide) (fun hM => ?_) (fun hM => ?_)
              · exact hK90 x5_9 hM _ _ hP hD hS ls (lv_sub hl [0, 1, 2, 3, 5] rfl)
              · refine lv_aload_n hx hb dX1_findBest_61 rfl (lv_at hl 0 rfl) ?_
                refine lv_aload_n hx hb dX1_findBest_62 rfl (lv_at hl 1 rfl) ?_
                refine lv_iload hx hb dX1_findBest_63 (lv_at hl 6 rfl) ?_
                refine lv_iload_n hx hb dX1_findBest_65 rfl (lv_at hl 2 rfl) ?_
                refine lv_iload hx hb dX1_findBest_66 (lv_at hl 4 rfl) ?_
                obtain ⟨o_11, hc, hM⟩ := bind_so hM
                refine mr_callVi (As := [.ref qb1, .int x6_10, .int x2_3, .int o_7]) (rest := []) (wr := []) ⟨hx, hb, hml, hown, hts⟩ (k_Ord_costWith l D cI cB cZ cS cT qt qt_lets qt_ways qt_restCost qt_found qt_found_ones qb1 qb1_kind qb1_father qb1_comes qb1_wants qb1_cost qb1_coins qb1_debts t_people t_lets t_ways o_1 t_found_length_5 t_found_ones_6 b1_people b1_law b1_counters b1_kind b1_father b1_comes b1_wants b1_cost b1_coins b1_debts x6_10 x2_3 o_7 _ hc) (cwV 4 hts gX1_findBest_X1_costWith rfl rfl rfl (by decide +kernel) ⟨Nat.le_of_ble_eq_true rfl, Nat.le_of_ble_eq_true rfl⟩) hK hP hD hS hA [0, 1, 2, 3, 4, 5, 6, 7, 8, 9, 10, 11, 12, 13] [] [0, 1, 2, 3, 4, 5, 6, 7, 8, 9, 10, 11, 12, 13] (w_Ord cI cB cZ cS cT qt qt_lets qt_ways qt_restCost qt_found qt_found_ones t_people t_lets t_ways o_1 t_found_length_5 t_found_ones_6 ++ w_Twn cI cB cZ cS cT qb1 qb1_kind qb1_father qb1_comes qb1_wants qb1_cost qb1_coins qb1_debts b1_people b1_law b1_counters b1_kind b1_father b1_comes b1_wants b1_cost b1_coins b1_debts) rfl rfl rfl rfl (by decide) rfl rfl 1 0 rfl rfl rfl rfl hl.1 rfl (Nat.le_of_ble_eq_true rfl) dX1_findBest_68 ⟨Nat.zero_le _, Nat.zero_le _⟩ (fun H locs hP hD hS => ?_)
                refine lv_aload_n hx hb dX1_findBest_71 rfl (lv_at hl 0 rfl) ?_
                refine va_get (D := D) (ci := 1) (v := .ref qt_restCost) (C := RX1) (T := TX1) (N := 5) hx hb hts inX1w hown hK hP 0 rfl rfl 3 (by decide) hf18 (fun _ h9 => h9) rfl dX1_findBest_72 ?_
                refine lv_iload_n hx hb dX1_findBest_75 rfl (lv_at hl 2 rfl) ?_
                refine mr_iald hx hb hK hP 3 0 rfl rfl hM dX1_findBest_76 (fun v_12 hM => ?_)
                refine mr_icmp_ne (tgt := 84) hx hb hM dX1_findBest_77 (by decide) (fun hM => ?_) (fun hM => ?_)
                · refine mr_iinc (k := 6) (d := (-1)) hx hb (fun x6_13 => [(6, .int x6_13), (0, .ref qt), (1, .ref qb1), (2, .int x2_3), (3, .int x3_4), (4, .int o_7), (5, .int x5_9)]) hM (by decide) dX1_findBest_84 hl rfl (by decide) (fun _ => rfl) (fun x6_13 hM ls hl => ?_)
                  refine lv_goto (tgt := 56) hx hb dX1_findBest_87 (by decide) ?_
                  exact ih x5_9 x6_13 hM _ _ hP hD hS ls (lv_sub hl [1, 2, 3, 4, 5, 6, 0] rfl)
                · refine lv_iload hx hb dX1_findBest_80 (lv_at hl 6 rfl) ?_
                  refine lv_istore (lv' := [(5, .int x6_10), (0, .ref qt), (1, .ref qb1), (2, .int x2_3), (3, .int x3_4), (4, .int o_7), (6, .int x6_10)]) hx hb dX1_findBest_82 hl (by decide) rfl (fun ls hl => ?_)
                  refine mr_iinc (k := 6) (d := (-1)) hx hb (fun x6_14 => [(6, .int x6_14), (5, .int x6_10), (0, .ref qt), (1, .ref qb1), (2, .int x2_3), (3, .int x3_4), (4, .int o_7)]) hM (by decide) dX1_findBest_84 hl rfl (by decide) (fun _ => rfl) (fun x6_14 hM ls hl => ?_)
                  refine lv_goto (tgt := 56) hx hb dX1_findBest_87 (by decide) ?_
                  exact ih x6_10 x6_14 hM _ _ hP hD hS ls (lv_sub hl [2, 3, 4, 5, 6, 1, 0] rfl)
          refine hL56 _ (fun x5_15 hM H locs hP hD hS ls hl => ?_) _ (-4) x6_8 hM _ _ hP hD hS ls (lv_sub hl [3, 4, 5, 6, 2, 1, 0] rfl)
          refine lv_iload hx hb dX1_findBest_90 (lv_at hl 4 rfl) ?_
          refine mr_if_ge (tgt := 97) hx hb hM dX1_findBest_92 (by decide) (fun hM => ?_) (fun hM => ?_)
          · refine lv_aload_n hx hb dX1_findBest_97 rfl (lv_at hl 0 rfl) ?_
            refine va_get (D := D) (ci := 1) (v := .ref qt_found) (C := RX1) (T := TX1) (N := 5) hx hb hts inX1w hown hK hP 0 rfl rfl 4 (by decide) hf24 (fun _ h9 => h9) rfl dX1_findBest_98 ?_
            refine lv_iload hx hb dX1_findBest_101 (lv_at hl 4 rfl) ?_
            obtain ⟨o_16, hc, hM⟩ := bind_so hM
            refine mr_callVv (As := [.int x5_15]) (rest := []) (wr := [(qt, .inr (1, [.int t_people, .ref qt_lets, .ref qt_ways, .ref qt_restCost, .ref qt_found])), (qt_lets, .inl (cI, 7, .inl t_lets)), (qt_ways, .inl (cI, 128, .inl t_ways)), (qt_restCost, .inl (cI, 128, .inl o_1)), (qb1, .inr (7, [.int b1_people, .int b1_law, .int b1_counters, .ref qb1_kind, .ref qb1_father, .ref qb1_comes, .ref qb1_wants, .ref qb1_cost, .ref qb1_coins, .ref qb1_debts])), (qb1_kind, .inl (cI, 7, .inl b1_kind)), (qb1_father, .inl (cI, 7, .inl b1_father)), (qb1_comes, .inl (cI, 7, .inl b1_comes)), (qb1_wants, .inl (cI, 7, .inl b1_wants)), (qb1_cost, .inl (cI, 7, .inl b1_cost)), (qb1_coins, .inl (cI, 7, .inl b1_coins)), (qb1_debts, .inl (cI, 49, .inl b1_debts))]) ⟨hx, hb, hml, hown, hts⟩ (k_Row_add l D cI cB cZ cS cT qt_found qt_found_ones t_found_length_5 t_found_ones_6 x5_15 _ hc) (cwV 1 hts gX1_findBest_X3_add rfl rfl rfl (by decide +kernel) ⟨Nat.le_of_ble_eq_true rfl, Nat.le_of_ble_eq_true rfl⟩) hK hP hD hS hA [4, 5] [0, 1, 2, 3, 6, 7, 8, 9, 10, 11, 12, 13] [0, 1, 2, 3, 12, 13, 4, 5, 6, 7, 8, 9, 10, 11] (w_Ord cI cB cZ cS cT qt qt_lets qt_ways qt_restCost qt_found qt_found_ones t_people t_lets t_ways o_1 o_16.1 o_16.2 ++ w_Twn cI cB cZ cS cT qb1 qb1_kind qb1_father qb1_comes qb1_wants qb1_cost qb1_coins qb1_debts b1_people b1_law b1_counters b1_kind b1_father b1_comes b1_wants b1_cost b1_coins b1_debts) rfl rfl rfl rfl (by decide) rfl rfl 3 0 rfl rfl rfl rfl hl.1 rfl (Nat.le_of_ble_eq_true rfl) dX1_findBest_103 ⟨Nat.zero_le _, Nat.zero_le _⟩ (fun H locs hP hD hS => ?_)
            refine lv_iload_n hx hb dX1_findBest_106 rfl (lv_at hl 2 rfl) ?_
            refine lv_iconst (v := 1) hx hb dX1_findBest_107 (by decide) ?_
            refine lv_iload hx hb dX1_findBest_108 (lv_at hl 4 rfl) ?_
            refine lv_ishl hx hb dX1_findBest_110 ?_
            refine lv_ior hx hb dX1_findBest_111 ?_
            refine mr_nmI hM (fun x2_17 hM => ?_)
            refine lv_istore_n (lv' := [(2, .int x2_17), (0, .ref qt), (1, .ref qb1), (3, .int x3_4), (5, .int x5_15)]) hx hb dX1_findBest_112 rfl hl (by decide) rfl (fun ls hl => ?_)
            refine mr_iinc (k := 3) (d := 1) hx hb (fun x3_18 => [(3, .int x3_18), (2, .int x2_17), (0, .ref qt), (1, .ref qb1), (5, .int x5_15)]) hM (by decide) dX1_findBest_113 hl rfl (by decide) (fun _ => rfl) (fun x3_18 hM ls hl => ?_)
            refine lv_goto (tgt := 28) hx hb dX1_findBest_116 (by decide) ?_
            exact ih x2_17 x3_18 o_16.1 o_16.2 hM _ _ hP hD hS ls (lv_sub hl [2, 3, 1, 0] rfl)
          · exact hK95 t_found_length_5 t_found_ones_6 hM _ _ hP hD hS ls (lv_sub hl [] rfl)
    refine hL28 _ _ (fun t_found_length_19 t_found_ones_20 hM H locs hP hD hS ls hl => ?_) (fun t_found_length_21 t_found_ones_22 hM H locs hP hD hS ls hl => ?_) _ 0 0 0 t_found_ones hM _ _ hP hD hS ls (lv_sub hl [2, 3, 1, 0] rfl)
    · refine lv_iconst (v := 0) hx hb dX1_findBest_95 (by decide) ?_
      have hM := Option.some.inj hM
      subst hM
      exact mr_zret hx hb hr (by decide) hlocks hQ hP hD hS rfl dX1_findBest_96
    · refine lv_iconst (v := 1) hx hb dX1_findBest_119 (by decide) ?_
      have hM := Option.some.inj hM
      subst hM
      exact mr_zret hx hb hr (by decide) hlocks hQ hP hD hS rfl dX1_findBest_120
  · refine lv_iconst (v := 0) hx hb dX1_findBest_14 (by decide) ?_
    have hM := Option.some.inj hM
    subst hM
    exact mr_zret hx hb hr (by decide) hlocks hQ hP hD hS rfl dX1_findBest_15

abbrev rmX1_leastCost : Room := { frames := 0, cells := 0, slots := 0, locals := 0 }
set_option maxHeartbeats 40000000 in
set_option maxRecDepth 100000 in
theorem k_Ord_leastCost (l : Launch) (D : va_G) (cI cB cZ cS cT : ClassId) (qt qt_lets qt_ways qt_restCost qt_found qt_found_ones : Nat) (t_people : Int32) (t_lets t_ways t_restCost : Nat → Int32) (t_found_length : Int32) (t_found_ones : Nat → Int32)  (o : Int32) (hM : Ord_leastCost t_restCost = some o) : mtI l yX1_leastCost wsX1_leastCost rmX1_leastCost D (tys5 cI cB cZ cS cT) [.ref qt] (w_Ord cI cB cZ cS cT qt qt_lets qt_ways qt_restCost qt_found qt_found_ones t_people t_lets t_ways t_restCost t_found_length t_found_ones) (w_Ord cI cB cZ cS cT qt qt_lets qt_ways qt_restCost qt_found qt_found_ones t_people t_lets t_ways t_restCost t_found_length t_found_ones) o := by
  refine mtI.of (cc := cX1_leastCost) (maxL := 1) (ret := (some .int)) (by decide) rfl (Nat.le_of_ble_eq_true rfl) ?_
  intro p e s m below meth c A Q av hav hQ hx hb hr hml hown hts hlocks hK hP hD hA hS ls hl
  have hown : s.vm.findClass RX1 = some m.cls := hown
  have hl : lv_has ls 1 [(0, .ref qt)] := hl
  unfold Ord_leastCost at hM
  have inX1w : ∀ w ∈ u_ws RX1 TX1 5, w ∈ wsX1_leastCost := by decide +kernel
  have hf18 := hts (.fieldLink RX1 18 "LetsIn$Orders" "restCost" "[I") (by decide +kernel)
  refine lv_aload_n hx hb dX1_leastCost_0 rfl (lv_at hl 0 rfl) ?_
  refine va_get (D := D) (ci := 1) (v := .ref qt_restCost) (C := RX1) (T := TX1) (N := 5) hx hb hts inX1w hown hK hP 0 rfl rfl 3 (by decide) hf18 (fun _ h9 => h9) rfl dX1_leastCost_1 ?_
  refine lv_iconst (v := 0) hx hb dX1_leastCost_4 (by decide) ?_
  refine mr_iald hx hb hK hP 3 0 rfl rfl hM dX1_leastCost_5 (fun v_1 hM => ?_)
  have hM := Option.some.inj hM
  subst hM
  exact mr_iret hx hb hr hlocks hQ hP hD hS rfl dX1_leastCost_6
