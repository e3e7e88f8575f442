abbrev rmX4_load : Room := { frames := 2, cells := 0, slots := 0, locals := 69 }
set_option maxHeartbeats 40000000 in
set_option maxRecDepth 100000 in
theorem k_Run_load (l : Launch) (D : va_G) (cI cB cZ cS cT : ClassId) (qt qt_town qt_town_kind qt_town_father qt_town_comes qt_town_wants qt_town_cost qt_town_coins qt_town_debts qt_waiting qt_waiting_ones qt_served qt_freeFrom qb1 qb1_kind qb1_father qb1_comes qb1_wants qb1_cost qb1_coins qb1_debts : Nat) (t_paid t_town_people t_town_law t_town_counters : Int32) (t_town_kind t_town_father t_town_comes t_town_wants t_town_cost t_town_coins t_town_debts : Nat → Int32) (t_waiting_length : Int32) (t_waiting_ones t_served t_freeFrom : Nat → Int32) (b1_people b1_law b1_counters : Int32) (b1_kind b1_father b1_comes b1_wants b1_cost b1_coins b1_debts : Nat → Int32)  (o : Int32 × Int32 × Int32 × Int32 × (Nat → Int32) × (Nat → Int32) × (Nat → Int32) × (Nat → Int32) × (Nat → Int32) × (Nat → Int32) × (Nat → Int32) × Int32 × (Nat → Int32)) (hM : Run_load t_town_kind t_town_father t_town_comes t_town_wants t_town_cost t_town_coins t_town_debts t_freeFrom b1_people b1_law b1_counters b1_kind b1_father b1_comes b1_wants b1_cost b1_coins b1_debts = some o) : mtV l yX4_load wsX4_load rmX4_load D (tys5 cI cB cZ cS cT) [.ref qt, .ref qb1] (w_Run cI cB cZ cS cT qt qt_town qt_town_kind qt_town_father qt_town_comes qt_town_wants qt_town_cost qt_town_coins qt_town_debts qt_waiting qt_waiting_ones qt_served qt_freeFrom t_paid t_town_people t_town_law t_town_counters t_town_kind t_town_father t_town_comes t_town_wants t_town_cost t_town_coins t_town_debts t_waiting_length t_waiting_ones t_served t_freeFrom ++ w_Twn cI cB cZ cS cT qb1 qb1_kind qb1_father qb1_comes qb1_wants qb1_cost qb1_coins qb1_debts b1_people b1_law b1_counters b1_kind b1_father b1_comes b1_wants b1_cost b1_coins b1_debts) (w_Run cI cB cZ cS cT qt qt_town qt_town_kind qt_town_father qt_town_comes qt_town_wants qt_town_cost qt_town_coins qt_town_debts qt_waiting qt_waiting_ones qt_served qt_freeFrom o.1 o.2.1 o.2.2.1 o.2.2.2.1 o.2.2.2.2.1 o.2.2.2.2.2.1 o.2.2.2.2.2.2.1 o.2.2.2.2.2.2.2.1 o.2.2.2.2.2.2.2.2.1 o.2.2.2.2.2.2.2.2.2.1 o.2.2.2.2.2.2.2.2.2.2.1 o.2.2.2.2.2.2.2.2.2.2.2.1 t_waiting_ones t_served o.2.2.2.2.2.2.2.2.2.2.2.2 ++ w_Twn cI cB cZ cS cT qb1 qb1_kind qb1_father qb1_comes qb1_wants qb1_cost qb1_coins qb1_debts b1_people b1_law b1_counters b1_kind b1_father b1_comes b1_wants b1_cost b1_coins b1_debts) := by
  refine mtV.of (cc := cX4_load) (maxL := 2) (ret := none) (by decide) rfl (Nat.le_of_ble_eq_true rfl) ?_
  intro p e s m below meth c A Q av hav hQ hx hb hr hml hown hts hlocks hK hP hD hA hS ls hl
  have hown : s.vm.findClass RX4 = some m.cls := hown
  have hl : lv_has ls 2 [(0, .ref qt), (1, .ref qb1)] := hl
  unfold Run_load at hM
  have inX3w : ∀ w ∈ u_ws RX3 TX3 2, w ∈ wsX4_load := by decide +kernel
  have inX4w : ∀ w ∈ u_ws RX4 TX4 5, w ∈ wsX4_load := by decide +kernel
  have hf12 := hts (.fieldLink RX4 12 "LetsIn$Run" "town" "LLetsIn$Town;") (by decide +kernel)
  have hf21 := hts (.fieldLink RX4 21 "LetsIn$Run" "waiting" "LLetsIn$Row;") (by decide +kernel)
  have hf36 := hts (.fieldLink RX4 36 "LetsIn$Row" "length" "I") (by decide +kernel)
  have hf29 := hts (.fieldLink RX4 29 "LetsIn$Run" "freeFrom" "[I") (by decide +kernel)
  have hf40 := hts (.fieldLink RX4 40 "LetsIn$Run" "paid" "I") (by decide +kernel)
  refine lv_aload_n hx hb dX4_load_0 rfl (lv_at hl 0 rfl) ?_
  refine va_get (D := D) (ci := 4) (v := .ref qt_town) (C := RX4) (T := TX4) (N := 5) hx hb hts inX4w hown hK hP 0 rfl rfl 0 (by decide) hf12 (fun _ h9 => h9) rfl dX4_load_1 ?_
  refine lv_aload_n hx hb dX4_load_4 rfl (lv_at hl 1 rfl) ?_
  obtain ⟨o_1, hc, hM⟩ := bind_so hM
  refine mr_callVv (As := [.ref qb1]) (rest := []) (wr := [(qt, .inr (4, [.ref qt_town, .ref qt_waiting, .ref qt_served, .ref qt_freeFrom, .int t_paid])), (qt_waiting, .inr (3, [.ref qt_waiting_ones, .int t_waiting_length])), (qt_waiting_ones, .inl (cI, 7, .inl t_waiting_ones)), (qt_served, .inl (cI, 7, .inl t_served)), (qt_freeFrom, .inl (cI, 2, .inl t_freeFrom))]) ⟨hx, hb, hml, hown, hts⟩ (k_Twn_copyOf l D cI cB cZ cS cT qt_town qt_town_kind qt_town_father qt_town_comes qt_town_wants qt_town_cost qt_town_coins qt_town_debts qb1 qb1_kind qb1_father qb1_comes qb1_wants qb1_cost qb1_coins qb1_debts t_town_people t_town_law t_town_counters t_town_kind t_town_father t_town_comes t_town_wants t_town_cost t_town_coins t_town_debts b1_people b1_law b1_counters b1_kind b1_father b1_comes b1_wants b1_cost b1_coins b1_debts  _ hc) (cwV 1 hts gX4_load_X7_copyOf rfl rfl rfl (by decide +kernel) ⟨Nat.le_of_ble_eq_true rfl, Nat.le_of_ble_eq_true rfl⟩) hK hP hD hS hA [1, 2, 3, 4, 5, 6, 7, 8, 13, 14, 15, 16, 17, 18, 19, 20] [0, 9, 10, 11, 12] [0, 5, 6, 7, 8, 9, 10, 11, 12, 1, 2, 3, 4, 13, 14, 15, 16, 17, 18, 19, 20] (w_Run cI cB cZ cS cT qt qt_town qt_town_kind qt_town_father qt_town_comes qt_town_wants qt_town_cost qt_town_coins qt_town_debts qt_waiting qt_waiting_ones qt_served qt_freeFrom t_paid o_1.1 o_1.2.1 o_1.2.2.1 o_1.2.2.2.1 o_1.2.2.2.2.1 o_1.2.2.2.2.2.1 o_1.2.2.2.2.2.2.1 o_1.2.2.2.2.2.2.2.1 o_1.2.2.2.2.2.2.2.2.1 o_1.2.2.2.2.2.2.2.2.2 t_waiting_length t_waiting_ones t_served t_freeFrom ++ w_Twn cI cB cZ cS cT qb1 qb1_kind qb1_father qb1_comes qb1_wants qb1_cost qb1_coins qb1_debts b1_people b1_law b1_counters b1_kind b1_father b1_comes b1_wants b1_cost b1_coins b1_debts) rfl rfl rfl rfl (by decide) rfl rfl 7 0 rfl rfl rfl rfl hl.1 rfl (Nat.le_of_ble_eq_true rfl) dX4_load_5 ⟨Nat.zero_le _, Nat.zero_le _⟩ (fun H locs hP hD hS => ?_)
  refine lv_aload_n hx hb dX4_load_8 rfl (lv_at hl 0 rfl) ?_
  refine va_get (D := D) (ci := 4) (v := .ref qt_waiting) (C := RX4) (T := TX4) (N := 5) hx hb hts inX4w hown hK hP 0 rfl rfl 1 (by decide) hf21 (fun _ h9 => h9) rfl dX4_load_9 ?_
  refine lv_iconst (v := 0) hx hb dX4_load_12 (by decide) ?_
  refine mr_put (D := D) (ci := 3) (v := .int 0) (ty := .int) (C := RX3) (T := TX3) (N := 2) hx hb hts inX3w tyX3 tyX3_ok nmX3 hown hK hP hD hS 9 rfl rfl 1 (by decide) hf36 (fun _ h9 => h9) rfl (by decide +kernel) rfl rfl (Nat.le_of_ble_eq_true rfl) dX4_load_13 (w_Run cI cB cZ cS cT qt qt_town qt_town_kind qt_town_father qt_town_comes qt_town_wants qt_town_cost qt_town_coins qt_town_debts qt_waiting qt_waiting_ones qt_served qt_freeFrom t_paid o_1.1 o_1.2.1 o_1.2.2.1 o_1.2.2.2.1 o_1.2.2.2.2.1 o_1.2.2.2.2.2.1 o_1.2.2.2.2.2.2.1 o_1.2.2.2.2.2.2.2.1 o_1.2.2.2.2.2.2.2.2.1 o_1.2.2.2.2.2.2.2.2.2 0 t_waiting_ones t_served t_freeFrom ++ w_Twn cI cB cZ cS cT qb1 qb1_kind qb1_father qb1_comes qb1_wants qb1_cost qb1_coins qb1_debts b1_people b1_law b1_counters b1_kind b1_father b1_comes b1_wants b1_cost b1_coins b1_debts) rfl (fun H locs hP hD hS => ?_)
  refine lv_aload_n hx hb dX4_load_16 rfl (lv_at hl 0 rfl) ?_
  refine va_get (D := D) (ci := 4) (v := .ref qt_freeFrom) (C := RX4) (T := TX4) (N := 5) hx hb hts inX4w hown hK hP 0 rfl rfl 3 (by decide) hf29 (fun _ h9 => h9) rfl dX4_load_17 ?_
  refine lv_iconst (v := 0) hx hb dX4_load_20 (by decide) ?_
  refine lv_iconst (v := 0) hx hb dX4_load_21 (by decide) ?_
  refine mr_iast hx hb hK hP hD hS 12 0 (fun t_freeFrom_2 => (w_Run cI cB cZ cS cT qt qt_town qt_town_kind qt_town_father qt_town_comes qt_town_wants qt_town_cost qt_town_coins qt_town_debts qt_waiting qt_waiting_ones qt_served qt_freeFrom t_paid o_1.1 o_1.2.1 o_1.2.2.1 o_1.2.2.2.1 o_1.2.2.2.2.1 o_1.2.2.2.2.2.1 o_1.2.2.2.2.2.2.1 o_1.2.2.2.2.2.2.2.1 o_1.2.2.2.2.2.2.2.2.1 o_1.2.2.2.2.2.2.2.2.2 0 t_waiting_ones t_served t_freeFrom_2 ++ w_Twn cI cB cZ cS cT qb1 qb1_kind qb1_father qb1_comes qb1_wants qb1_cost qb1_coins qb1_debts b1_people b1_law b1_counters b1_kind b1_father b1_comes b1_wants b1_cost b1_coins b1_debts)) rfl rfl (fun _ => rfl) hM dX4_load_22 (fun t_freeFrom_2 hM H locs hP hD hS => ?_)
  refine lv_aload_n hx hb dX4_load_23 rfl (lv_at hl 0 rfl) ?_
  refine va_get (D := D) (ci := 4) (v := .ref qt_freeFrom) (C := RX4) (T := TX4) (N := 5) hx hb hts inX4w hown hK hP 0 rfl rfl 3 (by decide) hf29 (fun _ h9 => h9) rfl dX4_load_24 ?_
  refine lv_iconst (v := 1) hx hb dX4_load_27 (by decide) ?_
  refine lv_iconst (v := 0) hx hb dX4_load_28 (by decide) ?_
  refine mr_iast hx hb hK hP hD hS 12 0 (fun t_freeFrom_3 => (w_Run cI cB cZ cS cT qt qt_town qt_town_kind qt_town_father qt_town_comes qt_town_wants qt_town_cost qt_town_coins qt_town_debts qt_waiting qt_waiting_ones qt_served qt_freeFrom t_paid o_1.1 o_1.2.1 o_1.2.2.1 o_1.2.2.2.1 o_1.2.2.2.2.1 o_1.2.2.2.2.2.1 o_1.2.2.2.2.2.2.1 o_1.2.2.2.2.2.2.2.1 o_1.2.2.2.2.2.2.2.2.1 o_1.2.2.2.2.2.2.2.2.2 0 t_waiting_ones t_served t_freeFrom_3 ++ w_Twn cI cB cZ cS cT qb1 qb1_kind qb1_father qb1_comes qb1_wants qb1_cost qb1_coins qb1_debts b1_people b1_law b1_counters b1_kind b1_father b1_comes b1_wants b1_cost b1_coins b1_debts)) rfl rfl (fun _ => rfl) hM dX4_load_29 (fun t_freeFrom_3 hM H locs hP hD hS => ?_)
  refine lv_aload_n hx hb dX4_load_30 rfl (lv_at hl 0 rfl) ?_
  refine lv_iconst (v := 0) hx hb dX4_load_31 (by decide) ?_
  refine mr_put (D := D) (ci := 4) (v := .int 0) (ty := .int) (C := RX4) (T := TX4) (N := 5) hx hb hts inX4w tyX4 tyX4_ok nmX4 hown hK hP hD hS 0 rfl rfl 4 (by decide) hf40 (fun _ h9 => h9) rfl (by decide +kernel) rfl rfl (Nat.le_of_ble_eq_true rfl) dX4_load_32 (w_Run cI cB cZ cS cT qt qt_town qt_town_kind qt_town_father qt_town_comes qt_town_wants qt_town_cost qt_town_coins qt_town_debts qt_waiting qt_waiting_ones qt_served qt_freeFrom 0 o_1.1 o_1.2.1 o_1.2.2.1 o_1.2.2.2.1 o_1.2.2.2.2.1 o_1.2.2.2.2.2.1 o_1.2.2.2.2.2.2.1 o_1.2.2.2.2.2.2.2.1 o_1.2.2.2.2.2.2.2.2.1 o_1.2.2.2.2.2.2.2.2.2 0 t_waiting_ones t_served t_freeFrom_3 ++ w_Twn cI cB cZ cS cT qb1 qb1_kind qb1_father qb1_comes qb1_wants qb1_cost qb1_coins qb1_debts b1_people b1_law b1_counters b1_kind b1_father b1_comes b1_wants b1_cost b1_coins b1_debts) rfl (fun H locs hP hD hS => ?_)
  have hM := Option.some.inj hM
  subst hM
  exact mr_vret hx hb hr hlocks hQ hP hD hS dX4_load_35

abbrev rmX4_takeAt : Room := { frames := 1, cells := 0, slots := 0, locals := 22 }
set_option maxHeartbeats 40000000 in
set_option maxRecDepth 100000 in
theorem k_Run_takeAt (l : Launch) (D : va_G) (cI cB cZ cS cT : ClassId) (qt qt_town qt_town_kind qt_town_father qt_town_comes qt_town_wants qt_town_cost qt_town_coins qt_town_debts qt_waiting qt_waiting_ones qt_served qt_freeFrom : Nat) (t_paid t_town_people t_town_law t_town_counters : Int32) (t_town_kind t_town_father t_town_comes t_town_wants t_town_cost t_town_coins t_town_debts : Nat → Int32) (t_waiting_length : Int32) (t_waiting_ones t_served t_freeFrom : Nat → Int32) (p1 : Int32) (o : Int32 × (Nat → Int32) × (Nat → Int32) × (Nat → Int32)) (hM : Run_takeAt p1 t_town_counters t_town_wants t_waiting_length t_waiting_ones t_served t_freeFrom = some o) : mtV l yX4_takeAt wsX4_takeAt rmX4_takeAt D (tys5 cI cB cZ cS cT) [.ref qt, .int p1] (w_Run cI cB cZ cS cT qt qt_town qt_town_kind qt_town_father qt_town_comes qt_town_wants qt_town_cost qt_town_coins qt_town_debts qt_waiting qt_waiting_ones qt_served qt_freeFrom t_paid t_town_people t_town_law t_town_counters t_town_kind t_town_father t_town_comes t_town_wants t_town_cost t_town_coins t_town_debts t_waiting_length t_waiting_ones t_served t_freeFrom) (w_Run cI cB cZ cS cT qt qt_town qt_town_kind qt_town_father qt_town_comes qt_town_wants qt_town_cost qt_town_coins qt_town_debts qt_waiting qt_waiting_ones qt_served qt_freeFrom t_paid t_town_people t_town_law t_town_counters t_town_kind t_town_father t_town_comes t_town_wants t_town_cost t_town_coins t_town_debts o.1 o.2.1 o.2.2.1 o.2.2.2) := by
  refine mtV.of (cc := cX4_takeAt) (maxL := 4) (ret := none) (by decide) rfl (Nat.le_of_ble_eq_true rfl) ?_
  intro p e s m below meth c A Q av hav hQ hx hb hr hml hown hts hlocks hK hP hD hA hS ls hl
  have hown : s.vm.findClass RX4 = some m.cls := hown
  have hl : lv_has ls 4 [(0, .ref qt), (1, .int p1)] := hl
  unfold Run_takeAt at hM
  have inX3w : ∀ w ∈ u_ws RX3 TX3 2, w ∈ wsX4_takeAt := by decide +kernel
  have inX4w : ∀ w ∈ u_ws RX4 TX4 5, w ∈ wsX4_takeAt := by decide +kernel
  have inX7w : ∀ w ∈ u_ws RX7 TX7 10, w ∈ wsX4_takeAt := by decide +kernel
  have hf12 := hts (.fieldLink RX4 12 "LetsIn$Run" "town" "LLetsIn$Town;") (by decide +kernel)
  have hf61 := hts (.fieldLink RX4 61 "LetsIn$Town" "counters" "I") (by decide +kernel)
  have hf29 := hts (.fieldLink RX4 29 "LetsIn$Run" "freeFrom" "[I") (by decide +kernel)
  have hf21 := hts (.fieldLink RX4 21 "LetsIn$Run" "waiting" "LLetsIn$Row;") (by decide +kernel)
  have hf36 := hts (.fieldLink RX4 36 "LetsIn$Row" "length" "I") (by decide +kernel)
  have hf25 := hts (.fieldLink RX4 25 "LetsIn$Run" "served" "[I") (by decide +kernel)
  have hf68 := hts (.fieldLink RX4 68 "LetsIn$Town" "wants" "[I") (by decide +kernel)
  refine lv_iconst (v := 0) hx hb dX4_takeAt_0 (by decide) ?_
  refine lv_istore_n (lv' := [(2, .int 0), (0, .ref qt), (1, .int p1)]) hx hb dX4_takeAt_1 rfl hl (by decide) rfl (fun ls hl => ?_)
  have hL2 : ∀ (K71 : Int32 → (Nat → Int32) → (Nat → Int32) → (Nat → Int32) → Option (Int32 × (Nat → Int32) × (Nat → Int32) × (Nat → Int32))), (∀ (t_waiting_length_14 : Int32) (t_waiting_ones_15 t_served_16 t_freeFrom_17 : Nat → Int32), K71 t_waiting_length_14 t_waiting_ones_15 t_served_16 t_freeFrom_17 = some o → ∀ (H : Heap) (locs : List Loc), va_P D vwCl (w_Run cI cB cZ cS cT qt qt_town qt_town_kind qt_town_father qt_town_comes qt_town_wants qt_town_cost qt_town_coins qt_town_debts qt_waiting qt_waiting_ones qt_served qt_freeFrom t_paid t_town_people t_town_law t_town_counters t_town_kind t_town_father t_town_comes t_town_wants t_town_cost t_town_coins t_town_debts t_waiting_length_14 t_waiting_ones_15 t_served_16 t_freeFrom_17) H → va_D A (w_Run cI cB cZ cS cT qt qt_town qt_town_kind qt_town_father qt_town_comes qt_town_wants qt_town_cost qt_town_coins qt_town_debts qt_waiting qt_waiting_ones qt_served qt_freeFrom t_paid t_town_people t_town_law t_town_counters t_town_kind t_town_father t_town_comes t_town_wants t_town_cost t_town_coins t_town_debts t_waiting_length_14 t_waiting_ones_15 t_served_16 t_freeFrom_17) → va_S A s.heap H locs → ∀ ls : Array Slot, lv_has ls 4 [] → W p l e rmX4_takeAt s m av below meth c H locs 0 0 Q (F0 m 71 ls [])) → ∀ (n : Nat) (x2_1 t_waiting_length_2 : Int32) (t_waiting_ones_3 t_served_4 t_freeFrom_5 : Nat → Int32), Run_takeAt_L2 t_town_counters t_town_wants p1 K71 n x2_1 t_waiting_length_2 t_waiting_ones_3 t_served_4 t_freeFrom_5 = some o → ∀ (H : Heap) (locs : List Loc), va_P D vwCl (w_Run cI cB cZ cS cT qt qt_town qt_town_kind qt_town_father qt_town_comes qt_town_wants qt_town_cost qt_town_coins qt_town_debts qt_waiting qt_waiting_ones qt_served qt_freeFrom t_paid t_town_people t_town_law t_town_counters t_town_kind t_town_father t_town_comes t_town_wants t_town_cost t_town_coins t_town_debts t_waiting_length_2 t_waiting_ones_3 t_served_4 t_freeFrom_5) H → va_D A (w_Run cI cB cZ cS cT qt qt_town qt_town_kind qt_town_father qt_town_comes qt_town_wants qt_town_cost qt_town_coins qt_town_debts qt_waiting qt_waiting_ones qt_served qt_freeFrom t_paid t_town_people t_town_law t_town_counters t_town_kind t_town_father t_town_comes t_town_wants t_town_cost t_town_coins t_town_debts t_waiting_length_2 t_waiting_ones_3 t_served_4 t_freeFrom_5) → va_S A s.heap H locs → ∀ ls : Array Slot, lv_has ls 4 [(0, .ref qt), (1, .int p1), (2, .int x2_1)] → W p l e rmX4_takeAt s m av below meth c H locs 0 0 Q (F0 m 2 ls []) := by
    intro K71 hK71 n
    induction n with
    | zero =>
      intro x2_1 t_waiting_length_2 t_waiting_ones_3 t_served_4 t_freeFrom_5 hM
      rw [Run_takeAt_L2] at hM
      cases hM
    | succ n ih =>
      intro x2_1 t_waiting_length_2 t_waiting_ones_3 t_served_4 t_freeFrom_5 hM H locs hP hD hS ls hl
      rw [Run_takeAt_L2] at hM
      refine lv_iload_n hx hb dX4_takeAt_2 rfl (lv_at hl 2 rfl) ?_
      refine lv_aload_n hx hb dX4_takeAt_3 rfl (lv_at hl 0 rfl) ?_
      refine va_get (D := D) (ci := 4) (v := .ref qt_town) (C := RX4) (T := TX4) (N := 5) hx hb hts inX4w hown hK hP 0 rfl rfl 0 (by decide) hf12 (fun _ h9 => h9) rfl dX4_takeAt_4 ?_
      refine va_get (D := D) (ci := 7) (v := .int t_town_counters) (C := RX7) (T := TX7) (N := 10) hx hb hts inX7w hown hK hP 1 rfl rfl 2 (by decide) hf61 (fun _ h9 => h9) rfl dX4_takeAt_7 ?_
      refine mr_icmp_ge (tgt := 71) hx hb hM dX4_takeAt_10 (by decide) (fun hM => ?_) (fun hM => ?_)
      · exact hK71 t_waiting_length_2 t_waiting_ones_3 t_served_4 t_freeFrom_5 hM _ _ hP hD hS ls (lv_sub hl [] rfl)
      · refine lv_aload_n hx hb dX4_takeAt_13 rfl (lv_at hl 0 rfl) ?_
        refine va_get (D := D) (ci := 4) (v := .ref qt_freeFrom) (C := RX4) (T := TX4) (N := 5) hx hb hts inX4w hown hK hP 0 rfl rfl 3 (by decide) hf29 (fun _ h9 => h9) rfl dX4_takeAt_14 ?_
        refine lv_iload_n hx hb dX4_takeAt_17 rfl (lv_at hl 2 rfl) ?_
        refine mr_iald hx hb hK hP 12 0 rfl rfl hM dX4_takeAt_18 (fun v_6 hM => ?_)
        refine lv_iload_n hx hb dX4_takeAt_19 rfl (lv_at hl 1 rfl) ?_
        refine mr_icmp_gt (tgt := 65) hx hb hM dX4_takeAt_20 (by decide) (fun hM => ?_) (fun hM => ?_)
        · refine mr_iinc (k := 2) (d := 1) hx hb (fun x2_7 => [(2, .int x2_7), (0, .ref qt), (1, .int p1)]) hM (by decide) dX4_takeAt_65 hl rfl (by decide) (fun _ => rfl) (fun x2_7 hM ls hl => ?_)
          refine lv_goto (tgt := 2) hx hb dX4_takeAt_68 (by decide) ?_
          exact ih x2_7 t_waiting_length_2 t_waiting_ones_3 t_served_4 t_freeFrom_5 hM _ _ hP hD hS ls (lv_sub hl [1, 2, 0] rfl)
        · refine lv_aload_n hx hb dX4_takeAt_23 rfl (lv_at hl 0 rfl) ?_
          refine va_get (D := D) (ci := 4) (v := .ref qt_waiting) (C := RX4) (T := TX4) (N := 5) hx hb hts inX4w hown hK hP 0 rfl rfl 1 (by decide) hf21 (fun _ h9 => h9) rfl dX4_takeAt_24 ?_
          refine va_get (D := D) (ci := 3) (v := .int t_waiting_length_2) (C := RX3) (T := TX3) (N := 2) hx hb hts inX3w hown hK hP 9 rfl rfl 1 (by decide) hf36 (fun _ h9 => h9) rfl dX4_takeAt_27 ?_
          refine mr_if_le (tgt := 65) hx hb hM dX4_takeAt_30 (by decide) (fun hM => ?_) (fun hM => ?_)
          · refine mr_iinc (k := 2) (d := 1) hx hb (fun x2_8 => [(2, .int x2_8), (0, .ref qt), (1, .int p1)]) hM (by decide) dX4_takeAt_65 hl rfl (by decide) (fun _ => rfl) (fun x2_8 hM ls hl => ?_)
            refine lv_goto (tgt := 2) hx hb dX4_takeAt_68 (by decide) ?_
            exact ih x2_8 t_waiting_length_2 t_waiting_ones_3 t_served_4 t_freeFrom_5 hM _ _ hP hD hS ls (lv_sub hl [1, 2, 0] rfl)
          · refine lv_aload_n hx hb dX4_takeAt_33 rfl (lv_at hl 0 rfl) ?_
            refine va_get (D := D) (ci := 4) (v := .ref qt_waiting) (C := RX4) (T := TX4) (N := 5) hx hb hts inX4w hown hK hP 0 rfl rfl 1 (by decide) hf21 (fun _ h9 => h9) rfl dX4_takeAt_34 ?_
            obtain ⟨o_9, hc, hM⟩ := bind_so hM
            refine mr_callVi (As := []) (rest := []) (wr := [(qt, .inr (4, [.ref qt_town, .ref qt_waiting, .ref qt_served, .ref qt_freeFrom, .int t_paid])), (qt_town, .inr (7, [.int t_town_people, .int t_town_law, .int t_town_counters, .ref qt_town_kind, .ref qt_town_father, .ref qt_town_comes, .ref qt_town_wants, .ref qt_town_cost, .ref qt_town_coins, .ref qt_town_debts])), (qt_town_kind, .inl (cI, 7, .inl t_town_kind)), (qt_town_father, .inl (cI, 7, .inl t_town_father)), (qt_town_comes, .inl (cI, 7, .inl t_town_comes)), (qt_town_wants, .inl (cI, 7, .inl t_town_wants)), (qt_town_cost, .inl (cI, 7, .inl t_town_cost)), (qt_town_coins, .inl (cI, 7, .inl t_town_coins)), (qt_town_debts, .inl (cI, 49, .inl t_town_debts)), (qt_served, .inl (cI, 7, .inl t_served_4)), (qt_freeFrom, .inl (cI, 2, .inl t_freeFrom_5))]) ⟨hx, hb, hml, hown, hts⟩ (k_Row_takeFront l D cI cB cZ cS cT qt_waiting qt_waiting_ones t_waiting_length_2 t_waiting_ones_3  _ hc) (cwV 0 hts gX4_takeAt_X3_takeFront rfl rfl rfl (by decide +kernel) ⟨Nat.le_of_ble_eq_true rfl, Nat.le_of_ble_eq_true rfl⟩) hK hP hD hS hA [9, 10] [0, 1, 2, 3, 4, 5, 6, 7, 8, 11, 12] [0, 1, 2, 3, 4, 5, 6, 7, 8, 11, 12, 9, 10] (w_Run cI cB cZ cS cT qt qt_town qt_town_kind qt_town_father qt_town_comes qt_town_wants qt_town_cost qt_town_coins qt_town_debts qt_waiting qt_waiting_ones qt_served qt_freeFrom t_paid t_town_people t_town_law t_town_counters t_town_kind t_town_father t_town_comes t_town_wants t_town_cost t_town_coins t_town_debts o_9.2.1 o_9.2.2 t_served_4 t_freeFrom_5) rfl rfl rfl rfl (by decide) rfl rfl 3 0 rfl rfl rfl rfl hl.1 rfl (Nat.le_of_ble_eq_true rfl) dX4_takeAt_37 ⟨Nat.zero_le _, Nat.zero_le _⟩ (fun H locs hP hD hS => ?_)
            refine lv_istore_n (lv' := [(3, .int o_9.1), (0, .ref qt), (1, .int p1), (2, .int x2_1)]) hx hb dX4_takeAt_40 rfl hl (by decide) rfl (fun ls hl => ?_)
            refine lv_aload_n hx hb dX4_takeAt_41 rfl (lv_at hl 1 rfl) ?_
            refine va_get (D := D) (ci := 4) (v := .ref qt_served) (C := RX4) (T := TX4) (N := 5) hx hb hts inX4w hown hK hP 0 rfl rfl 2 (by decide) hf25 (fun _ h9 => h9) rfl dX4_takeAt_42 ?_
            refine lv_iload_n hx hb dX4_takeAt_45 rfl (lv_at hl 0 rfl) ?_
            refine lv_iload_n hx hb dX4_takeAt_46 rfl (lv_at hl 2 rfl) ?_
            refine mr_iast hx hb hK hP hD hS 11 0 (fun t_served_10 => (w_Run cI cB cZ cS cT qt qt_town qt_town_kind qt_town_father qt_town_comes qt_town_wants qt_town_cost qt_town_coins qt_town_debts qt_waiting qt_waiting_ones qt_served qt_freeFrom t_paid t_town_people t_town_law t_town_counters t_town_kind t_town_father t_town_comes t_town_wants t_town_cost t_town_coins t_town_debts o_9.2.1 o_9.2.2 t_served_10 t_freeFrom_5)) rfl rfl (fun _ => rfl) hM dX4_takeAt_47 (fun t_served_10 hM H locs hP hD hS => ?_)
            refine lv_aload_n hx hb dX4_takeAt_48 rfl (lv_at hl 1 rfl) ?_
            refine va_get (D := D) (ci := 4) (v := .ref qt_freeFrom) (C := RX4) (T := TX4) (N := 5) hx hb hts inX4w hown hK hP 0 rfl rfl 3 (by decide) hf29 (fun _ h9 => h9) rfl dX4_takeAt_49 ?_
            refine lv_iload_n hx hb dX4_takeAt_52 rfl (lv_at hl 3 rfl) ?_
            refine lv_iload_n hx hb dX4_takeAt_53 rfl (lv_at hl 2 rfl) ?_
            refine lv_aload_n hx hb dX4_takeAt_54 rfl (lv_at hl 1 rfl) ?_
            refine va_get (D := D) (ci := 4) (v := .ref qt_town) (C := RX4) (T := TX4) (N := 5) hx hb hts inX4w hown hK hP 0 rfl rfl 0 (by decide) hf12 (fun _ h9 => h9) rfl dX4_takeAt_55 ?_
            refine va_get (D := D) (ci := 7) (v := .ref qt_town_wants) (C := RX7) (T := TX7) (N := 10) hx hb hts inX7w hown hK hP 1 rfl rfl 6 (by decide) hf68 (fun _ h9 => h9) rfl dX4_takeAt_58 ?_
            refine lv_iload_n hx hb dX4_takeAt_61 rfl (lv_at hl 0 rfl) ?_
            refine mr_iald hx hb hK hP 5 0 rfl rfl hM dX4_takeAt_62 (fun v_11 hM => ?_)
            refine lv_iadd hx hb dX4_takeAt_63 ?_
            refine mr_iast hx hb hK hP hD hS 12 0 (fun t_freeFrom_12 => (w_Run cI cB cZ cS cT qt qt_town qt_town_kind qt_town_father qt_town_comes qt_town_wants qt_town_cost qt_town_coins qt_town_debts qt_waiting qt_waiting_ones qt_served qt_freeFrom t_paid t_town_people t_town_law t_town_counters t_town_kind t_town_father t_town_comes t_town_wants t_town_cost t_town_coins t_town_debts o_9.2.1 o_9.2.2 t_served_10 t_freeFrom_12)) rfl rfl (fun _ => rfl) hM dX4_takeAt_64 (fun t_freeFrom_12 hM H locs hP hD hS => ?_)
            refine mr_iinc (k := 3) (d := 1) hx hb (fun x2_13 => [(2, .int x2_13), (3, .int o_9.1), (0, .ref qt), (1, .int p1)]) hM (by decide) dX4_takeAt_65 hl rfl (by decide) (fun _ => rfl) (fun x2_13 hM ls hl => ?_)
            refine lv_goto (tgt := 2) hx hb dX4_takeAt_68 (by decide) ?_
            exact ih x2_13 o_9.2.1 o_9.2.2 t_served_10 t_freeFrom_12 hM _ _ hP hD hS ls (lv_sub hl [2, 3, 0] rfl)
  refine hL2 _ (fun t_waiting_length_14 t_waiting_ones_15 t_served_16 t_freeFrom_17 hM H locs hP hD hS ls hl => ?_) _ 0 t_waiting_length t_waiting_ones t_served t_freeFrom hM _ _ hP hD hS ls (lv_sub hl [1, 2, 0] rfl)
  have hM := Option.some.inj hM
  subst hM
  exact mr_vret hx hb hr hlocks hQ hP hD hS dX4_takeAt_71

abbrev rmX4_minuteBehind : Room := { frames := 1, cells := 0, slots := 0, locals := 21 }
set_option maxHeartbeats 40000000 in
set_option maxRecDepth 100000 in
theorem k_Run_minuteBehind (l : Launch) (D : va_G) (cI cB cZ cS cT : ClassId) (qt qt_town qt_town_kind qt_town_father qt_town_comes qt_town_wants qt_town_cost qt_town_coins qt_town_debts qt_waiting qt_waiting_ones qt_served qt_freeFrom : Nat) (t_paid t_town_people t_town_law t_town_counters : Int32) (t_town_kind t_town_father t_town_comes t_town_wants t_town_cost t_town_coins t_town_debts : Nat → Int32) (t_waiting_length : Int32) (t_waiting_ones t_served t_freeFrom : Nat → Int32) (p1 : Int32) (o : Int32) (hM : Run_minuteBehind p1 t_town_people t_town_counters t_town_comes t_waiting_length t_freeFrom = some o) : mtI l yX4_minuteBehind wsX4_minuteBehind rmX4_minuteBehind D (tys5 cI cB cZ cS cT) [.ref qt, .int p1] (w_Run cI cB cZ cS cT qt qt_town qt_town_kind qt_town_father qt_town_comes qt_town_wants qt_town_cost qt_town_coins qt_town_debts qt_waiting qt_waiting_ones qt_served qt_freeFrom t_paid t_town_people t_town_law t_town_counters t_town_kind t_town_father t_town_comes t_town_wants t_town_cost t_town_coins t_town_debts t_waiting_length t_waiting_ones t_served t_freeFrom) (w_Run cI cB cZ cS cT qt qt_town qt_town_kind qt_town_father qt_town_comes qt_town_wants qt_town_cost qt_town_coins qt_town_debts qt_waiting qt_waiting_ones qt_served qt_freeFrom t_paid t_town_people t_town_law t_town_counters t_town_kind t_town_father t_town_comes t_town_wants t_town_cost t_town_coins t_town_debts t_waiting_length t_waiting_ones t_served t_freeFrom) o := by
  refine mtI.of (cc := cX4_minuteBehind) (maxL := 4) (ret := (some .int)) (by decide) rfl (Nat.le_of_ble_eq_true rfl) ?_
  intro p e s m below meth c A Q av hav hQ hx hb hr hml hown hts hlocks hK hP hD hA hS ls hl
  have hown : s.vm.findClass RX4 = some m.cls := hown
  have hl : lv_has ls 4 [(0, .ref qt), (1, .int p1)] := hl
  unfold Run_minuteBehind at hM
  have inX3w : ∀ w ∈ u_ws RX3 TX3 2, w ∈ wsX4_minuteBehind := by decide +kernel
  have inX4w : ∀ w ∈ u_ws RX4 TX4 5, w ∈ wsX4_minuteBehind := by decide +kernel
  have inX7w : ∀ w ∈ u_ws RX7 TX7 10, w ∈ wsX4_minuteBehind := by decide +kernel
  have hf12 := hts (.fieldLink RX4 12 "LetsIn$Run" "town" "LLetsIn$Town;") (by decide +kernel)
  have hf43 := hts (.fieldLink RX4 43 "LetsIn$Town" "people" "I") (by decide +kernel)
  have hf46 := hts (.fieldLink RX4 46 "LetsIn$Town" "comes" "[I") (by decide +kernel)
  have hf61 := hts (.fieldLink RX4 61 "LetsIn$Town" "counters" "I") (by decide +kernel)
  have hf21 := hts (.fieldLink RX4 21 "LetsIn$Run" "waiting" "LLetsIn$Row;") (by decide +kernel)
  have hf36 := hts (.fieldLink RX4 36 "LetsIn$Row" "length" "I") (by decide +kernel)
  have hf29 := hts (.fieldLink RX4 29 "LetsIn$Run" "freeFrom" "[I") (by decide +kernel)
  have hmmin1 := hts (.methodLink RX4 71 Lib.Math.min.name) (by decide +kernel)
  have hmmin2 := hts (.static Lib.Math.min.name) (by decide +kernel)
  have hmmin3 := hts (.initialized "java/lang/Math") (by decide +kernel)
  have hmmin4 := hts (.code Lib.Math.min.name Lib.Math.min.code 2 (some .int)) (by decide +kernel)
  refine lv_sipush (v := 1000) hx hb dX4_minuteBehind_0 (by decide) ?_
  refine lv_istore_n (lv' := [(2, .int 1000), (0, .ref qt), (1, .int p1)]) hx hb dX4_minuteBehind_3 rfl hl (by decide) rfl (fun ls hl => ?_)
  refine lv_iconst (v := 0) hx hb dX4_minuteBehind_4 (by decide) ?_
  refine lv_istore_n (lv' := [(3, .int 0), (2, .int 1000), (0, .ref qt), (1, .int p1)]) hx hb dX4_minuteBehind_5 rfl hl (by decide) rfl (fun ls hl => ?_)
  have hL6 : ∀ (K59 : Int32 → Option (Int32)), (∀ (x2_9 : Int32), K59 x2_9 = some o → ∀ (H : Heap) (locs : List Loc), va_P D vwCl (w_Run cI cB cZ cS cT qt qt_town qt_town_kind qt_town_father qt_town_comes qt_town_wants qt_town_cost qt_town_coins qt_town_debts qt_waiting qt_waiting_ones qt_served qt_freeFrom t_paid t_town_people t_town_law t_town_counters t_town_kind t_town_father t_town_comes t_town_wants t_town_cost t_town_coins t_town_debts t_waiting_length t_waiting_ones t_served t_freeFrom) H → va_D A (w_Run cI cB cZ cS cT qt qt_town qt_town_kind qt_town_father qt_town_comes qt_town_wants qt_town_cost qt_town_coins qt_town_debts qt_waiting qt_waiting_ones qt_served qt_freeFrom t_paid t_town_people t_town_law t_town_counters t_town_kind t_town_father t_town_comes t_town_wants t_town_cost t_town_coins t_town_debts t_waiting_length t_waiting_ones t_served t_freeFrom) → va_S A s.heap H locs → ∀ ls : Array Slot, lv_has ls 4 [(0, .ref qt), (2, .int x2_9)] → W p l e rmX4_minuteBehind s m av below meth c H locs 0 0 Q (F0 m 59 ls [])) → ∀ (n : Nat) (x2_1 x3_2 : Int32), Run_minuteBehind_L6 t_town_people t_town_comes p1 K59 n x2_1 x3_2 = some o → ∀ (H : Heap) (locs : List Loc), va_P D vwCl (w_Run cI cB cZ cS cT qt qt_town qt_town_kind qt_town_father qt_town_comes qt_town_wants qt_town_cost qt_town_coins qt_town_debts qt_waiting qt_waiting_ones qt_served qt_freeFrom t_paid t_town_people t_town_law t_town_counters t_town_kind t_town_father t_town_comes t_town_wants t_town_cost t_town_coins t_town_debts t_waiting_length t_waiting_ones t_served t_freeFrom) H → va_D A (w_Run cI cB cZ cS cT qt qt_town qt_town_kind qt_town_father qt_town_comes qt_town_wants qt_town_cost qt_town_coins qt_town_debts qt_waiting qt_waiting_ones qt_served qt_freeFrom t_paid t_town_people t_town_law t_town_counters t_town_kind t_town_father t_town_comes t_town_wants t_town_cost t_town_coins t_town_debts t_waiting_length t_waiting_ones t_served t_freeFrom) → va_S A s.heap H locs → ∀ ls : Array Slot, lv_has ls 4 [(0, .ref qt), (1, .int p1), (2, .int x2_1), (3, .int x3_2)] → W p l e rmX4_minuteBehind s m av below meth c H locs 0 0 Q (F0 m 6 ls []) := by
    intro K59 hK59 n
    induction n with
    | zero =>
      intro x2_1 x3_2 hM
      rw [Run_minuteBehind_L6] at hM
      cases hM
    | succ n ih =>
      intro x2_1 x3_2 hM H locs hP hD hS ls hl
      rw [Run_minuteBehind_L6] at hM
      refine lv_iload_n hx hb dX4_minuteBehind_6 rfl (lv_at hl 3 rfl) ?_
      refine lv_aload_n hx hb dX4_minuteBehind_7 rfl (lv_at hl 0 rfl) ?_
      refine va_get (D := D) (ci := 4) (v := .ref qt_town) (C := RX4) (T := TX4) (N := 5) hx hb hts inX4w hown hK hP 0 rfl rfl 0 (by decide) hf12 (fun _ h9 => h9) rfl dX4_minuteBehind_8 ?_
      refine va_get (D := D) (ci := 7) (v := .int t_town_people) (C := RX7) (T := TX7) (N := 10) hx hb hts inX7w hown hK hP 1 rfl rfl 0 (by decide) hf43 (fun _ h9 => h9) rfl dX4_minuteBehind_11 ?_
      refine mr_icmp_ge (tgt := 59) hx hb hM dX4_minuteBehind_14 (by decide) (fun hM => ?_) (fun hM => ?_)
      · exact hK59 x2_1 hM _ _ hP hD hS ls (lv_sub hl [0, 2] rfl)
      · refine lv_aload_n hx hb dX4_minuteBehind_17 rfl (lv_at hl 0 rfl) ?_
        refine va_get (D := D) (ci := 4) (v := .ref qt_town) (C := RX4) (T := TX4) (N := 5) hx hb hts inX4w hown hK hP 0 rfl rfl 0 (by decide) hf12 (fun _ h9 => h9) rfl dX4_minuteBehind_18 ?_
        refine va_get (D := D) (ci := 7) (v := .ref qt_town_comes) (C := RX7) (T := TX7) (N := 10) hx hb hts inX7w hown hK hP 1 rfl rfl 5 (by decide) hf46 (fun _ h9 => h9) rfl dX4_minuteBehind_21 ?_
        refine lv_iload_n hx hb dX4_minuteBehind_24 rfl (lv_at hl 3 rfl) ?_
        refine mr_iald hx hb hK hP 4 0 rfl rfl hM dX4_minuteBehind_25 (fun v_3 hM => ?_)
        refine lv_iload_n hx hb dX4_minuteBehind_26 rfl (lv_at hl 1 rfl) ?_
        refine mr_icmp_le (tgt := 53) hx hb hM dX4_minuteBehind_27 (by decide) (fun hM => ?_) (fun hM => ?_)
        · refine mr_iinc (k := 3) (d := 1) hx hb (fun x3_4 => [(3, .int x3_4), (0, .ref qt), (1, .int p1), (2, .int x2_1)]) hM (by decide) dX4_minuteBehind_53 hl rfl (by decide) (fun _ => rfl) (fun x3_4 hM ls hl => ?_)
          refine lv_goto (tgt := 6) hx hb dX4_minuteBehind_56 (by decide) ?_
          exact ih x2_1 x3_4 hM _ _ hP hD hS ls (lv_sub hl [1, 2, 3, 0] rfl)
        · refine lv_aload_n hx hb dX4_minuteBehind_30 rfl (lv_at hl 0 rfl) ?_
          refine va_get (D := D) (ci := 4) (v := .ref qt_town) (C := RX4) (T := TX4) (N := 5) hx hb hts inX4w hown hK hP 0 rfl rfl 0 (by decide) hf12 (fun _ h9 => h9) rfl dX4_minuteBehind_31 ?_
          refine va_get (D := D) (ci := 7) (v := .ref qt_town_comes) (C := RX7) (T := TX7) (N := 10) hx hb hts inX7w hown hK hP 1 rfl rfl 5 (by decide) hf46 (fun _ h9 => h9) rfl dX4_minuteBehind_34 ?_
          refine lv_iload_n hx hb dX4_minuteBehind_37 rfl (lv_at hl 3 rfl) ?_
          refine mr_iald hx hb hK hP 4 0 rfl rfl hM dX4_minuteBehind_38 (fun v_5 hM => ?_)
          refine lv_iload_n hx hb dX4_minuteBehind_39 rfl (lv_at hl 2 rfl) ?_
          refine mr_icmp_ge (tgt := 53) hx hb hM dX4_minuteBehind_40 (by decide) (fun hM => ?_) (fun hM => ?_)
          · refine mr_iinc (k := 3) (d := 1) hx hb (fun x3_6 => [(3, .int x3_6), (0, .ref qt), (1, .int p1), (2, .int x2_1)]) hM (by decide) dX4_minuteBehind_53 hl rfl (by decide) (fun _ => rfl) (fun x3_6 hM ls hl => ?_)
            refine lv_goto (tgt := 6) hx hb dX4_minuteBehind_56 (by decide) ?_
            exact ih x2_1 x3_6 hM _ _ hP hD hS ls (lv_sub hl [1, 2, 3, 0] rfl)
          · refine lv_aload_n hx hb dX4_minuteBehind_43 rfl (lv_at hl 0 rfl) ?_
            refine va_get (D := D) (ci := 4) (v := .ref qt_town) (C := RX4) (T := TX4) (N := 5) hx hb hts inX4w hown hK hP 0 rfl rfl 0 (by decide) hf12 (fun _ h9 => h9) rfl dX4_minuteBehind_44 ?_
            refine va_get (D := D) (ci := 7) (v := .ref qt_town_comes) (C := RX7) (T := TX7) (N := 10) hx hb hts inX7w hown hK hP 1 rfl rfl 5 (by decide) hf46 (fun _ h9 => h9) rfl dX4_minuteBehind_47 ?_
            refine lv_iload_n hx hb dX4_minuteBehind_50 rfl (lv_at hl 3 rfl) ?_
            refine mr_iald hx hb hK hP 4 0 rfl rfl hM dX4_minuteBehind_51 (fun v_7 hM => ?_)
            refine lv_istore_n (lv' := [(2, .int v_7), (0, .ref qt), (1, .int p1), (3, .int x3_2)]) hx hb dX4_minuteBehind_52 rfl hl (by decide) rfl (fun ls hl => ?_)
            refine mr_iinc (k := 3) (d := 1) hx hb (fun x3_8 => [(3, .int x3_8), (2, .int v_7), (0, .ref qt), (1, .int p1)]) hM (by decide) dX4_minuteBehind_53 hl rfl (by decide) (fun _ => rfl) (fun x3_8 hM ls hl => ?_)
            refine lv_goto (tgt := 6) hx hb dX4_minuteBehind_56 (by decide) ?_
            exact ih v_7 x3_8 hM _ _ hP hD hS ls (lv_sub hl [2, 3, 1, 0] rfl)
  refine hL6 _ (fun x2_9 hM H locs hP hD hS ls hl => ?_) _ 1000 0 hM _ _ hP hD hS ls (lv_sub hl [2, 3, 1, 0] rfl)
  refine lv_iconst (v := 0) hx hb dX4_minuteBehind_59 (by decide) ?_
  refine lv_istore_n (lv' := [(3, .int 0), (0, .ref qt), (2, .int x2_9)]) hx hb dX4_minuteBehind_60 rfl hl (by decide) rfl (fun ls hl => ?_)
  have hL61 : ∀ (K99 : Int32 → Option (Int32)), (∀ (x2_15 : Int32), K99 x2_15 = some o → ∀ (H : Heap) (locs : List Loc), va_P D vwCl (w_Run cI cB cZ cS cT qt qt_town qt_town_kind qt_town_father qt_town_comes qt_town_wants qt_town_cost qt_town_coins qt_town_debts qt_waiting qt_waiting_ones qt_served qt_freeFrom t_paid t_town_people t_town_law t_town_counters t_town_kind t_town_father t_town_comes t_town_wants t_town_cost t_town_coins t_town_debts t_waiting_length t_waiting_ones t_served t_freeFrom) H → va_D A (w_Run cI cB cZ cS cT qt qt_town qt_town_kind qt_town_father qt_town_comes qt_town_wants qt_town_cost qt_town_coins qt_town_debts qt_waiting qt_waiting_ones qt_served qt_freeFrom t_paid t_town_people t_town_law t_town_counters t_town_kind t_town_father t_town_comes t_town_wants t_town_cost t_town_coins t_town_debts t_waiting_length t_waiting_ones t_served t_freeFrom) → va_S A s.heap H locs → ∀ ls : Array Slot, lv_has ls 4 [(2, .int x2_15)] → W p l e rmX4_minuteBehind s m av below meth c H locs 0 0 Q (F0 m 99 ls [])) → ∀ (n : Nat) (x2_10 x3_11 : Int32), Run_minuteBehind_L61 t_town_counters t_waiting_length t_freeFrom K99 n x2_10 x3_11 = some o → ∀ (H : Heap) (locs : List Loc), va_P D vwCl (w_Run cI cB cZ cS cT qt qt_town qt_town_kind qt_town_father qt_town_comes qt_town_wants qt_town_cost qt_town_coins qt_town_debts qt_waiting qt_waiting_ones qt_served qt_freeFrom t_paid t_town_people t_town_law t_town_counters t_town_kind t_town_father t_town_comes t_town_wants t_town_cost t_town_coins t_town_debts t_waiting_length t_waiting_ones t_served t_freeFrom) H → va_D A (w_Run cI cB cZ cS cT qt qt_town qt_town_kind qt_town_father qt_town_comes qt_town_wants qt_town_cost qt_town_coins qt_town_debts qt_waiting qt_waiting_ones qt_served qt_freeFrom t_paid t_town_people t_town_law t_town_counters t_town_kind t_town_father t_town_comes t_town_wants t_town_cost t_town_coins t_town_debts t_waiting_length t_waiting_ones t_served t_freeFrom) → va_S A s.heap H locs → ∀ ls : Array Slot, lv_has ls 4 [(0, .ref qt), (2, .int x2_10), (3, .int x3_11)] → W p l e rmX4_minuteBehind s m av below meth c H locs 0 0 Q (F0 m 61 ls []) := by
    intro K99 hK99 n
    induction n with
    | zero =>
      intro x2_10 x3_11 hM
      rw [Run_minuteBehind_L61] at hM
      cases hM
    | succ n ih =>
      intro x2_10 x3_11 hM H locs hP hD hS ls hl
      rw [Run_minuteBehind_L61] at hM
      refine lv_iload_n hx hb dX4_minuteBehind_61 rfl (lv_at hl 2 rfl) ?_
      refine lv_aload_n hx hb dX4_minuteBehind_62 rfl (lv_at hl 0 rfl) ?_
      refine va_get (D := D) (ci := 4) (v := .ref qt_town) (C := RX4) (T := TX4) (N := 5) hx hb hts inX4w hown hK hP 0 rfl rfl 0 (by decide) hf12 (fun _ h9 => h9) rfl dX4_minuteBehind_63 ?_
      refine va_get (D := D) (ci := 7) (v := .int t_town_counters) (C := RX7) (T := TX7) (N := 10) hx hb hts inX7w hown hK hP 1 rfl rfl 2 (by decide) hf61 (fun _ h9 => h9) rfl dX4_minuteBehind_66 ?_
      refine mr_icmp_ge (tgt := 99) hx hb hM dX4_minuteBehind_69 (by decide) (fun hM => ?_) (fun hM => ?_)
      · exact hK99 x2_10 hM _ _ hP hD hS ls (lv_sub hl [1] rfl)
      · refine lv_aload_n hx hb dX4_minuteBehind_72 rfl (lv_at hl 0 rfl) ?_
        refine va_get (D := D) (ci := 4) (v := .ref qt_waiting) (C := RX4) (T := TX4) (N := 5) hx hb hts inX4w hown hK hP 0 rfl rfl 1 (by decide) hf21 (fun _ h9 => h9) rfl dX4_minuteBehind_73 ?_
        refine va_get (D := D) (ci := 3) (v := .int t_waiting_length) (C := RX3) (T := TX3) (N := 2) hx hb hts inX3w hown hK hP 9 rfl rfl 1 (by decide) hf36 (fun _ h9 => h9) rfl dX4_minuteBehind_76 ?_
        refine mr_if_le (tgt := 99) hx hb hM dX4_minuteBehind_79 (by decide) (fun hM => ?_) (fun hM => ?_)
        · exact hK99 x2_10 hM _ _ hP hD hS ls (lv_sub hl [1] rfl)
        · refine lv_iload_n hx hb dX4_minuteBehind_82 rfl (lv_at hl 1 rfl) ?_
          refine lv_aload_n hx hb dX4_minuteBehind_83 rfl (lv_at hl 0 rfl) ?_
          refine va_get (D := D) (ci := 4) (v := .ref qt_freeFrom) (C := RX4) (T := TX4) (N := 5) hx hb hts inX4w hown hK hP 0 rfl rfl 3 (by decide) hf29 (fun _ h9 => h9) rfl dX4_minuteBehind_84 ?_
          refine lv_iload_n hx hb dX4_minuteBehind_87 rfl (lv_at hl 2 rfl) ?_
          refine mr_iald hx hb hK hP 12 0 rfl rfl hM dX4_minuteBehind_88 (fun v_12 hM => ?_)
          refine va_mmin hx hb (hml.trans hl.1.symm) hown hmmin1 hmmin2 hmmin3 hmmin4 (Nat.le_of_ble_eq_true rfl) (Nat.le_of_ble_eq_true rfl) (Nat.zero_le _) (Nat.zero_le _) dX4_minuteBehind_89 ?_
          refine mr_nmI hM (fun v_13 hM => ?_)
          refine lv_istore_n (lv' := [(2, .int v_13), (0, .ref qt), (3, .int x3_11)]) hx hb dX4_minuteBehind_92 rfl hl (by decide) rfl (fun ls hl => ?_)
          refine mr_iinc (k := 2) (d := 1) hx hb (fun x3_14 => [(3, .int x3_14), (2, .int v_13), (0, .ref qt)]) hM (by decide) dX4_minuteBehind_93 hl rfl (by decide) (fun _ => rfl) (fun x3_14 hM ls hl => ?_)
          refine lv_goto (tgt := 61) hx hb dX4_minuteBehind_96 (by decide) ?_
          exact ih v_13 x3_14 hM _ _ hP hD hS ls (lv_sub hl [2, 1, 0] rfl)
  refine hL61 _ (fun x2_15 hM H locs hP hD hS ls hl => ?_) _ x2_9 0 hM _ _ hP hD hS ls (lv_sub hl [1, 2, 0] rfl)
  refine lv_iload_n hx hb dX4_minuteBehind_99 rfl (lv_at hl 0 rfl) ?_
  have hM := Option.some.inj hM
  subst hM
  exact mr_iret hx hb hr hlocks hQ hP hD hS rfl dX4_minuteBehind_100

abbrev rmX4_go : Room := { frames := 3, cells := 0, slots := 0, locals := 73 }
set_option maxHeartbeats 40000000 in
set_option maxRecDepth 100000 in
theorem k_Run_go (l : Launch) (D : va_G) (cI cB cZ cS cT : ClassId) (qt qt_town qt_town_kind qt_town_father qt_town_comes qt_town_wants qt_town_cost qt_town_coins qt_town_debts qt_waiting qt_waiting_ones qt_served qt_freeFrom : Nat) (t_paid t_town_people t_town_law t_town_counters : Int32) (t_town_kind t_town_father t_town_comes t_town_wants t_town_cost t_town_coins t_town_debts : Nat → Int32) (t_waiting_length : Int32) (t_waiting_ones t_served t_freeFrom : Nat → Int32) (p1 : Int32) (o : Int32 × (Nat → Int32) × (Nat → Int32) × Int32 × (Nat → Int32) × (Nat → Int32) × (Nat → Int32)) (hM : Run_go p1 t_paid t_town_people t_town_law t_town_counters t_town_kind t_town_father t_town_comes t_town_wants t_town_coins t_town_debts t_waiting_length t_waiting_ones t_served t_freeFrom = some o) : mtV l yX4_go wsX4_go rmX4_go D (tys5 cI cB cZ cS cT) [.ref qt, .int p1] (w_Run cI cB cZ cS cT qt qt_town qt_town_kind qt_town_father qt_town_comes qt_town_wants qt_town_cost qt_town_coins qt_town_debts qt_waiting qt_waiting_ones qt_served qt_freeFrom t_paid t_town_people t_town_law t_town_counters t_town_kind t_town_father t_town_comes t_town_wants t_town_cost t_town_coins t_town_debts t_waiting_length t_waiting_ones t_served t_freeFrom) (w_Run cI cB cZ cS cT qt qt_town qt_town_kind qt_town_father qt_town_comes qt_town_wants qt_town_cost qt_town_coins qt_town_debts qt_waiting qt_waiting_ones qt_served qt_freeFrom o.1 t_town_people t_town_law t_town_counters t_town_kind t_town_father t_town_comes t_town_wants t_town_cost o.2.1 o.2.2.1 o.2.2.2.1 o.2.2.2.2.1 o.2.2.2.2.2.1 o.2.2.2.2.2.2) := by
  refine mtV.of (cc := cX4_go) (maxL := 5) (ret := none) (by decide) rfl (Nat.le_of_ble_eq_true rfl) ?_
  intro p e s m below meth c A Q av hav hQ hx hb hr hml hown hts hlocks hK hP hD hA hS ls hl
  have hown : s.vm.findClass RX4 = some m.cls := hown
  have hl : lv_has ls 5 [(0, .ref qt), (1, .int p1)] := hl
  unfold Run_go at hM
  have inX4w : ∀ w ∈ u_ws RX4 TX4 5, w ∈ wsX4_go := by decide +kernel
  have inX7w : ∀ w ∈ u_ws RX7 TX7 10, w ∈ wsX4_go := by decide +kernel
  have hf12 := hts (.fieldLink RX4 12 "LetsIn$Run" "town" "LLetsIn$Town;") (by decide +kernel)
  have hf43 := hts (.fieldLink RX4 43 "LetsIn$Town" "people" "I") (by decide +kernel)
  have hf46 := hts (.fieldLink RX4 46 "LetsIn$Town" "comes" "[I") (by decide +kernel)
  have hf40 := hts (.fieldLink RX4 40 "LetsIn$Run" "paid" "I") (by decide +kernel)
  have hf21 := hts (.fieldLink RX4 21 "LetsIn$Run" "waiting" "LLetsIn$Row;") (by decide +kernel)
  refine lv_iconst (v := 0) hx hb dX4_go_0 (by decide) ?_
  refine lv_istore_n (lv' := [(2, .int 0), (0, .ref qt), (1, .int p1)]) hx hb dX4_go_1 rfl hl (by decide) rfl (fun ls hl => ?_)
  refine lv_iconst (v := 0) hx hb dX4_go_2 (by decide) ?_
  refine lv_istore_n (lv' := [(3, .int 0), (2, .int 0), (0, .ref qt), (1, .int p1)]) hx hb dX4_go_3 rfl hl (by decide) rfl (fun ls hl => ?_)
  have hL4 : ∀ (K90 : Int32 → (Nat → Int32) → (Nat → Int32) → Int32 → (Nat → Int32) → (Nat → Int32) → (Nat → Int32) → Option (Int32 × (Nat → Int32) × (Nat → Int32) × Int32 × (Nat → Int32) × (Nat → Int32) × (Nat → Int32))), (∀ (t_paid_29 : Int32) (t_town_coins_30 t_town_debts_31 : Nat → Int32) (t_waiting_length_32 : Int32) (t_waiting_ones_33 t_served_34 t_freeFrom_35 : Nat → Int32), K90 t_paid_29 t_town_coins_30 t_town_debts_31 t_waiting_length_32 t_waiting_ones_33 t_served_34 t_freeFrom_35 = some o → ∀ (H : Heap) (locs : List Loc), va_P D vwCl (w_Run cI cB cZ cS cT qt qt_town qt_town_kind qt_town_father qt_town_comes qt_town_wants qt_town_cost qt_town_coins qt_town_debts qt_waiting qt_waiting_ones qt_served qt_freeFrom t_paid_29 t_town_people t_town_law t_town_counters t_town_kind t_town_father t_town_comes t_town_wants t_town_cost t_town_coins_30 t_town_debts_31 t_waiting_length_32 t_waiting_ones_33 t_served_34 t_freeFrom_35) H → va_D A (w_Run cI cB cZ cS cT qt qt_town qt_town_kind qt_town_father qt_town_comes qt_town_wants qt_town_cost qt_town_coins qt_town_debts qt_waiting qt_waiting_ones qt_served qt_freeFrom t_paid_29 t_town_people t_town_law t_town_counters t_town_kind t_town_father t_town_comes t_town_wants t_town_cost t_town_coins_30 t_town_debts_31 t_waiting_length_32 t_waiting_ones_33 t_served_34 t_freeFrom_35) → va_S A s.heap H locs → ∀ ls : Array Slot, lv_has ls 5 [] → W p l e rmX4_go s m av below meth c H locs 0 0 Q (F0 m 90 ls [])) → ∀ (n : Nat) (x2_1 x3_2 t_paid_3 : Int32) (t_town_coins_4 t_town_debts_5 : Nat → Int32) (t_waiting_length_6 : Int32) (t_waiting_ones_7 t_served_8 t_freeFrom_9 : Nat → Int32), Run_go_L4 t_town_people t_town_law t_town_counters t_town_kind t_town_father t_town_comes t_town_wants p1 K90 n x2_1 x3_2 t_paid_3 t_town_coins_4 t_town_debts_5 t_waiting_length_6 t_waiting_ones_7 t_served_8 t_freeFrom_9 = some o → ∀ (H : Heap) (locs : List Loc), va_P D vwCl (w_Run cI cB cZ cS cT qt qt_town qt_town_kind qt_town_father qt_town_comes qt_town_wants qt_town_cost qt_town_coins qt_town_debts qt_waiting qt_waiting_ones qt_served qt_freeFrom t_paid_3 t_town_people t_town_law t_town_counters t_town_kind t_town_father t_town_comes t_town_wants t_town_cost t_town_coins_4 t_town_debts_5 t_waiting_length_6 t_waiting_ones_7 t_served_8 t_freeFrom_9) H → va_D A (w_Run cI cB cZ cS cT qt qt_town qt_town_kind qt_town_father qt_town_comes qt_town_wants qt_town_cost qt_town_coins qt_town_debts qt_waiting qt_waiting_ones qt_served qt_freeFrom t_paid_3 t_town_people t_town_law t_town_counters t_town_kind t_town_father t_town_comes t_town_wants t_town_cost t_town_coins_4 t_town_debts_5 t_waiting_length_6 t_waiting_ones_7 t_served_8 t_freeFrom_9) → va_S A s.heap H locs → ∀ ls : Array Slot, lv_has ls 5 [(0, .ref qt), (1, .int p1), (2, .int x2_1), (3, .int x3_2)] → W p l e rmX4_go s m av below meth c H locs 0 0 Q (F0 m 4 ls []) := by
    intro K90 hK90 n
    induction n with
    | zero =>
      intro x2_1 x3_2 t_paid_3 t_town_coins_4 t_town_debts_5 t_waiting_length_6 t_waiting_ones_7 t_served_8 t_freeFrom_9 hM
      rw [Run_go_L4] at hM
      cases hM
    | succ n ih =>
      intro x2_1 x3_2 t_paid_3 t_town_coins_4 t_town_debts_5 t_waiting_length_6 t_waiting_ones_7 t_served_8 t_freeFrom_9 hM H locs hP hD hS ls hl
      rw [Run_go_L4] at hM
      refine lv_iload_n hx hb dX4_go_4 rfl (lv_at hl 3 rfl) ?_
      refine lv_bipush (v := 14) hx hb dX4_go_5 (by decide) ?_
      refine mr_icmp_gt (tgt := 90) hx hb hM dX4_go_7 (by decide) (fun hM => ?_) (fun hM => ?_)
      · exact hK90 t_paid_3 t_town_coins_4 t_town_debts_5 t_waiting_length_6 t_waiting_ones_7 t_served_8 t_freeFrom_9 hM _ _ hP hD hS ls (lv_sub hl [] rfl)
      · refine lv_iload_n hx hb dX4_go_10 rfl (lv_at hl 2 rfl) ?_
        refine lv_iload_n hx hb dX4_go_11 rfl (lv_at hl 1 rfl) ?_
        refine mr_icmp_gt (tgt := 90) hx hb hM dX4_go_12 (by decide) (fun hM => ?_) (fun hM => ?_)
        · exact hK90 t_paid_3 t_town_coins_4 t_town_debts_5 t_waiting_length_6 t_waiting_ones_7 t_served_8 t_freeFrom_9 hM _ _ hP hD hS ls (lv_sub hl [] rfl)
        · refine lv_iconst (v := 0) hx hb dX4_go_15 (by decide) ?_
          refine lv_istore (lv' := [(4, .int 0), (0, .ref qt), (1, .int p1), (2, .int x2_1), (3, .int x3_2)]) hx hb dX4_go_16 hl (by decide) rfl (fun ls hl => ?_)
          have hL18 : ∀ (K73 : Int32 → (Nat → Int32) → (Nat → Int32) → Int32 → (Nat → Int32) → Option (Int32 × (Nat → Int32) × (Nat → Int32) × Int32 × (Nat → Int32) × (Nat → Int32) × (Nat → Int32))), (∀ (t_paid_21 : Int32) (t_town_coins_22 t_town_debts_23 : Nat → Int32) (t_waiting_length_24 : Int32) (t_waiting_ones_25 : Nat → Int32), K73 t_paid_21 t_town_coins_22 t_town_debts_23 t_waiting_length_24 t_waiting_ones_25 = some o → ∀ (H : Heap) (locs : List Loc), va_P D vwCl (w_Run cI cB cZ cS cT qt qt_town qt_town_kind qt_town_father qt_town_comes qt_town_wants qt_town_cost qt_town_coins qt_town_debts qt_waiting qt_waiting_ones qt_served qt_freeFrom t_paid_21 t_town_people t_town_law t_town_counters t_town_kind t_town_father t_town_comes t_town_wants t_town_cost t_town_coins_22 t_town_debts_23 t_waiting_length_24 t_waiting_ones_25 t_served_8 t_freeFrom_9) H → va_D A (w_Run cI cB cZ cS cT qt qt_town qt_town_kind qt_town_father qt_town_comes qt_town_wants qt_town_cost qt_town_coins qt_town_debts qt_waiting qt_waiting_ones qt_served qt_freeFrom t_paid_21 t_town_people t_town_law t_town_counters t_town_kind t_town_father t_town_comes t_town_wants t_town_cost t_town_coins_22 t_town_debts_23 t_waiting_length_24 t_waiting_ones_25 t_served_8 t_freeFrom_9) → va_S A s.heap H locs → ∀ ls : Array Slot, lv_has ls 5 [(0, .ref qt), (1, .int p1), (2, .int x2_1), (3, .int x3_2)] → W p l e rmX4_go s m av below meth c H locs 0 0 Q (F0 m 73 ls [])) → ∀ (n : Nat) (x4_10 t_paid_11 : Int32) (t_town_coins_12 t_town_debts_13 : Nat → Int32) (t_waiting_length_14 : Int32) (t_waiting_ones_15 : Nat → Int32), Run_go_L18 t_town_people t_town_law t_town_kind t_town_father t_town_comes x2_1 K73 n x4_10 t_paid_11 t_town_coins_12 t_town_debts_13 t_waiting_length_14 t_waiting_ones_15 = some o → ∀ (H : Heap) (locs : List Loc), va_P D vwCl (w_Run cI cB cZ cS cT qt qt_town qt_town_kind qt_town_father qt_town_comes qt_town_wants qt_town_cost qt_town_coins qt_town_debts qt_waiting qt_waiting_ones qt_served qt_freeFrom t_paid_11 t_town_people t_town_law t_town_counters t_town_kind t_town_father t_town_comes t_town_wants t_town_cost t_town_coins_12 t_town_debts_13 t_waiting_length_14 t_waiting_ones_15 t_served_8 t_freeFrom_9) H → va_D A (w_Run cI cB cZ cS cT qt qt_town qt_town_kind qt_town_father qt_town_comes qt_town_wants qt_town_cost qt_town_coins qt_town_debts qt_waiting qt_waiting_ones qt_served qt_freeFrom t_paid_11 t_town_people t_town_law t_town_counters t_town_kind t_town_father t_town_comes t_town_wants t_town_cost t_town_coins_12 t_town_debts_13 t_waiting_length_14 t_waiting_ones_15 t_served_8 t_freeFrom_9) → va_S A s.heap H locs → ∀ ls : Array Slot, lv_has ls 5 [(0, .ref qt), (1, .int p1), (2, .int x2_1), (3, .int x3_2), (4, .int x4_10)] → W p l e rmX4_go s m av below meth c H locs 0 0 Q (F0 m 18 ls []) := by
            intro K73 hK73 n
            induction n with
            | zero =>
              intro x4_10 t_paid_11 t_town_coins_12 t_town_debts_13 t_waiting_length_14 t_waiting_ones_15 hM
              rw [Run_go_L18] at hM
              cases hM
            | succ n ih =>
              intro x4_10 t_paid_11 t_town_coins_12 t_town_debts_13 t_waiting_length_14 t_waiting_ones_15 hM H locs hP hD hS ls hl
              rw [Run_go_L18] at hM
              refine lv_iload hx hb dX4_go_18 (lv_at hl 4 rfl) ?_
              refine lv_aload_n hx hb dX4_go_20 rfl (lv_at hl 0 rfl) ?_
              refine va_get (D := D) (ci := 4) (v := .ref qt_town) (C := RX4) (T := TX4) (N := 5) hx hb hts inX4w hown hK hP 0 rfl rfl 0 (by decide) hf12 (fun _ h9 => h9) rfl dX4_go_21 ?_
              refine va_get (D := D) (ci := 7) (v := .int t_town_people) (C := RX7) (T := TX7) (N := 10) hx hb hts inX7w hown hK hP 1 rfl rfl 0 (by decide) hf43 (fun _ h9 => h9) rfl dX4_go_24 ?_
              refine mr_icmp_ge (tgt := 73) hx hb hM dX4_go_27 (by decide) (fun hM => ?_) (fun hM => ?_)
              · exact hK73 t_paid_11 t_town_coins_12 t_town_debts_13 t_waiting_length_14 t_waiting_ones_15 hM _ _ hP hD hS ls (lv_sub hl [0, 1, 2, 3] rfl)
              · refine lv_aload_n hx hb dX4_go_30 rfl (lv_at hl 0 rfl) ?_
                refine va_get (D := D) (ci := 4) (v := .ref qt_town) (C := RX4) (T := TX4) (N := 5) hx hb hts inX4w hown hK hP 0 rfl rfl 0 (by decide) hf12 (fun _ h9 => h9) rfl dX4_go_31 ?_
                refine va_get (D := D) (ci := 7) (v := .ref qt_town_comes) (C := RX7) (T := TX7) (N := 10) hx hb hts inX7w hown hK hP 1 rfl rfl 5 (by decide) hf46 (fun _ h9 => h9) rfl dX4_go_34 ?_
                refine lv_iload hx hb dX4_go_37 (lv_at hl 4 rfl) ?_
                refine mr_iald hx hb hK hP 4 0 rfl rfl hM dX4_go_39 (fun v_16 hM => ?_)
                refine lv_iload_n hx hb dX4_go_40 rfl (lv_at hl 2 rfl) ?_
                refine mr_icmp_ne (tgt := 67) hx hb hM dX4_go_41 (by decide) (fun hM => ?_) (fun hM => ?_)
                · refine mr_iinc (k := 4) (d := 1) hx hb (fun x4_17 => [(4, .int x4_17), (0, .ref qt), (1, .int p1), (2, .int x2_1), (3, .int x3_2)]) hM (by decide) dX4_go_67 hl rfl (by decide) (fun _ => rfl) (fun x4_17 hM ls hl => ?_)
                  refine lv_goto (tgt := 18) hx hb dX4_go_70 (by decide) ?_
                  exact ih x4_17 t_paid_11 t_town_coins_12 t_town_debts_13 t_waiting_length_14 t_waiting_ones_15 hM _ _ hP hD hS ls (lv_sub hl [1, 2, 3, 4, 0] rfl)
                · refine lv_aload_n hx hb dX4_go_44 rfl (lv_at hl 0 rfl) ?_
                  refine lv_dup hx hb dX4_go_45 rfl ?_
                  refine va_get (D := D) (ci := 4) (v := .int t_paid_11) (C := RX4) (T := TX4) (N := 5) hx hb hts inX4w hown hK hP 0 rfl rfl 4 (by decide) hf40 (fun _ h9 => h9) rfl dX4_go_46 ?_
                  refine lv_aload_n hx hb dX4_go_49 rfl (lv_at hl 0 rfl) ?_
                  refine va_get (D := D) (ci := 4) (v := .ref qt_waiting) (C := RX4) (T := TX4) (N := 5) hx hb hts inX4w hown hK hP 0 rfl rfl 1 (by decide) hf21 (fun _ h9 => h9) rfl dX4_go_50 ?_
                  refine lv_aload_n hx hb dX4_go_53 rfl (lv_at hl 0 rfl) ?_
                  refine va_get (D := D) (ci := 4) (v := .ref qt_town) (C := RX4) (T := TX4) (N := 5) hx hb hts inX4w hown hK hP 0 rfl rfl 0 (by decide) hf12 (fun _ h9 => h9) rfl dX4_go_54 ?_
                  refine lv_iload hx hb dX4_go_57 (lv_at hl 4 rfl) ?_
                  refine lv_iconst (v := 1) hx hb dX4_go_59 (by decide) ?_
                  obtain ⟨o_18, hc, hM⟩ := bind_so hM
                  refine mr_callVi (As := [.ref qt_town, .int x4_10, .int 1]) (rest := [.int t_paid_11, .ref qt]) (wr := [(qt, .inr (4, [.ref qt_town, .ref qt_waiting, .ref qt_served, .ref qt_freeFrom, .int t_paid_11])), (qt_served, .inl (cI, 7, .inl t_served_8)), (qt_freeFrom, .inl (cI, 2, .inl t_freeFrom_9))]) ⟨hx, hb, hml, hown, hts⟩ (k_Row_letIn l D cI cB cZ cS cT qt_waiting qt_waiting_ones qt_town qt_town_kind qt_town_father qt_town_comes qt_town_wants qt_town_cost qt_town_coins qt_town_debts t_waiting_length_14 t_waiting_ones_15 t_town_people t_town_law t_town_counters t_town_kind t_town_father t_town_comes t_town_wants t_town_cost t_town_coins_12 t_town_debts_13 x4_10 1 _ hc) (cwV 3 hts gX4_go_X3_letIn rfl rfl rfl (by decide +kernel) ⟨Nat.le_of_ble_eq_true rfl, Nat.le_of_ble_eq_true rfl⟩) hK hP hD hS hA [9, 10, 1, 2, 3, 4, 5, 6, 7, 8] [0, 11, 12] [0, 5, 6, 7, 8, 9, 10, 11, 12, 3, 4, 1, 2] (w_Run cI cB cZ cS cT qt qt_town qt_town_kind qt_town_father qt_town_comes qt_town_wants qt_town_cost qt_town_coins qt_town_debts qt_waiting qt_waiting_ones qt_served qt_freeFrom t_paid_11 t_town_people t_town_law t_town_counters t_town_kind t_town_father t_town_comes t_town_wants t_town_cost o_18.2.2.2.1 o_18.2.2.2.2 o_18.2.1 o_18.2.2.1 t_served_8 t_freeFrom_9) rfl rfl rfl rfl (by decide) rfl rfl 3 0 rfl rfl rfl rfl hl.1 rfl (Nat.le_of_ble_eq_true rfl) dX4_go_60 ⟨Nat.zero_le _, Nat.zero_le _⟩ (fun H locs hP hD hS => ?_)
                  refine lv_iadd hx hb dX4_go_63 ?_
                  refine mr_nmI hM (fun t_paid_19 hM => ?_)
                  refine mr_put (D := D) (ci := 4) (v := .int t_paid_19) (ty := .int) (C := RX4) (T := TX4) (N := 5) hx hb hts inX4w tyX4 tyX4_ok nmX4 hown hK hP hD hS 0 rfl rfl 4 (by decide) hf40 (fun _ h9 => h9) rfl (by decide +kernel) rfl rfl (Nat.le_of_ble_eq_true rfl) dX4_go_64 (w_Run cI cB cZ cS cT qt qt_town qt_town_kind qt_town_father qt_town_comes qt_town_wants qt_town_cost qt_town_coins qt_town_debts qt_waiting qt_waiting_ones qt_served qt_freeFrom t_paid_19 t_town_people t_town_law t_town_counters t_town_kind t_town_father t_town_comes t_town_wants t_town_cost o_18.2.2.2.1 o_18.2.2.2.2 o_18.2.1 o_18.2.2.1 t_served_8 t_freeFrom_9) rfl (fun H locs hP hD hS => ?_)
                  refine mr_iinc (k := 4) (d := 1) hx hb (fun x4_20 => [(4, .int x4_20), (0, .ref qt), (1, .int p1), (2, .int x2_1), (3, .int x3_2)]) hM (by decide) dX4_go_67 hl rfl (by decide) (fun _ => rfl) (fun x4_20 hM ls hl => ?_)
                  refine lv_goto (tgt := 18) hx hb dX4_go_70 (by decide) ?_
                  exact ih x4_20 t_paid_19 o_18.2.2.2.1 o_18.2.2.2.2 o_18.2.1 o_18.2.2.1 hM _ _ hP hD hS ls (lv_sub hl [1, 2, 3, 4, 0] rfl)
          refine hL18 _ (fun t_paid_21 t_town_coins_22 t_town_debts_23 t_waiting_length_24 t_waiting_ones_25 hM H locs hP hD hS ls hl => ?_) _ 0 t_paid_3 t_town_coins_4 t_town_debts_5 t_waiting_length_6 t_waiting_ones_7 hM _ _ hP hD hS ls (lv_sub hl [1, 2, 3, 4, 0] rfl)
          refine lv_aload_n hx hb dX4_go_73 rfl (lv_at hl 0 rfl) ?_
          refine lv_iload_n hx hb dX4_go_74 rfl (lv_at hl 2 rfl) ?_
          obtain ⟨o_26, hc, hM⟩ := bind_so hM
          refine mr_callVv (As := [.int x2_1]) (rest := []) (wr := []) ⟨hx, hb, hml, hown, hts⟩ (k_Run_takeAt l D cI cB cZ cS cT qt qt_town qt_town_kind qt_town_father qt_town_comes qt_town_wants qt_town_cost qt_town_coins qt_town_debts qt_waiting qt_waiting_ones qt_served qt_freeFrom t_paid_21 t_town_people t_town_law t_town_counters t_town_kind t_town_father t_town_comes t_town_wants t_town_cost t_town_coins_22 t_town_debts_23 t_waiting_length_24 t_waiting_ones_25 t_served_8 t_freeFrom_9 x2_1 _ hc) (cwV 1 hts gX4_go_X4_takeAt rfl rfl rfl (by decide +kernel) ⟨Nat.le_of_ble_eq_true rfl, Nat.le_of_ble_eq_true rfl⟩) hK hP hD hS hA [0, 1, 2, 3, 4, 5, 6, 7, 8, 9, 10, 11, 12] [] [0, 1, 2, 3, 4, 5, 6, 7, 8, 9, 10, 11, 12] (w_Run cI cB cZ cS cT qt qt_town qt_town_kind qt_town_father qt_town_comes qt_town_wants qt_town_cost qt_town_coins qt_town_debts qt_waiting qt_waiting_ones qt_served qt_freeFrom t_paid_21 t_town_people t_town_law t_town_counters t_town_kind t_town_father t_town_comes t_town_wants t_town_cost t_town_coins_22 t_town_debts_23 o_26.1 o_26.2.1 o_26.2.2.1 o_26.2.2.2) rfl rfl rfl rfl (by decide) rfl rfl 4 0 rfl rfl rfl rfl hl.1 rfl (Nat.le_of_ble_eq_true rfl) dX4_go_75 ⟨Nat.zero_le _, Nat.zero_le _⟩ (fun H locs hP hD hS => ?_)
          refine lv_aload_n hx hb dX4_go_78 rfl (lv_at hl 0 rfl) ?_
          refine lv_iload_n hx hb dX4_go_79 rfl (lv_at hl 2 rfl) ?_
          obtain ⟨o_27, hc, hM⟩ := bind_so hM
          refine mr_callVi (As := [.int x2_1]) (rest := []) (wr := []) ⟨hx, hb, hml, hown, hts⟩ (k_Run_minuteBehind l D cI cB cZ cS cT qt qt_town qt_town_kind qt_town_father qt_town_comes qt_town_wants qt_town_cost qt_town_coins qt_town_debts qt_waiting qt_waiting_ones qt_served qt_freeFrom t_paid_21 t_town_people t_town_law t_town_counters t_town_kind t_town_father t_town_comes t_town_wants t_town_cost t_town_coins_22 t_town_debts_23 o_26.1 o_26.2.1 o_26.2.2.1 o_26.2.2.2 x2_1 _ hc) (cwV 1 hts gX4_go_X4_minuteBehind rfl rfl rfl (by decide +kernel) ⟨Nat.le_of_ble_eq_true rfl, Nat.le_of_ble_eq_true rfl⟩) hK hP hD hS hA [0, 1, 2, 3, 4, 5, 6, 7, 8, 9, 10, 11, 12] [] [0, 1, 2, 3, 4, 5, 6, 7, 8, 9, 10, 11, 12] (w_Run cI cB cZ cS cT qt qt_town qt_town_kind qt_town_father qt_town_comes qt_town_wants qt_town_cost qt_town_coins qt_town_debts qt_waiting qt_waiting_ones qt_served qt_freeFrom t_paid_21 t_town_people t_town_law t_town_counters t_town_kind t_town_father t_town_comes t_town_wants t_town_cost t_town_coins_22 t_town_debts_23 o_26.1 o_26.2.1 o_26.2.2.1 o_26.2.2.2) rfl rfl rfl rfl (by decide) rfl rfl 4 0 rfl rfl rfl rfl hl.1 rfl (Nat.le_of_ble_eq_true rfl) dX4_go_80 ⟨Nat.zero_le _, Nat.zero_le _⟩ (fun H locs hP hD hS => ?_)
          refine lv_istore_n (lv' := [(2, .int o_27), (0, .ref qt), (1, .int p1), (3, .int x3_2)]) hx hb dX4_go_83 rfl hl (by decide) rfl (fun ls hl => ?_)
          refine mr_iinc (k := 3) (d := 1) hx hb (fun x3_28 => [(3, .int x3_28), (2, .int o_27), (0, .ref qt), (1, .int p1)]) hM (by decide) dX4_go_84 hl rfl (by decide) (fun _ => rfl) (fun x3_28 hM ls hl => ?_)
          refine lv_goto (tgt := 4) hx hb dX4_go_87 (by decide) ?_
          exact ih o_27 x3_28 t_paid_21 t_town_coins_22 t_town_debts_23 o_26.1 o_26.2.1 o_26.2.2.1 o_26.2.2.2 hM _ _ hP hD hS ls (lv_sub hl [2, 3, 1, 0] rfl)
  refine hL4 _ (fun t_paid_29 t_town_coins_30 t_town_debts_31 t_waiting_length_32 t_waiting_ones_33 t_served_34 t_freeFrom_35 hM H locs hP hD hS ls hl => ?_) _ 0 0 t_paid t_town_coins t_town_debts t_waiting_length t_waiting_ones t_served t_freeFrom hM _ _ hP hD hS ls (lv_sub hl [2, 3, 1, 0] rfl)
  have hM := Option.some.inj hM
  subst hM
  exact mr_vret hx hb hr hlocks hQ hP hD hS dX4_go_90

abbrev rmX4_waitOf : Room := { frames := 0, cells := 0, slots := 0, locals := 0 }
set_option maxHeartbeats 40000000 in
set_option maxRecDepth 100000 in
theorem k_Run_waitOf (l : Launch) (D : va_G) (cI cB cZ cS cT : ClassId) (qt qt_town qt_town_kind qt_town_father qt_town_comes qt_town_wants qt_town_cost qt_town_coins qt_town_debts qt_waiting qt_waiting_ones qt_served qt_freeFrom : Nat) (t_paid t_town_people t_town_law t_town_counters : Int32) (t_town_kind t_town_father t_town_comes t_town_wants t_town_cost t_town_coins t_town_debts : Nat → Int32) (t_waiting_length : Int32) (t_waiting_ones t_served t_freeFrom : Nat → Int32) (p1 : Int32) (o : Int32) (hM : Run_waitOf p1 t_town_comes t_served = some o) : mtI l yX4_waitOf wsX4_waitOf rmX4_waitOf D (tys5 cI cB cZ cS cT) [.ref qt, .int p1] (w_Run cI cB cZ cS cT qt qt_town qt_town_kind qt_town_father qt_town_comes qt_town_wants qt_town_cost qt_town_coins qt_town_debts qt_waiting qt_waiting_ones qt_served qt_freeFrom t_paid t_town_people t_town_law t_town_counters t_town_kind t_town_father t_town_comes t_town_wants t_town_cost t_town_coins t_town_debts t_waiting_length t_waiting_ones t_served t_freeFrom) (w_Run cI cB cZ cS cT qt qt_town qt_town_kind qt_town_father qt_town_comes qt_town_wants qt_town_cost qt_town_coins qt_town_debts qt_waiting qt_waiting_ones qt_served qt_freeFrom t_paid t_town_people t_town_law t_town_counters t_town_kind t_town_father t_town_comes t_town_wants t_town_cost t_town_coins t_town_debts t_waiting_length t_waiting_ones t_served t_freeFrom) o := by
  refine mtI.of (cc := cX4_waitOf) (maxL := 2) (ret := (some .int)) (by decide) rfl (Nat.le_of_ble_eq_true rfl) ?_
  intro p e s m below meth c A Q av hav hQ hx hb hr hml hown hts hlocks hK hP hD hA hS ls hl
  have hown : s.vm.findClass RX4 = some m.cls := hown
  have hl : lv_has ls 2 [(0, .ref qt), (1, .int p1)] := hl
  unfold Run_waitOf at hM
  have inX4w : ∀ w ∈ u_ws RX4 TX4 5, w ∈ wsX4_waitOf := by decide +kernel
  have inX7w : ∀ w ∈ u_ws RX7 TX7 10, w ∈ wsX4_waitOf := by decide +kernel
  have hf25 := hts (.fieldLink RX4 25 "LetsIn$Run" "served" "[I") (by decide +kernel)
  have hf12 := hts (.fieldLink RX4 12 "LetsIn$Run" "town" "LLetsIn$Town;") (by decide +kernel)
  have hf46 := hts (.fieldLink RX4 46 "LetsIn$Town" "comes" "[I") (by decide +kernel)
  refine lv_aload_n hx hb dX4_waitOf_0 rfl (lv_at hl 0 rfl) ?_
  refine va_get (D := D) (ci := 4) (v := .ref qt_served) (C := RX4) (T := TX4) (N := 5) hx hb hts inX4w hown hK hP 0 rfl rfl 2 (by decide) hf25 (fun _ h9 => h9) rfl dX4_waitOf_1 ?_
  refine lv_iload_n hx hb dX4_waitOf_4 rfl (lv_at hl 1 rfl) ?_
  refine mr_iald hx hb hK hP 11 0 rfl rfl hM dX4_waitOf_5 (fun v_1 hM => ?_)
  refine lv_aload_n hx hb dX4_waitOf_6 rfl (lv_at hl 0 rfl) ?_
  refine va_get (D := D) (ci := 4) (v := .ref qt_town) (C := RX4) (T := TX4) (N := 5) hx hb hts inX4w hown hK hP 0 rfl rfl 0 (by decide) hf12 (fun _ h9 => h9) rfl dX4_waitOf_7 ?_
  refine va_get (D := D) (ci := 7) (v := .ref qt_town_comes) (C := RX7) (T := TX7) (N := 10) hx hb hts inX7w hown hK hP 1 rfl rfl 5 (by decide) hf46 (fun _ h9 => h9) rfl dX4_waitOf_10 ?_
  refine lv_iload_n hx hb dX4_waitOf_13 rfl (lv_at hl 1 rfl) ?_
  refine mr_iald hx hb hK hP 4 0 rfl rfl hM dX4_waitOf_14 (fun v_2 hM => ?_)
  refine lv_isub hx hb dX4_waitOf_15 ?_
  have hM := Option.some.inj hM
  subst hM
  exact mr_iret hx hb hr hlocks hQ hP hD hS rfl dX4_waitOf_16

abbrev rmX4_sum : Room := { frames := 1, cells := 0, slots := 0, locals := 21 }
set_option maxHeartbeats 40000000 in
set_option maxRecDepth 100000 in
theorem k_Run_sum (l : Launch) (D : va_G) (cI cB cZ cS cT : ClassId) (qt qt_town qt_town_kind qt_town_father qt_town_comes qt_town_wants qt_town_cost qt_town_coins qt_town_debts qt_waiting qt_waiting_ones qt_served qt_freeFrom : Nat) (t_paid t_town_people t_town_law t_town_counters : Int32) (t_town_kind t_town_father t_town_comes t_town_wants t_town_cost t_town_coins t_town_debts : Nat → Int32) (t_waiting_length : Int32) (t_waiting_ones t_served t_freeFrom : Nat → Int32) (p1 : Int32) (o : Int32) (hM : Run_sum p1 t_paid t_town_people t_town_comes t_town_wants t_town_cost t_served = some o) : mtI l yX4_sum wsX4_sum rmX4_sum D (tys5 cI cB cZ cS cT) [.ref qt, .int p1] (w_Run cI cB cZ cS cT qt qt_town qt_town_kind qt_town_father qt_town_comes qt_town_wants qt_town_cost qt_town_coins qt_town_debts qt_waiting qt_waiting_ones qt_served qt_freeFrom t_paid t_town_people t_town_law t_town_counters t_town_kind t_town_father t_town_comes t_town_wants t_town_cost t_town_coins t_town_debts t_waiting_length t_waiting_ones t_served t_freeFrom) (w_Run cI cB cZ cS cT qt qt_town qt_town_kind qt_town_father qt_town_comes qt_town_wants qt_town_cost qt_town_coins qt_town_debts qt_waiting qt_waiting_ones qt_served qt_freeFrom t_paid t_town_people t_town_law t_town_counters t_town_kind t_town_father t_town_comes t_town_wants t_town_cost t_town_coins t_town_debts t_waiting_length t_waiting_ones t_served t_freeFrom) o := by
  refine mtI.of (cc := cX4_sum) (maxL := 6) (ret := (some .int)) (by decide) rfl (Nat.le_of_ble_eq_true rfl) ?_
  intro p e s m below meth c A Q av hav hQ hx hb hr hml hown hts hlocks hK hP hD hA hS ls hl
  have hown : s.vm.findClass RX4 = some m.cls := hown
  have hl : lv_has ls 6 [(0, .ref qt), (1, .int p1)] := hl
  unfold Run_sum at hM
  have inX4w : ∀ w ∈ u_ws RX4 TX4 5, w ∈ wsX4_sum := by decide +kernel
  have inX7w : ∀ w ∈ u_ws RX7 TX7 10, w ∈ wsX4_sum := by decide +kernel
  have hf12 := hts (.fieldLink RX4 12 "LetsIn$Run" "town" "LLetsIn$Town;") (by decide +kernel)
  have hf43 := hts (.fieldLink RX4 43 "LetsIn$Town" "people" "I") (by decide +kernel)
  have hf80 := hts (.fieldLink RX4 80 "LetsIn$Town" "cost" "[I") (by decide +kernel)
  have hf25 := hts (.fieldLink RX4 25 "LetsIn$Run" "served" "[I") (by decide +kernel)
  have hf68 := hts (.fieldLink RX4 68 "LetsIn$Town" "wants" "[I") (by decide +kernel)
  have hmmax1 := hts (.methodLink RX4 83 Lib.Math.max.name) (by decide +kernel)
  have hmmax2 := hts (.static Lib.Math.max.name) (by decide +kernel)
  have hmmax3 := hts (.initialized "java/lang/Math") (by decide +kernel)
  have hmmax4 := hts (.code Lib.Math.max.name Lib.Math.max.code 2 (some .int)) (by decide +kernel)
  have hf40 := hts (.fieldLink RX4 40 "LetsIn$Run" "paid" "I") (by decide +kernel)
  refine lv_iconst (v := 0) hx hb dX4_sum_0 (by decide) ?_
  refine lv_istore_n (lv' := [(2, .int 0), (0, .ref qt), (1, .int p1)]) hx hb dX4_sum_1 rfl hl (by decide) rfl (fun ls hl => ?_)
  refine lv_iconst (v := 0) hx hb dX4_sum_2 (by decide) ?_
  refine lv_istore_n (lv' := [(3, .int 0), (2, .int 0), (0, .ref qt), (1, .int p1)]) hx hb dX4_sum_3 rfl hl (by decide) rfl (fun ls hl => ?_)
  refine lv_iconst (v := 0) hx hb dX4_sum_4 (by decide) ?_
  refine lv_istore (lv' := [(4, .int 0), (3, .int 0), (2, .int 0), (0, .ref qt), (1, .int p1)]) hx hb dX4_sum_5 hl (by decide) rfl (fun ls hl => ?_)
  refine lv_iconst (v := 0) hx hb dX4_sum_7 (by decide) ?_
  refine lv_istore (lv' := [(5, .int 0), (4, .int 0), (3, .int 0), (2, .int 0), (0, .ref qt), (1, .int p1)]) hx hb dX4_sum_8 hl (by decide) rfl (fun ls hl => ?_)
  have hL10 : ∀ (K82 : Int32 → Int32 → Int32 → Option (Int32)), (∀ (x2_14 x3_15 x4_16 : Int32), K82 x2_14 x3_15 x4_16 = some o → ∀ (H : Heap) (locs : List Loc), va_P D vwCl (w_Run cI cB cZ cS cT qt qt_town qt_town_kind qt_town_father qt_town_comes qt_town_wants qt_town_cost qt_town_coins qt_town_debts qt_waiting qt_waiting_ones qt_served qt_freeFrom t_paid t_town_people t_town_law t_town_counters t_town_kind t_town_father t_town_comes t_town_wants t_town_cost t_town_coins t_town_debts t_waiting_length t_waiting_ones t_served t_freeFrom) H → va_D A (w_Run cI cB cZ cS cT qt qt_town qt_town_kind qt_town_father qt_town_comes qt_town_wants qt_town_cost qt_town_coins qt_town_debts qt_waiting qt_waiting_ones qt_served qt_freeFrom t_paid t_town_people t_town_law t_town_counters t_town_kind t_town_father t_town_comes t_town_wants t_town_cost t_town_coins t_town_debts t_waiting_length t_waiting_ones t_served t_freeFrom) → va_S A s.heap H locs → ∀ ls : Array Slot, lv_has ls 6 [(0, .ref qt), (1, .int p1), (2, .int x2_14), (3, .int x3_15), (4, .int x4_16)] → W p l e rmX4_sum s m av below meth c H locs 0 0 Q (F0 m 82 ls [])) → ∀ (n : Nat) (x2_1 x3_2 x4_3 x5_4 : Int32), Run_sum_L10 t_town_people t_town_comes t_town_wants t_town_cost t_served K82 n x2_1 x3_2 x4_3 x5_4 = some o → ∀ (H : Heap) (locs : List Loc), va_P D vwCl (w_Run cI cB cZ cS cT qt qt_town qt_town_kind qt_town_father qt_town_comes qt_town_wants qt_town_cost qt_town_coins qt_town_debts qt_waiting qt_waiting_ones qt_served qt_freeFrom t_paid t_town_people t_town_law t_town_counters t_town_kind t_town_father t_town_comes t_town_wants t_town_cost t_town_coins t_town_debts t_waiting_length t_waiting_ones t_served t_freeFrom) H → va_D A (w_Run cI cB cZ cS cT qt qt_town qt_town_kind qt_town_father qt_town_comes qt_town_wants qt_town_cost qt_town_coins qt_town_debts qt_waiting qt_waiting_ones qt_served qt_freeFrom t_paid t_town_people t_town_law t_town_counters t_town_kind t_town_father t_town_comes t_town_wants t_town_cost t_town_coins t_town_debts t_waiting_length t_waiting_ones t_served t_freeFrom) → va_S A s.heap H locs → ∀ ls : Array Slot, lv_has ls 6 [(0, .ref qt), (1, .int p1), (2, .int x2_1), (3, .int x3_2), (4, .int x4_3), (5, .int x5_4)] → W p l e rmX4_sum s m av below meth c H locs 0 0 Q (F0 m 10 ls []) := by
    intro K82 hK82 n
    induction n with
    | zero =>
      intro x2_1 x3_2 x4_3 x5_4 hM
      rw [Run_sum_L10] at hM
      cases hM
    | succ n ih =>
      intro x2_1 x3_2 x4_3 x5_4 hM H locs hP hD hS ls hl
      rw [Run_sum_L10] at hM
      refine lv_iload hx hb dX4_sum_10 (lv_at hl 5 rfl) ?_
      refine lv_aload_n hx hb dX4_sum_12 rfl (lv_at hl 0 rfl) ?_
      refine va_get (D := D) (ci := 4) (v := .ref qt_town) (C := RX4) (T := TX4) (N := 5) hx hb hts inX4w hown hK hP 0 rfl rfl 0 (by decide) hf12 (fun _ h9 => h9) rfl dX4_sum_13 ?_
      refine va_get (D := D) (ci := 7) (v := .int t_town_people) (C := RX7) (T := TX7) (N := 10) hx hb hts inX7w hown hK hP 1 rfl rfl 0 (by decide) hf43 (fun _ h9 => h9) rfl dX4_sum_16 ?_
      refine mr_icmp_ge (tgt := 82) hx hb hM dX4_sum_19 (by decide) (fun hM => ?_) (fun hM => ?_)
      · exact hK82 x2_1 x3_2 x4_3 hM _ _ hP hD hS ls (lv_sub hl [0, 1, 2, 3, 4] rfl)
      · refine lv_iload_n hx hb dX4_sum_22 rfl (lv_at hl 2 rfl) ?_
        refine lv_aload_n hx hb dX4_sum_23 rfl (lv_at hl 0 rfl) ?_
        refine lv_iload hx hb dX4_sum_24 (lv_at hl 5 rfl) ?_
        obtain ⟨o_5, hc, hM⟩ := bind_so hM
        refine mr_callVi (As := [.int x5_4]) (rest := [.int x2_1]) (wr := []) ⟨hx, hb, hml, hown, hts⟩ (k_Run_waitOf l D cI cB cZ cS cT qt qt_town qt_town_kind qt_town_father qt_town_comes qt_town_wants qt_town_cost qt_town_coins qt_town_debts qt_waiting qt_waiting_ones qt_served qt_freeFrom t_paid t_town_people t_town_law t_town_counters t_town_kind t_town_father t_town_comes t_town_wants t_town_cost t_town_coins t_town_debts t_waiting_length t_waiting_ones t_served t_freeFrom x5_4 _ hc) (cwV 1 hts gX4_sum_X4_waitOf rfl rfl rfl (by decide +kernel) ⟨Nat.le_of_ble_eq_true rfl, Nat.le_of_ble_eq_true rfl⟩) hK hP hD hS hA [0, 1, 2, 3, 4, 5, 6, 7, 8, 9, 10, 11, 12] [] [0, 1, 2, 3, 4, 5, 6, 7, 8, 9, 10, 11, 12] (w_Run cI cB cZ cS cT qt qt_town qt_town_kind qt_town_father qt_town_comes qt_town_wants qt_town_cost qt_town_coins qt_town_debts qt_waiting qt_waiting_ones qt_served qt_freeFrom t_paid t_town_people t_town_law t_town_counters t_town_kind t_town_father t_town_comes t_town_wants t_town_cost t_town_coins t_town_debts t_waiting_length t_waiting_ones t_served t_freeFrom) rfl rfl rfl rfl (by decide) rfl rfl 4 0 rfl rfl rfl rfl hl.1 rfl (Nat.le_of_ble_eq_true rfl) dX4_sum_26 ⟨Nat.zero_le _, Nat.zero_le _⟩ (fun H locs hP hD hS => ?_)
        refine lv_iadd hx hb dX4_sum_29 ?_
        refine mr_nmI hM (fun x2_6 hM => ?_)
        refine lv_istore_n (lv' := [(2, .int x2_6), (0, .ref qt), (1, .int p1), (3, .int x3_2), (4, .int x4_3), (5, .int x5_4)]) hx hb dX4_sum_30 rfl hl (by decide) rfl (fun ls hl => ?_)
        refine lv_iload_n hx hb dX4_sum_31 rfl (lv_at hl 3 rfl) ?_
        refine lv_aload_n hx hb dX4_sum_32 rfl (lv_at hl 1 rfl) ?_
        refine lv_iload hx hb dX4_sum_33 (lv_at hl 5 rfl) ?_
        obtain ⟨o_7, hc, hM⟩ := bind_so hM
        refine mr_callVi (As := [.int x5_4]) (rest := [.int x3_2]) (wr := []) ⟨hx, hb, hml, hown, hts⟩ (k_Run_waitOf l D cI cB cZ cS cT qt qt_town qt_town_kind qt_town_father qt_town_comes qt_town_wants qt_town_cost qt_town_coins qt_town_debts qt_waiting qt_waiting_ones qt_served qt_freeFrom t_paid t_town_people t_town_law t_town_counters t_town_kind t_town_father t_town_comes t_town_wants t_town_cost t_town_coins t_town_debts t_waiting_length t_waiting_ones t_served t_freeFrom x5_4 _ hc) (cwV 1 hts gX4_sum_X4_waitOf rfl rfl rfl (by decide +kernel) ⟨Nat.le_of_ble_eq_true rfl, Nat.le_of_ble_eq_true rfl⟩) hK hP hD hS hA [0, 1, 2, 3, 4, 5, 6, 7, 8, 9, 10, 11, 12] [] [0, 1, 2, 3, 4, 5, 6, 7, 8, 9, 10, 11, 12] (w_Run cI cB cZ cS cT qt qt_town qt_town_kind qt_town_father qt_town_comes qt_town_wants qt_town_cost qt_town_coins qt_town_debts qt_waiting qt_waiting_ones qt_served qt_freeFrom t_paid t_town_people t_town_law t_town_counters t_town_kind t_town_father t_town_comes t_town_wants t_town_cost t_town_coins t_town_debts t_waiting_length t_waiting_ones t_served t_freeFrom) rfl rfl rfl rfl (by decide) rfl rfl 4 0 rfl rfl rfl rfl hl.1 rfl (Nat.le_of_ble_eq_true rfl) dX4_sum_35 ⟨Nat.zero_le _, Nat.zero_le _⟩ (fun H locs hP hD hS => ?_)
        refine lv_aload_n hx hb dX4_sum_38 rfl (lv_at hl 1 rfl) ?_
        refine va_get (D := D) (ci := 4) (v := .ref qt_town) (C := RX4) (T := TX4) (N := 5) hx hb hts inX4w hown hK hP 0 rfl rfl 0 (by decide) hf12 (fun _ h9 => h9) rfl dX4_sum_39 ?_
        refine va_get (D := D) (ci := 7) (v := .ref qt_town_cost) (C := RX7) (T := TX7) (N := 10) hx hb hts inX7w hown hK hP 1 rfl rfl 7 (by decide) hf80 (fun _ h9 => h9) rfl dX4_sum_42 ?_
        refine lv_iload hx hb dX4_sum_45 (lv_at hl 5 rfl) ?_
        refine mr_iald hx hb hK hP 6 0 rfl rfl hM dX4_sum_47 (fun v_8 hM => ?_)
        refine lv_imul hx hb dX4_sum_48 ?_
        refine lv_iadd hx hb dX4_sum_49 ?_
        refine mr_nmI hM (fun x3_9 hM => ?_)
        refine lv_istore_n (lv' := [(3, .int x3_9), (2, .int x2_6), (0, .ref qt), (1, .int p1), (4, .int x4_3), (5, .int x5_4)]) hx hb dX4_sum_50 rfl hl (by decide) rfl (fun ls hl => ?_)
        refine lv_iload hx hb dX4_sum_51 (lv_at hl 4 rfl) ?_
        refine lv_aload_n hx hb dX4_sum_53 rfl (lv_at hl 2 rfl) ?_
        refine va_get (D := D) (ci := 4) (v := .ref qt_served) (C := RX4) (T := TX4) (N := 5) hx hb hts inX4w hown hK hP 0 rfl rfl 2 (by decide) hf25 (fun _ h9 => h9) rfl dX4_sum_54 ?_
        refine lv_iload hx hb dX4_sum_57 (lv_at hl 5 rfl) ?_
        refine mr_iald hx hb hK hP 11 0 rfl rfl hM dX4_sum_59 (fun v_10 hM => ?_)
        refine lv_aload_n hx hb dX4_sum_60 rfl (lv_at hl 2 rfl) ?_
        refine va_get (D := D) (ci := 4) (v := .ref qt_town) (C := RX4) (T := TX4) (N := 5) hx hb hts inX4w hown hK hP 0 rfl rfl 0 (by decide) hf12 (fun _ h9 => h9) rfl dX4_sum_61 ?_
        refine va_get (D := D) (ci := 7) (v := .ref qt_town_wants) (C := RX7) (T := TX7) (N := 10) hx hb hts inX7w hown hK hP 1 rfl rfl 6 (by decide) hf68 (fun _ h9 => h9) rfl dX4_sum_64 ?_
        refine lv_iload hx hb dX4_sum_67 (lv_at hl 5 rfl) ?_
        refine mr_iald hx hb hK hP 5 0 rfl rfl hM dX4_sum_69 (fun v_11 hM => ?_)
        refine lv_iadd hx hb dX4_sum_70 ?_
        refine va_mmax hx hb (hml.trans hl.1.symm) hown hmmax1 hmmax2 hmmax3 hmmax4 (Nat.le_of_ble_eq_true rfl) (Nat.le_of_ble_eq_true rfl) (Nat.zero_le _) (Nat.zero_le _) dX4_sum_71 ?_
        refine mr_nmI hM (fun v_12 hM => ?_)
        refine lv_istore (lv' := [(4, .int v_12), (3, .int x3_9), (2, .int x2_6), (0, .ref qt), (1, .int p1), (5, .int x5_4)]) hx hb dX4_sum_74 hl (by decide) rfl (fun ls hl => ?_)
        refine mr_iinc (k := 5) (d := 1) hx hb (fun x5_13 => [(5, .int x5_13), (4, .int v_12), (3, .int x3_9), (2, .int x2_6), (0, .ref qt), (1, .int p1)]) hM (by decide) dX4_sum_76 hl rfl (by decide) (fun _ => rfl) (fun x5_13 hM ls hl => ?_)
        refine lv_goto (tgt := 10) hx hb dX4_sum_79 (by decide) ?_
        exact ih x2_6 x3_9 v_12 x5_13 hM _ _ hP hD hS ls (lv_sub hl [4, 5, 3, 2, 1, 0] rfl)
  refine hL10 _ (fun x2_14 x3_15 x4_16 hM H locs hP hD hS ls hl => ?_) _ 0 0 0 0 hM _ _ hP hD hS ls (lv_sub hl [4, 5, 3, 2, 1, 0] rfl)
  refine lv_iload_n hx hb dX4_sum_82 rfl (lv_at hl 1 rfl) ?_
  by_cases c0 : p1 = 0
  · rw [if_pos c0] at hM
    refine lv_tableIn (off := 25) (tgt := 108) hx hb dX4_sum_83 (by rw [c0]; decide) (by rw [c0]; decide) (by rw [c0]; decide) (by decide) ?_
    refine lv_iload_n hx hb dX4_sum_108 rfl (lv_at hl 2 rfl) ?_
    have hM := Option.some.inj hM
    subst hM
    exact mr_iret hx hb hr hlocks hQ hP hD hS rfl dX4_sum_109
  · rw [if_neg c0] at hM
    by_cases c1 : p1 = 1
    · rw [if_pos c1] at hM
      refine lv_tableIn (off := 27) (tgt := 110) hx hb dX4_sum_83 (by rw [c1]; decide) (by rw [c1]; decide) (by rw [c1]; decide) (by decide) ?_
      refine lv_iload_n hx hb dX4_sum_110 rfl (lv_at hl 3 rfl) ?_
      have hM := Option.some.inj hM
      subst hM
      exact mr_iret hx hb hr hlocks hQ hP hD hS rfl dX4_sum_111
    · rw [if_neg c1] at hM
      by_cases c2 : p1 = 2
      · rw [if_pos c2] at hM
        refine lv_tableIn (off := 29) (tgt := 112) hx hb dX4_sum_83 (by rw [c2]; decide) (by rw [c2]; decide) (by rw [c2]; decide) (by decide) ?_
        refine lv_iload hx hb dX4_sum_112 (lv_at hl 4 rfl) ?_
        have hM := Option.some.inj hM
        subst hM
        exact mr_iret hx hb hr hlocks hQ hP hD hS rfl dX4_sum_114
      · rw [if_neg c2] at hM
        refine lv_tableOut (tgt := 115) hx hb dX4_sum_83 (by have t0 := lv_neT c0 (show ((0 : Int32)).toInt = 0 by decide); have t1 := lv_neT c1 (show ((1 : Int32)).toInt = 1 by decide); have t2 := lv_neT c2 (show ((2 : Int32)).toInt = 2 by decide); omega) (by decide) ?_
        refine lv_aload_n hx hb dX4_sum_115 rfl (lv_at hl 0 rfl) ?_
        refine va_get (D := D) (ci := 4) (v := .int t_paid) (C := RX4) (T := TX4) (N := 5) hx hb hts inX4w hown hK hP 0 rfl rfl 4 (by decide) hf40 (fun _ h9 => h9) rfl dX4_sum_116 ?_
        have hM := Option.some.inj hM
        subst hM
        exact mr_iret hx hb hr hlocks hQ hP hD hS rfl dX4_sum_119
