abbrev rmX2_isNamed : Room := { frames := 4, cells := 0, slots := 0, locals := 85 }
set_option maxHeartbeats 40000000 in
set_option maxRecDepth 100000 in
theorem k_Rdr_isNamed (l : Launch) (D : va_G) (kK kV : Nat → Nat) (cI cB cZ cS cT : ClassId) (qt qt_draft qt_draft_kind qt_draft_father qt_draft_comes qt_draft_wants qt_draft_cost qt_draft_coins qt_draft_debts qt_tape qt_tape_bytes : Nat) (t_fault t_at t_sort t_start t_value t_lawTold t_countersTold t_draft_people t_draft_law t_draft_counters : Int32) (t_draft_kind t_draft_father t_draft_comes t_draft_wants t_draft_cost t_draft_coins t_draft_debts : Nat → Int32) (t_tape_length : Int32) (t_tape_bytes : Nat → Int32) (p1 : Nat) (hs_p1 : p1 < 9) (o : Int32) (hM : Rdr_isNamed p1 t_at t_sort t_start t_tape_bytes = some o) : msI l yX2_isNamed wsX2_isNamed rmX2_isNamed D (tys5 cI cB cZ cS cT) kK kV [.ref qt, .ref (kK p1)] (w_Rdr cI cB cZ cS cT qt qt_draft qt_draft_kind qt_draft_father qt_draft_comes qt_draft_wants qt_draft_cost qt_draft_coins qt_draft_debts qt_tape qt_tape_bytes t_fault t_at t_sort t_start t_value t_lawTold t_countersTold t_draft_people t_draft_law t_draft_counters t_draft_kind t_draft_father t_draft_comes t_draft_wants t_draft_cost t_draft_coins t_draft_debts t_tape_length t_tape_bytes) (w_Rdr cI cB cZ cS cT qt qt_draft qt_draft_kind qt_draft_father qt_draft_comes qt_draft_wants qt_draft_cost qt_draft_coins qt_draft_debts qt_tape qt_tape_bytes t_fault t_at t_sort t_start t_value t_lawTold t_countersTold t_draft_people t_draft_law t_draft_counters t_draft_kind t_draft_father t_draft_comes t_draft_wants t_draft_cost t_draft_coins t_draft_debts t_tape_length t_tape_bytes) o := by
  refine msI.of (cc := cX2_isNamed) (maxL := 3) (ret := (some .boolean)) (by decide) rfl (Nat.le_of_ble_eq_true rfl) ?_
  intro p e s m below meth c A Q av hav hQ hx hb hr hml hown hts hlocks hK hP hD hA hS hX ls hl
  have hown : s.vm.findClass RX2 = some m.cls := hown
  have hl : lv_has ls 3 [(0, .ref qt), (1, .ref (kK p1))] := hl
  unfold Rdr_isNamed at hM
  have inX2w : ∀ w ∈ u_ws RX2 TX2 9, w ∈ wsX2_isNamed := by decide +kernel
  have inX6w : ∀ w ∈ u_ws RX6 TX6 2, w ∈ wsX2_isNamed := by decide +kernel
  have hf46 := hts (.fieldLink RX2 46 "LetsIn$Reader" "sort" "I") (by decide +kernel)
  have hf29 := hts (.fieldLink RX2 29 "LetsIn$Reader" "at" "I") (by decide +kernel)
  have hf55 := hts (.fieldLink RX2 55 "LetsIn$Reader" "start" "I") (by decide +kernel)
  have hf12 := hts (.fieldLink RX2 12 "LetsIn$Reader" "tape" "LLetsIn$Tape;") (by decide +kernel)
  have hf165 := hts (.fieldLink RX2 165 "LetsIn$Tape" "bytes" "[B") (by decide +kernel)
  refine lv_aload_n hx hb dX2_isNamed_0 rfl (lv_at hl 0 rfl) ?_
  refine va_get (D := D) (ci := 2) (v := .int t_sort) (C := RX2) (T := TX2) (N := 9) hx hb hts inX2w hown hK hP 0 rfl rfl 4 (by decide) hf46 (fun _ h9 => h9) rfl dX2_isNamed_1 ?_
  refine lv_iconst (v := 1) hx hb dX2_isNamed_4 (by decide) ?_
  refine mr_icmp_ne (tgt := 24) hx hb hM dX2_isNamed_5 (by decide) (fun hM => ?_) (fun hM => ?_)
  · refine lv_iconst (v := 0) hx hb dX2_isNamed_24 (by decide) ?_
    have hM := Option.some.inj hM
    subst hM
    exact mr_zret hx hb hr (by decide) hlocks hQ hP hD hS rfl dX2_isNamed_25
  · refine lv_aload_n hx hb dX2_isNamed_8 rfl (lv_at hl 0 rfl) ?_
    refine va_get (D := D) (ci := 2) (v := .int t_at) (C := RX2) (T := TX2) (N := 9) hx hb hts inX2w hown hK hP 0 rfl rfl 3 (by decide) hf29 (fun _ h9 => h9) rfl dX2_isNamed_9 ?_
    refine lv_aload_n hx hb dX2_isNamed_12 rfl (lv_at hl 0 rfl) ?_
    refine va_get (D := D) (ci := 2) (v := .int t_start) (C := RX2) (T := TX2) (N := 9) hx hb hts inX2w hown hK hP 0 rfl rfl 5 (by decide) hf55 (fun _ h9 => h9) rfl dX2_isNamed_13 ?_
    refine lv_isub hx hb dX2_isNamed_16 ?_
    refine lv_aload_n hx hb dX2_isNamed_17 rfl (lv_at hl 1 rfl) ?_
    refine mr_strV (As := []) (rest := [.int (t_at - t_start)]) ⟨hx, hb, hml, hown, hts⟩ (k_J0_length l D (tys5 cI cB cZ cS cT) kK kV p1 hs_p1) (cwV 0 hts gX2_isNamed_J0_length_8abf5 rfl rfl rfl (by decide +kernel) ⟨Nat.le_of_ble_eq_true rfl, Nat.le_of_ble_eq_true rfl⟩) hs_p1 hX hK hP hD hS hA rfl hl.1 rfl (Nat.le_of_ble_eq_true rfl) dX2_isNamed_18 ⟨Nat.zero_le _, Nat.zero_le _⟩ (fun H locs hP hS => ?_)
    refine mr_icmp_eq (tgt := 26) hx hb hM dX2_isNamed_21 (by decide) (fun hM => ?_) (fun hM => ?_)
    · refine lv_iconst (v := 0) hx hb dX2_isNamed_26 (by decide) ?_
      refine lv_istore_n (lv' := [(2, .int 0), (0, .ref qt), (1, .ref (kK p1))]) hx hb dX2_isNamed_27 rfl hl (by decide) rfl (fun ls hl => ?_)
      have hL28 : ∀ (K58 : Option (Int32)) (K66 : Option (Int32)), (K58  = some o → ∀ (H : Heap) (locs : List Loc), va_P D vwCl (w_Rdr cI cB cZ cS cT qt qt_draft qt_draft_kind qt_draft_father qt_draft_comes qt_draft_wants qt_draft_cost qt_draft_coins qt_draft_debts qt_tape qt_tape_bytes t_fault t_at t_sort t_start t_value t_lawTold t_countersTold t_draft_people t_draft_law t_draft_counters t_draft_kind t_draft_father t_draft_comes t_draft_wants t_draft_cost t_draft_coins t_draft_debts t_tape_length t_tape_bytes) H → va_D A (w_Rdr cI cB cZ cS cT qt qt_draft qt_draft_kind qt_draft_father qt_draft_comes qt_draft_wants qt_draft_cost qt_draft_coins qt_draft_debts qt_tape qt_tape_bytes t_fault t_at t_sort t_start t_value t_lawTold t_countersTold t_draft_people t_draft_law t_draft_counters t_draft_kind t_draft_father t_draft_comes t_draft_wants t_draft_cost t_draft_coins t_draft_debts t_tape_length t_tape_bytes) → va_S A s.heap H locs → ∀ ls : Array Slot, lv_has ls 3 [] → W p l e rmX2_isNamed s m av below meth c H locs 0 0 Q (F0 m 58 ls [])) → (K66  = some o → ∀ (H : Heap) (locs : List Loc), va_P D vwCl (w_Rdr cI cB cZ cS cT qt qt_draft qt_draft_kind qt_draft_father qt_draft_comes qt_draft_wants qt_draft_cost qt_draft_coins qt_draft_debts qt_tape qt_tape_bytes t_fault t_at t_sort t_start t_value t_lawTold t_countersTold t_draft_people t_draft_law t_draft_counters t_draft_kind t_draft_father t_draft_comes t_draft_wants t_draft_cost t_draft_coins t_draft_debts t_tape_length t_tape_bytes) H → va_D A (w_Rdr cI cB cZ cS cT qt qt_draft qt_draft_kind qt_draft_father qt_draft_comes qt_draft_wants qt_draft_cost qt_draft_coins qt_draft_debts qt_tape qt_tape_bytes t_fault t_at t_sort t_start t_value t_lawTold t_countersTold t_draft_people t_draft_law t_draft_counters t_draft_kind t_draft_father t_draft_comes t_draft_wants t_draft_cost t_draft_coins t_draft_debts t_tape_length t_tape_bytes) → va_S A s.heap H locs → ∀ ls : Array Slot, lv_has ls 3 [] → W p l e rmX2_isNamed s m av below meth c H locs 0 0 Q (F0 m 66 ls [])) → ∀ (n : Nat) (x2_1 : Int32), Rdr_isNamed_L28 t_start t_tape_bytes p1 K58 K66 n x2_1 = some o → ∀ (H : Heap) (locs : List Loc), va_P D vwCl (w_Rdr cI cB cZ cS cT qt qt_draft qt_draft_kind qt_draft_father qt_draft_comes qt_draft_wants qt_draft_cost qt_draft_coins qt_draft_debts qt_tape qt_tape_bytes t_fault t_at t_sort t_start t_value t_lawTold t_countersTold t_draft_people t_draft_law t_draft_counters t_draft_kind t_draft_father t_draft_comes t_draft_wants t_draft_cost t_draft_coins t_draft_debts t_tape_length t_tape_bytes) H → va_D A (w_Rdr cI cB cZ cS cT qt qt_draft qt_draft_kind qt_draft_father qt_draft_comes qt_draft_wants qt_draft_cost qt_draft_coins qt_draft_debts qt_tape qt_tape_bytes t_fault t_at t_sort t_start t_value t_lawTold t_countersTold t_draft_people t_draft_law t_draft_counters t_draft_kind t_draft_father t_draft_comes t_draft_wants t_draft_cost t_draft_coins t_draft_debts t_tape_length t_tape_bytes) → va_S A s.heap H locs → ∀ ls : Array Slot, lv_has ls 3 [(0, .ref qt), (1, .ref (kK p1)), (2, .int x2_1)] → W p l e rmX2_isNamed s m av below meth c H locs 0 0 Q (F0 m 28 ls []) := by
        intro K58 K66 hK58 hK66 n
        induction n with
        | zero =>
          intro x2_1 hM
          rw [Rdr_isNamed_L28] at hM
          cases hM
        | succ n ih =>
          intro x2_1 hM H locs hP hD hS ls hl
          rw [Rdr_isNamed_L28] at hM
          refine lv_iload_n hx hb dX2_isNamed_28 rfl (lv_at hl 2 rfl) ?_
          refine lv_aload_n hx hb dX2_isNamed_29 rfl (lv_at hl 1 rfl) ?_
          refine mr_strV (As := []) (rest := [.int x2_1]) ⟨hx, hb, hml, hown, hts⟩ (k_J0_length l D (tys5 cI cB cZ cS cT) kK kV p1 hs_p1) (cwV 0 hts gX2_isNamed_J0_length_8abf5 rfl rfl rfl (by decide +kernel) ⟨Nat.le_of_ble_eq_true rfl, Nat.le_of_ble_eq_true rfl⟩) hs_p1 hX hK hP hD hS hA rfl hl.1 rfl (Nat.le_of_ble_eq_true rfl) dX2_isNamed_30 ⟨Nat.zero_le _, Nat.zero_le _⟩ (fun H locs hP hS => ?_)
          refine mr_icmp_ge (tgt := 66) hx hb hM dX2_isNamed_33 (by decide) (fun hM => ?_) (fun hM => ?_)
          · exact hK66  hM _ _ hP hD hS ls (lv_sub hl [] rfl)
          · refine lv_aload_n hx hb dX2_isNamed_36 rfl (lv_at hl 0 rfl) ?_
            refine va_get (D := D) (ci := 2) (v := .ref qt_tape) (C := RX2) (T := TX2) (N := 9) hx hb hts inX2w hown hK hP 0 rfl rfl 0 (by decide) hf12 (fun _ h9 => h9) rfl dX2_isNamed_37 ?_
            refine va_get (D := D) (ci := 6) (v := .ref qt_tape_bytes) (C := RX6) (T := TX6) (N := 2) hx hb hts inX6w hown hK hP 9 rfl rfl 0 (by decide) hf165 (fun _ h9 => h9) rfl dX2_isNamed_40 ?_
            refine lv_aload_n hx hb dX2_isNamed_43 rfl (lv_at hl 0 rfl) ?_
            refine va_get (D := D) (ci := 2) (v := .int t_start) (C := RX2) (T := TX2) (N := 9) hx hb hts inX2w hown hK hP 0 rfl rfl 5 (by decide) hf55 (fun _ h9 => h9) rfl dX2_isNamed_44 ?_
            refine lv_iload_n hx hb dX2_isNamed_47 rfl (lv_at hl 2 rfl) ?_
            refine lv_iadd hx hb dX2_isNamed_48 ?_
            refine mr_bald hx hb hK hP 10 1 rfl rfl hM dX2_isNamed_49 (fun v_2 hM => ?_)
            refine lv_aload_n hx hb dX2_isNamed_50 rfl (lv_at hl 1 rfl) ?_
            refine lv_iload_n hx hb dX2_isNamed_51 rfl (lv_at hl 2 rfl) ?_
            refine mr_schr (rest := [.int v_2]) hM hs_p1 ⟨hx, hb, hml, hown, hts⟩ (cwV 1 hts gX2_isNamed_J0_charAt_5068e rfl rfl rfl (by decide +kernel) ⟨Nat.le_of_ble_eq_true rfl, Nat.le_of_ble_eq_true rfl⟩) hX hK hP hD hS hA hl.1 (Nat.le_of_ble_eq_true rfl) dX2_isNamed_52 ⟨Nat.zero_le _, Nat.zero_le _⟩ (fun v_3 hM H locs hP hS => ?_)
            refine mr_icmp_eq (tgt := 60) hx hb hM dX2_isNamed_55 (by decide) (fun hM => ?_) (fun hM => ?_)
            · refine mr_iinc (k := 2) (d := 1) hx hb (fun x2_4 => [(2, .int x2_4), (0, .ref qt), (1, .ref (kK p1))]) hM (by decide) dX2_isNamed_60 hl rfl (by decide) (fun _ => rfl) (fun x2_4 hM ls hl => ?_)
              refine lv_goto (tgt := 28) hx hb dX2_isNamed_63 (by decide) ?_
              exact ih x2_4 hM _ _ hP hD hS ls (lv_sub hl [1, 2, 0] rfl)
            · exact hK58  hM _ _ hP hD hS ls (lv_sub hl [] rfl)
      refine hL28 _ _ (fun  hM H locs hP hD hS ls hl => ?_) (fun  hM H locs hP hD hS ls hl => ?_) _ 0 hM _ _ hP hD hS ls (lv_sub hl [1, 2, 0] rfl)
      · refine lv_iconst (v := 0) hx hb dX2_isNamed_58 (by decide) ?_
        have hM := Option.some.inj hM
        subst hM
        exact mr_zret hx hb hr (by decide) hlocks hQ hP hD hS rfl dX2_isNamed_59
      · refine lv_iconst (v := 1) hx hb dX2_isNamed_66 (by decide) ?_
        have hM := Option.some.inj hM
        subst hM
        exact mr_zret hx hb hr (by decide) hlocks hQ hP hD hS rfl dX2_isNamed_67
    · refine lv_iconst (v := 0) hx hb dX2_isNamed_24 (by decide) ?_
      have hM := Option.some.inj hM
      subst hM
      exact mr_zret hx hb hr (by decide) hlocks hQ hP hD hS rfl dX2_isNamed_25

abbrev rmX2_kindNamed : Room := { frames := 5, cells := 0, slots := 0, locals := 107 }
set_option maxHeartbeats 40000000 in
set_option maxRecDepth 100000 in
theorem k_Rdr_kindNamed (l : Launch) (D : va_G) (kK kV : Nat → Nat) (cI cB cZ cS cT : ClassId) (qt qt_draft qt_draft_kind qt_draft_father qt_draft_comes qt_draft_wants qt_draft_cost qt_draft_coins qt_draft_debts qt_tape qt_tape_bytes : Nat) (t_fault t_at t_sort t_start t_value t_lawTold t_countersTold t_draft_people t_draft_law t_draft_counters : Int32) (t_draft_kind t_draft_father t_draft_comes t_draft_wants t_draft_cost t_draft_coins t_draft_debts : Nat → Int32) (t_tape_length : Int32) (t_tape_bytes : Nat → Int32)  (o : Int32) (hM : Rdr_kindNamed t_at t_sort t_start t_tape_bytes = some o) : msI l yX2_kindNamed wsX2_kindNamed rmX2_kindNamed D (tys5 cI cB cZ cS cT) kK kV [.ref qt] (w_Rdr cI cB cZ cS cT qt qt_draft qt_draft_kind qt_draft_father qt_draft_comes qt_draft_wants qt_draft_cost qt_draft_coins qt_draft_debts qt_tape qt_tape_bytes t_fault t_at t_sort t_start t_value t_lawTold t_countersTold t_draft_people t_draft_law t_draft_counters t_draft_kind t_draft_father t_draft_comes t_draft_wants t_draft_cost t_draft_coins t_draft_debts t_tape_length t_tape_bytes) (w_Rdr cI cB cZ cS cT qt qt_draft qt_draft_kind qt_draft_father qt_draft_comes qt_draft_wants qt_draft_cost qt_draft_coins qt_draft_debts qt_tape qt_tape_bytes t_fault t_at t_sort t_start t_value t_lawTold t_countersTold t_draft_people t_draft_law t_draft_counters t_draft_kind t_draft_father t_draft_comes t_draft_wants t_draft_cost t_draft_coins t_draft_debts t_tape_length t_tape_bytes) o := by
  refine msI.of (cc := cX2_kindNamed) (maxL := 1) (ret := (some .int)) (by decide) rfl (Nat.le_of_ble_eq_true rfl) ?_
  intro p e s m below meth c A Q av hav hQ hx hb hr hml hown hts hlocks hK hP hD hA hS hX ls hl
  have hown : s.vm.findClass RX2 = some m.cls := hown
  have hl : lv_has ls 1 [(0, .ref qt)] := hl
  unfold Rdr_kindNamed at hM
  refine lv_aload_n hx hb dX2_kindNamed_0 rfl (lv_at hl 0 rfl) ?_
  refine va_ldcS hx hb hown (hX.2.1 4 (by decide)) dX2_kindNamed_1 ?_
  obtain ⟨o_1, hc, hM⟩ := bind_so hM
  refine mr_callViS (As := [.ref (kK 4)]) (rest := []) (wr := []) ⟨hx, hb, hml, hown, hts⟩ (k_Rdr_isNamed l D kK kV cI cB cZ cS cT qt qt_draft qt_draft_kind qt_draft_father qt_draft_comes qt_draft_wants qt_draft_cost qt_draft_coins qt_draft_debts qt_tape qt_tape_bytes t_fault t_at t_sort t_start t_value t_lawTold t_countersTold t_draft_people t_draft_law t_draft_counters t_draft_kind t_draft_father t_draft_comes t_draft_wants t_draft_cost t_draft_coins t_draft_debts t_tape_length t_tape_bytes 4 (by decide) _ hc) (cwV 1 hts gX2_kindNamed_X2_isNamed rfl rfl rfl (by decide +kernel) ⟨Nat.le_of_ble_eq_true rfl, Nat.le_of_ble_eq_true rfl⟩) hX hK hP hD hS hA [0, 1, 2, 3, 4, 5, 6, 7, 8, 9, 10] [] [0, 1, 2, 3, 4, 5, 6, 7, 8, 9, 10] (w_Rdr cI cB cZ cS cT qt qt_draft qt_draft_kind qt_draft_father qt_draft_comes qt_draft_wants qt_draft_cost qt_draft_coins qt_draft_debts qt_tape qt_tape_bytes t_fault t_at t_sort t_start t_value t_lawTold t_countersTold t_draft_people t_draft_law t_draft_counters t_draft_kind t_draft_father t_draft_comes t_draft_wants t_draft_cost t_draft_coins t_draft_debts t_tape_length t_tape_bytes) rfl rfl rfl rfl (by decide) rfl rfl 2 0 rfl rfl rfl rfl hl.1 rfl (Nat.le_of_ble_eq_true rfl) dX2_kindNamed_3 ⟨Nat.zero_le _, Nat.zero_le _⟩ (fun H locs hP hD hS => ?_)
  refine mr_if_eq (tgt := 11) hx hb hM dX2_kindNamed_6 (by decide) (fun hM => ?_) (fun hM => ?_)
  · refine lv_aload_n hx hb dX2_kindNamed_11 rfl (lv_at hl 0 rfl) ?_
    refine va_ldcS hx hb hown (hX.2.1 5 (by decide)) dX2_kindNamed_12 ?_
    obtain ⟨o_2, hc, hM⟩ := bind_so hM
    refine mr_callViS (As := [.ref (kK 5)]) (rest := []) (wr := []) ⟨hx, hb, hml, hown, hts⟩ (k_Rdr_isNamed l D kK kV cI cB cZ cS cT qt qt_draft qt_draft_kind qt_draft_father qt_draft_comes qt_draft_wants qt_draft_cost qt_draft_coins qt_draft_debts qt_tape qt_tape_bytes t_fault t_at t_sort t_start t_value t_lawTold t_countersTold t_draft_people t_draft_law t_draft_counters t_draft_kind t_draft_father t_draft_comes t_draft_wants t_draft_cost t_draft_coins t_draft_debts t_tape_length t_tape_bytes 5 (by decide) _ hc) (cwV 1 hts gX2_kindNamed_X2_isNamed rfl rfl rfl (by decide +kernel) ⟨Nat.le_of_ble_eq_true rfl, Nat.le_of_ble_eq_true rfl⟩) hX hK hP hD hS hA [0, 1, 2, 3, 4, 5, 6, 7, 8, 9, 10] [] [0, 1, 2, 3, 4, 5, 6, 7, 8, 9, 10] (w_Rdr cI cB cZ cS cT qt qt_draft qt_draft_kind qt_draft_father qt_draft_comes qt_draft_wants qt_draft_cost qt_draft_coins qt_draft_debts qt_tape qt_tape_bytes t_fault t_at t_sort t_start t_value t_lawTold t_countersTold t_draft_people t_draft_law t_draft_counters t_draft_kind t_draft_father t_draft_comes t_draft_wants t_draft_cost t_draft_coins t_draft_debts t_tape_length t_tape_bytes) rfl rfl rfl rfl (by decide) rfl rfl 2 0 rfl rfl rfl rfl hl.1 rfl (Nat.le_of_ble_eq_true rfl) dX2_kindNamed_14 ⟨Nat.zero_le _, Nat.zero_le _⟩ (fun H locs hP hD hS => ?_)
    refine mr_if_eq (tgt := 22) hx hb hM dX2_kindNamed_17 (by decide) (fun hM => ?_) (fun hM => ?_)
    · refine lv_aload_n hx hb dX2_kindNamed_22 rfl (lv_at hl 0 rfl) ?_
      refine va_ldcS hx hb hown (hX.2.1 6 (by decide)) dX2_kindNamed_23 ?_
      obtain ⟨o_3, hc, hM⟩ := bind_so hM
      refine mr_callViS (As := [.ref (kK 6)]) (rest := []) (wr := []) ⟨hx, hb, hml, hown, hts⟩ (k_Rdr_isNamed l D kK kV cI cB cZ cS cT qt qt_draft qt_draft_kind qt_draft_father qt_draft_comes qt_draft_wants qt_draft_cost qt_draft_coins qt_draft_debts qt_tape qt_tape_bytes t_fault t_at t_sort t_start t_value t_lawTold t_countersTold t_draft_people t_draft_law t_draft_counters t_draft_kind t_draft_father t_draft_comes t_draft_wants t_draft_cost t_draft_coins t_draft_debts t_tape_length t_tape_bytes 6 (by decide) _ hc) (cwV 1 hts gX2_kindNamed_X2_isNamed rfl rfl rfl (by decide +kernel) ⟨Nat.le_of_ble_eq_true rfl, Nat.le_of_ble_eq_true rfl⟩) hX hK hP hD hS hA [0, 1, 2, 3, 4, 5, 6, 7, 8, 9, 10] [] [0, 1, 2, 3, 4, 5, 6, 7, 8, 9, 10] (w_Rdr cI cB cZ cS cT qt qt_draft qt_draft_kind qt_draft_father qt_draft_comes qt_draft_wants qt_draft_cost qt_draft_coins qt_draft_debts qt_tape qt_tape_bytes t_fault t_at t_sort t_start t_value t_lawTold t_countersTold t_draft_people t_draft_law t_draft_counters t_draft_kind t_draft_father t_draft_comes t_draft_wants t_draft_cost t_draft_coins t_draft_debts t_tape_length t_tape_bytes) rfl rfl rfl rfl (by decide) rfl rfl 2 0 rfl rfl rfl rfl hl.1 rfl (Nat.le_of_ble_eq_true rfl) dX2_kindNamed_25 ⟨Nat.zero_le _, Nat.zero_le _⟩ (fun H locs hP hD hS => ?_)
      refine mr_if_eq (tgt := 33) hx hb hM dX2_kindNamed_28 (by decide) (fun hM => ?_) (fun hM => ?_)
      · refine lv_aload_n hx hb dX2_kindNamed_33 rfl (lv_at hl 0 rfl) ?_
        refine va_ldcS hx hb hown (hX.2.1 7 (by decide)) dX2_kindNamed_34 ?_
        obtain ⟨o_4, hc, hM⟩ := bind_so hM
        refine mr_callViS (As := [.ref (kK 7)]) (rest := []) (wr := []) ⟨hx, hb, hml, hown, hts⟩ (k_Rdr_isNamed l D kK kV cI cB cZ cS cT qt qt_draft qt_draft_kind qt_draft_father qt_draft_comes qt_draft_wants qt_draft_cost qt_draft_coins qt_draft_debts qt_tape qt_tape_bytes t_fault t_at t_sort t_start t_value t_lawTold t_countersTold t_draft_people t_draft_law t_draft_counters t_draft_kind t_draft_father t_draft_comes t_draft_wants t_draft_cost t_draft_coins t_draft_debts t_tape_length t_tape_bytes 7 (by decide) _ hc) (cwV 1 hts gX2_kindNamed_X2_isNamed rfl rfl rfl (by decide +kernel) ⟨Nat.le_of_ble_eq_true rfl, Nat.le_of_ble_eq_true rfl⟩) hX hK hP hD hS hA [0, 1, 2, 3, 4, 5, 6, 7, 8, 9, 10] [] [0, 1, 2, 3, 4, 5, 6, 7, 8, 9, 10] (w_Rdr cI cB cZ cS cT qt qt_draft qt_draft_kind qt_draft_father qt_draft_comes qt_draft_wants qt_draft_cost qt_draft_coins qt_draft_debts qt_tape qt_tape_bytes t_fault t_at t_sort t_start t_value t_lawTold t_countersTold t_draft_people t_draft_law t_draft_counters t_draft_kind t_draft_father t_draft_comes t_draft_wants t_draft_cost t_draft_coins t_draft_debts t_tape_length t_tape_bytes) rfl rfl rfl rfl (by decide) rfl rfl 2 0 rfl rfl rfl rfl hl.1 rfl (Nat.le_of_ble_eq_true rfl) dX2_kindNamed_36 ⟨Nat.zero_le _, Nat.zero_le _⟩ (fun H locs hP hD hS => ?_)
        refine mr_if_eq (tgt := 44) hx hb hM dX2_kindNamed_39 (by decide) (fun hM => ?_) (fun hM => ?_)
        · refine lv_aload_n hx hb dX2_kindNamed_44 rfl (lv_at hl 0 rfl) ?_
          refine va_ldcS hx hb hown (hX.2.1 8 (by decide)) dX2_kindNamed_45 ?_
          obtain ⟨o_5, hc, hM⟩ := bind_so hM
          refine mr_callViS (As := [.ref (kK 8)]) (rest := []) (wr := []) ⟨hx, hb, hml, hown, hts⟩ (k_Rdr_isNamed l D kK kV cI cB cZ cS cT qt qt_draft qt_draft_kind qt_draft_father qt_draft_comes qt_draft_wants qt_draft_cost qt_draft_coins qt_draft_debts qt_tape qt_tape_bytes t_fault t_at t_sort t_start t_value t_lawTold t_countersTold t_draft_people t_draft_law t_draft_counters t_draft_kind t_draft_father t_draft_comes t_draft_wants t_draft_cost t_draft_coins t_draft_debts t_tape_length t_tape_bytes 8 (by decide) _ hc) (cwV 1 hts gX2_kindNamed_X2_isNamed rfl rfl rfl (by decide +kernel) ⟨Nat.le_of_ble_eq_true rfl, Nat.le_of_ble_eq_true rfl⟩) hX hK hP hD hS hA [0, 1, 2, 3, 4, 5, 6, 7, 8, 9, 10] [] [0, 1, 2, 3, 4, 5, 6, 7, 8, 9, 10] (w_Rdr cI cB cZ cS cT qt qt_draft qt_draft_kind qt_draft_father qt_draft_comes qt_draft_wants qt_draft_cost qt_draft_coins qt_draft_debts qt_tape qt_tape_bytes t_fault t_at t_sort t_start t_value t_lawTold t_countersTold t_draft_people t_draft_law t_draft_counters t_draft_kind t_draft_father t_draft_comes t_draft_wants t_draft_cost t_draft_coins t_draft_debts t_tape_length t_tape_bytes) rfl rfl rfl rfl (by decide) rfl rfl 2 0 rfl rfl rfl rfl hl.1 rfl (Nat.le_of_ble_eq_true rfl) dX2_kindNamed_47 ⟨Nat.zero_le _, Nat.zero_le _⟩ (fun H locs hP hD hS => ?_)
          refine mr_if_eq (tgt := 57) hx hb hM dX2_kindNamed_50 (by decide) (fun hM => ?_) (fun hM => ?_)
          · refine lv_bipush (v := (-4)) hx hb dX2_kindNamed_57 (by decide) ?_
            have hM := Option.some.inj hM
            subst hM
            exact mr_iret hx hb hr hlocks hQ hP hD hS rfl dX2_kindNamed_59
          · refine lv_iconst (v := 4) hx hb dX2_kindNamed_53 (by decide) ?_
            refine lv_goto (tgt := 59) hx hb dX2_kindNamed_54 (by decide) ?_
            have hM := Option.some.inj hM
            subst hM
            exact mr_iret hx hb hr hlocks hQ hP hD hS rfl dX2_kindNamed_59
        · refine lv_iconst (v := 3) hx hb dX2_kindNamed_42 (by decide) ?_
          have hM := Option.some.inj hM
          subst hM
          exact mr_iret hx hb hr hlocks hQ hP hD hS rfl dX2_kindNamed_43
      · refine lv_iconst (v := 2) hx hb dX2_kindNamed_31 (by decide) ?_
        have hM := Option.some.inj hM
        subst hM
        exact mr_iret hx hb hr hlocks hQ hP hD hS rfl dX2_kindNamed_32
    · refine lv_iconst (v := 1) hx hb dX2_kindNamed_20 (by decide) ?_
      have hM := Option.some.inj hM
      subst hM
      exact mr_iret hx hb hr hlocks hQ hP hD hS rfl dX2_kindNamed_21
  · refine lv_iconst (v := 0) hx hb dX2_kindNamed_9 (by decide) ?_
    have hM := Option.some.inj hM
    subst hM
    exact mr_iret hx hb hr hlocks hQ hP hD hS rfl dX2_kindNamed_10

abbrev rmX2_readKind : Room := { frames := 6, cells := 0, slots := 0, locals := 127 }
set_option maxHeartbeats 40000000 in
set_option maxRecDepth 100000 in
theorem k_Rdr_readKind (l : Launch) (D : va_G) (kK kV : Nat → Nat) (cI cB cZ cS cT : ClassId) (qt qt_draft qt_draft_kind qt_draft_father qt_draft_comes qt_draft_wants qt_draft_cost qt_draft_coins qt_draft_debts qt_tape qt_tape_bytes : Nat) (t_fault t_at t_sort t_start t_value t_lawTold t_countersTold t_draft_people t_draft_law t_draft_counters : Int32) (t_draft_kind t_draft_father t_draft_comes t_draft_wants t_draft_cost t_draft_coins t_draft_debts : Nat → Int32) (t_tape_length : Int32) (t_tape_bytes : Nat → Int32) (p1 : Int32) (o : Int32 × Int32 × Int32 × Int32 × Int32 × Int32 × (Nat → Int32) × (Nat → Int32)) (hM : Rdr_readKind p1 t_fault t_at t_draft_kind t_draft_father t_tape_length t_tape_bytes = some o) : msI l yX2_readKind wsX2_readKind rmX2_readKind D (tys5 cI cB cZ cS cT) kK kV [.ref qt, .int p1] (w_Rdr cI cB cZ cS cT qt qt_draft qt_draft_kind qt_draft_father qt_draft_comes qt_draft_wants qt_draft_cost qt_draft_coins qt_draft_debts qt_tape qt_tape_bytes t_fault t_at t_sort t_start t_value t_lawTold t_countersTold t_draft_people t_draft_law t_draft_counters t_draft_kind t_draft_father t_draft_comes t_draft_wants t_draft_cost t_draft_coins t_draft_debts t_tape_length t_tape_bytes) (w_Rdr cI cB cZ cS cT qt qt_draft qt_draft_kind qt_draft_father qt_draft_comes qt_draft_wants qt_draft_cost qt_draft_coins qt_draft_debts qt_tape qt_tape_bytes o.2.1 o.2.2.1 o.2.2.2.1 o.2.2.2.2.1 o.2.2.2.2.2.1 t_lawTold t_countersTold t_draft_people t_draft_law t_draft_counters o.2.2.2.2.2.2.1 o.2.2.2.2.2.2.2 t_draft_comes t_draft_wants t_draft_cost t_draft_coins t_draft_debts t_tape_length t_tape_bytes) o.1 := by
  refine msI.of (cc := cX2_readKind) (maxL := 3) (ret := (some .boolean)) (by decide) rfl (Nat.le_of_ble_eq_true rfl) ?_
  intro p e s m below meth c A Q av hav hQ hx hb hr hml hown hts hlocks hK hP hD hA hS hX ls hl
  have hown : s.vm.findClass RX2 = some m.cls := hown
  have hl : lv_has ls 3 [(0, .ref qt), (1, .int p1)] := hl
  unfold Rdr_readKind at hM
  have inX2w : ∀ w ∈ u_ws RX2 TX2 9, w ∈ wsX2_readKind := by decide +kernel
  have inX7w : ∀ w ∈ u_ws RX7 TX7 10, w ∈ wsX2_readKind := by decide +kernel
  have hf21 := hts (.fieldLink RX2 21 "LetsIn$Reader" "draft" "LLetsIn$Town;") (by decide +kernel)
  have hf123 := hts (.fieldLink RX2 123 "LetsIn$Town" "kind" "[I") (by decide +kernel)
  have hf126 := hts (.fieldLink RX2 126 "LetsIn$Town" "father" "[I") (by decide +kernel)
  have hf90 := hts (.fieldLink RX2 90 "LetsIn$Reader" "value" "I") (by decide +kernel)
  refine lv_aload_n hx hb dX2_readKind_0 rfl (lv_at hl 0 rfl) ?_
  obtain ⟨o_1, hc, hM⟩ := bind_so hM
  refine mr_callVi (As := []) (rest := []) (wr := []) ⟨hx, hb, hml, hown, hts⟩ (k_Rdr_readToken l D cI cB cZ cS cT qt qt_draft qt_draft_kind qt_draft_father qt_draft_comes qt_draft_wants qt_draft_cost qt_draft_coins qt_draft_debts qt_tape qt_tape_bytes t_fault t_at t_sort t_start t_value t_lawTold t_countersTold t_draft_people t_draft_law t_draft_counters t_draft_kind t_draft_father t_draft_comes t_draft_wants t_draft_cost t_draft_coins t_draft_debts t_tape_length t_tape_bytes  _ hc) (cwV 0 hts gX2_readKind_X2_readToken rfl rfl rfl (by decide +kernel) ⟨Nat.le_of_ble_eq_true rfl, Nat.le_of_ble_eq_true rfl⟩) hK hP hD hS hA [0, 1, 2, 3, 4, 5, 6, 7, 8, 9, 10] [] [0, 1, 2, 3, 4, 5, 6, 7, 8, 9, 10] (w_Rdr cI cB cZ cS cT qt qt_draft qt_draft_kind qt_draft_father qt_draft_comes qt_draft_wants qt_draft_cost qt_draft_coins qt_draft_debts qt_tape qt_tape_bytes o_1.2.1 o_1.2.2.1 o_1.2.2.2.1 o_1.2.2.2.2.1 o_1.2.2.2.2.2 t_lawTold t_countersTold t_draft_people t_draft_law t_draft_counters t_draft_kind t_draft_father t_draft_comes t_draft_wants t_draft_cost t_draft_coins t_draft_debts t_tape_length t_tape_bytes) rfl rfl rfl rfl (by decide) rfl rfl 2 0 rfl rfl rfl rfl hl.1 rfl (Nat.le_of_ble_eq_true rfl) dX2_readKind_1 ⟨Nat.zero_le _, Nat.zero_le _⟩ (fun H locs hP hD hS => ?_)
  refine mr_if_ne (tgt := 9) hx hb hM dX2_readKind_4 (by decide) (fun hM => ?_) (fun hM => ?_)
  · refine lv_aload_n hx hb dX2_readKind_9 rfl (lv_at hl 0 rfl) ?_
    obtain ⟨o_2, hc, hM⟩ := bind_so hM
    refine mr_callViS (As := []) (rest := []) (wr := []) ⟨hx, hb, hml, hown, hts⟩ (k_Rdr_kindNamed l D kK kV cI cB cZ cS cT qt qt_draft qt_draft_kind qt_draft_father qt_draft_comes qt_draft_wants qt_draft_cost qt_draft_coins qt_draft_debts qt_tape qt_tape_bytes o_1.2.1 o_1.2.2.1 o_1.2.2.2.1 o_1.2.2.2.2.1 o_1.2.2.2.2.2 t_lawTold t_countersTold t_draft_people t_draft_law t_draft_counters t_draft_kind t_draft_father t_draft_comes t_draft_wants t_draft_cost t_draft_coins t_draft_debts t_tape_length t_tape_bytes  _ hc) (cwV 0 hts gX2_readKind_X2_kindNamed rfl rfl rfl (by decide +kernel) ⟨Nat.le_of_ble_eq_true rfl, Nat.le_of_ble_eq_true rfl⟩) hX hK hP hD hS hA [0, 1, 2, 3, 4, 5, 6, 7, 8, 9, 10] [] [0, 1, 2, 3, 4, 5, 6, 7, 8, 9, 10] (w_Rdr cI cB cZ cS cT qt qt_draft qt_draft_kind qt_draft_father qt_draft_comes qt_draft_wants qt_draft_cost qt_draft_coins qt_draft_debts qt_tape qt_tape_bytes o_1.2.1 o_1.2.2.1 o_1.2.2.2.1 o_1.2.2.2.2.1 o_1.2.2.2.2.2 t_lawTold t_countersTold t_draft_people t_draft_law t_draft_counters t_draft_kind t_draft_father t_draft_comes t_draft_wants t_draft_cost t_draft_coins t_draft_debts t_tape_length t_tape_bytes) rfl rfl rfl rfl (by decide) rfl rfl 2 0 rfl rfl rfl rfl hl.1 rfl (Nat.le_of_ble_eq_true rfl) dX2_readKind_10 ⟨Nat.zero_le _, Nat.zero_le _⟩ (fun H locs hP hD hS => ?_)
    refine lv_istore_n (lv' := [(2, .int o_2), (0, .ref qt), (1, .int p1)]) hx hb dX2_readKind_13 rfl hl (by decide) rfl (fun ls hl => ?_)
    refine lv_iload_n hx hb dX2_readKind_14 rfl (lv_at hl 0 rfl) ?_
    refine mr_if_ge (tgt := 24) hx hb hM dX2_readKind_15 (by decide) (fun hM => ?_) (fun hM => ?_)
    · refine lv_aload_n hx hb dX2_readKind_24 rfl (lv_at hl 1 rfl) ?_
      refine va_get (D := D) (ci := 2) (v := .ref qt_draft) (C := RX2) (T := TX2) (N := 9) hx hb hts inX2w hown hK hP 0 rfl rfl 1 (by decide) hf21 (fun _ h9 => h9) rfl dX2_readKind_25 ?_
      refine va_get (D := D) (ci := 7) (v := .ref qt_draft_kind) (C := RX7) (T := TX7) (N := 10) hx hb hts inX7w hown hK hP 1 rfl rfl 3 (by decide) hf123 (fun _ h9 => h9) rfl dX2_readKind_28 ?_
      refine lv_iload_n hx hb dX2_readKind_31 rfl (lv_at hl 2 rfl) ?_
      refine lv_iload_n hx hb dX2_readKind_32 rfl (lv_at hl 0 rfl) ?_
      refine mr_iast hx hb hK hP hD hS 2 0 (fun t_draft_kind_3 => (w_Rdr cI cB cZ cS cT qt qt_draft qt_draft_kind qt_draft_father qt_draft_comes qt_draft_wants qt_draft_cost qt_draft_coins qt_draft_debts qt_tape qt_tape_bytes o_1.2.1 o_1.2.2.1 o_1.2.2.2.1 o_1.2.2.2.2.1 o_1.2.2.2.2.2 t_lawTold t_countersTold t_draft_people t_draft_law t_draft_counters t_draft_kind_3 t_draft_father t_draft_comes t_draft_wants t_draft_cost t_draft_coins t_draft_debts t_tape_length t_tape_bytes)) rfl rfl (fun _ => rfl) hM dX2_readKind_33 (fun t_draft_kind_3 hM H locs hP hD hS => ?_)
      refine lv_aload_n hx hb dX2_readKind_34 rfl (lv_at hl 1 rfl) ?_
      refine va_get (D := D) (ci := 2) (v := .ref qt_draft) (C := RX2) (T := TX2) (N := 9) hx hb hts inX2w hown hK hP 0 rfl rfl 1 (by decide) hf21 (fun _ h9 => h9) rfl dX2_readKind_35 ?_
      refine va_get (D := D) (ci := 7) (v := .ref qt_draft_father) (C := RX7) (T := TX7) (N := 10) hx hb hts inX7w hown hK hP 1 rfl rfl 4 (by decide) hf126 (fun _ h9 => h9) rfl dX2_readKind_38 ?_
      refine lv_iload_n hx hb dX2_readKind_41 rfl (lv_at hl 2 rfl) ?_
      refine lv_iconst (v := 0) hx hb dX2_readKind_42 (by decide) ?_
      refine mr_iast hx hb hK hP hD hS 3 0 (fun t_draft_father_4 => (w_Rdr cI cB cZ cS cT qt qt_draft qt_draft_kind qt_draft_father qt_draft_comes qt_draft_wants qt_draft_cost qt_draft_coins qt_draft_debts qt_tape qt_tape_bytes o_1.2.1 o_1.2.2.1 o_1.2.2.2.1 o_1.2.2.2.2.1 o_1.2.2.2.2.2 t_lawTold t_countersTold t_draft_people t_draft_law t_draft_counters t_draft_kind_3 t_draft_father_4 t_draft_comes t_draft_wants t_draft_cost t_draft_coins t_draft_debts t_tape_length t_tape_bytes)) rfl rfl (fun _ => rfl) hM dX2_readKind_43 (fun t_draft_father_4 hM H locs hP hD hS => ?_)
      refine lv_iload_n hx hb dX2_readKind_44 rfl (lv_at hl 0 rfl) ?_
      refine lv_iconst (v := 4) hx hb dX2_readKind_45 (by decide) ?_
      refine mr_icmp_eq (tgt := 51) hx hb hM dX2_readKind_46 (by decide) (fun hM => ?_) (fun hM => ?_)
      · refine lv_aload_n hx hb dX2_readKind_51 rfl (lv_at hl 1 rfl) ?_
        refine lv_iconst (v := 0) hx hb dX2_readKind_52 (by decide) ?_
        refine lv_bipush (v := 6) hx hb dX2_readKind_53 (by decide) ?_
        obtain ⟨o_5, hc, hM⟩ := bind_so hM
        refine mr_callVi (As := [.int 0, .int 6]) (rest := []) (wr := []) ⟨hx, hb, hml, hown, hts⟩ (k_Rdr_readNumber l D cI cB cZ cS cT qt qt_draft qt_draft_kind qt_draft_father qt_draft_comes qt_draft_wants qt_draft_cost qt_draft_coins qt_draft_debts qt_tape qt_tape_bytes o_1.2.1 o_1.2.2.1 o_1.2.2.2.1 o_1.2.2.2.2.1 o_1.2.2.2.2.2 t_lawTold t_countersTold t_draft_people t_draft_law t_draft_counters t_draft_kind_3 t_draft_father_4 t_draft_comes t_draft_wants t_draft_cost t_draft_coins t_draft_debts t_tape_length t_tape_bytes 0 6 _ hc) (cwV 2 hts gX2_readKind_X2_readNumber rfl rfl rfl (by decide +kernel) ⟨Nat.le_of_ble_eq_true rfl, Nat.le_of_ble_eq_true rfl⟩) hK hP hD hS hA [0, 1, 2, 3, 4, 5, 6, 7, 8, 9, 10] [] [0, 1, 2, 3, 4, 5, 6, 7, 8, 9, 10] (w_Rdr cI cB cZ cS cT qt qt_draft qt_draft_kind qt_draft_father qt_draft_comes qt_draft_wants qt_draft_cost qt_draft_coins qt_draft_debts qt_tape qt_tape_bytes o_5.2.1 o_5.2.2.1 o_5.2.2.2.1 o_5.2.2.2.2.1 o_5.2.2.2.2.2 t_lawTold t_countersTold t_draft_people t_draft_law t_draft_counters t_draft_kind_3 t_draft_father_4 t_draft_comes t_draft_wants t_draft_cost t_draft_coins t_draft_debts t_tape_length t_tape_bytes) rfl rfl rfl rfl (by decide) rfl rfl 2 0 rfl rfl rfl rfl hl.1 rfl (Nat.le_of_ble_eq_true rfl) dX2_readKind_55 ⟨Nat.zero_le _, Nat.zero_le _⟩ (fun H locs hP hD hS => ?_)
        refine mr_if_ne (tgt := 63) hx hb hM dX2_readKind_58 (by decide) (fun hM => ?_) (fun hM => ?_)
        · refine lv_aload_n hx hb dX2_readKind_63 rfl (lv_at hl 1 rfl) ?_
          refine va_get (D := D) (ci := 2) (v := .ref qt_draft) (C := RX2) (T := TX2) (N := 9) hx hb hts inX2w hown hK hP 0 rfl rfl 1 (by decide) hf21 (fun _ h9 => h9) rfl dX2_readKind_64 ?_
          refine va_get (D := D) (ci := 7) (v := .ref qt_draft_father) (C := RX7) (T := TX7) (N := 10) hx hb hts inX7w hown hK hP 1 rfl rfl 4 (by decide) hf126 (fun _ h9 => h9) rfl dX2_readKind_67 ?_
          refine lv_iload_n hx hb dX2_readKind_70 rfl (lv_at hl 2 rfl) ?_
          refine lv_aload_n hx hb dX2_readKind_71 rfl (lv_at hl 1 rfl) ?_
          refine va_get (D := D) (ci := 2) (v := .int o_5.2.2.2.2.2) (C := RX2) (T := TX2) (N := 9) hx hb hts inX2w hown hK hP 0 rfl rfl 6 (by decide) hf90 (fun _ h9 => h9) rfl dX2_readKind_72 ?_
          refine mr_iast hx hb hK hP hD hS 3 0 (fun t_draft_father_6 => (w_Rdr cI cB cZ cS cT qt qt_draft qt_draft_kind qt_draft_father qt_draft_comes qt_draft_wants qt_draft_cost qt_draft_coins qt_draft_debts qt_tape qt_tape_bytes o_5.2.1 o_5.2.2.1 o_5.2.2.2.1 o_5.2.2.2.2.1 o_5.2.2.2.2.2 t_lawTold t_countersTold t_draft_people t_draft_law t_draft_counters t_draft_kind_3 t_draft_father_6 t_draft_comes t_draft_wants t_draft_cost t_draft_coins t_draft_debts t_tape_length t_tape_bytes)) rfl rfl (fun _ => rfl) hM dX2_readKind_75 (fun t_draft_father_6 hM H locs hP hD hS => ?_)
          refine lv_aload_n hx hb dX2_readKind_76 rfl (lv_at hl 1 rfl) ?_
          refine va_get (D := D) (ci := 2) (v := .int o_5.2.2.2.2.2) (C := RX2) (T := TX2) (N := 9) hx hb hts inX2w hown hK hP 0 rfl rfl 6 (by decide) hf90 (fun _ h9 => h9) rfl dX2_readKind_77 ?_
          refine lv_iload_n hx hb dX2_readKind_80 rfl (lv_at hl 2 rfl) ?_
          refine mr_icmp_ne (tgt := 92) hx hb hM dX2_readKind_81 (by decide) (fun hM => ?_) (fun hM => ?_)
          · refine lv_iconst (v := 1) hx hb dX2_readKind_92 (by decide) ?_
            refine lv_goto (tgt := 97) hx hb dX2_readKind_93 (by decide) ?_
            have hM := Option.some.inj hM
            subst hM
            exact mr_zret hx hb hr (by decide) hlocks hQ hP hD hS rfl dX2_readKind_97
          · refine lv_aload_n hx hb dX2_readKind_84 rfl (lv_at hl 1 rfl) ?_
            refine lv_iconst (v := 4) hx hb dX2_readKind_85 (by decide) ?_
            obtain ⟨o_7, hc, hM⟩ := bind_so hM
            refine mr_callVi (As := [.int 4]) (rest := []) (wr := []) ⟨hx, hb, hml, hown, hts⟩ (k_Rdr_isFaulty l D cI cB cZ cS cT qt qt_draft qt_draft_kind qt_draft_father qt_draft_comes qt_draft_wants qt_draft_cost qt_draft_coins qt_draft_debts qt_tape qt_tape_bytes o_5.2.1 o_5.2.2.1 o_5.2.2.2.1 o_5.2.2.2.2.1 o_5.2.2.2.2.2 t_lawTold t_countersTold t_draft_people t_draft_law t_draft_counters t_draft_kind_3 t_draft_father_6 t_draft_comes t_draft_wants t_draft_cost t_draft_coins t_draft_debts t_tape_length t_tape_bytes 4 _ hc) (cwV 1 hts gX2_readKind_X2_isFaulty rfl rfl rfl (by decide +kernel) ⟨Nat.le_of_ble_eq_true rfl, Nat.le_of_ble_eq_true rfl⟩) hK hP hD hS hA [0, 1, 2, 3, 4, 5, 6, 7, 8, 9, 10] [] [0, 1, 2, 3, 4, 5, 6, 7, 8, 9, 10] (w_Rdr cI cB cZ cS cT qt qt_draft qt_draft_kind qt_draft_father qt_draft_comes qt_draft_wants qt_draft_cost qt_draft_coins qt_draft_debts qt_tape qt_tape_bytes o_7.2 o_5.2.2.1 o_5.2.2.2.1 o_5.2.2.2.2.1 o_5.2.2.2.2.2 t_lawTold t_countersTold t_draft_people t_draft_law t_draft_counters t_draft_kind_3 t_draft_father_6 t_draft_comes t_draft_wants t_draft_cost t_draft_coins t_draft_debts t_tape_length t_tape_bytes) rfl rfl rfl rfl (by decide) rfl rfl 2 0 rfl rfl rfl rfl hl.1 rfl (Nat.le_of_ble_eq_true rfl) dX2_readKind_86 ⟨Nat.zero_le _, Nat.zero_le _⟩ (fun H locs hP hD hS => ?_)
            refine mr_if_eq (tgt := 96) hx hb hM dX2_readKind_89 (by decide) (fun hM => ?_) (fun hM => ?_)
            · refine lv_iconst (v := 0) hx hb dX2_readKind_96 (by decide) ?_
              have hM := Option.some.inj hM
              subst hM
              exact mr_zret hx hb hr (by decide) hlocks hQ hP hD hS rfl dX2_readKind_97
            · refine lv_iconst (v := 1) hx hb dX2_readKind_92 (by decide) ?_
              refine lv_goto (tgt := 97) hx hb dX2_readKind_93 (by decide) ?_
              have hM := Option.some.inj hM
              subst hM
              exact mr_zret hx hb hr (by decide) hlocks hQ hP hD hS rfl dX2_readKind_97
        · refine lv_iconst (v := 0) hx hb dX2_readKind_61 (by decide) ?_
          have hM := Option.some.inj hM
          subst hM
          exact mr_zret hx hb hr (by decide) hlocks hQ hP hD hS rfl dX2_readKind_62
      · refine lv_iconst (v := 1) hx hb dX2_readKind_49 (by decide) ?_
        have hM := Option.some.inj hM
        subst hM
        exact mr_zret hx hb hr (by decide) hlocks hQ hP hD hS rfl dX2_readKind_50
    · refine lv_aload_n hx hb dX2_readKind_18 rfl (lv_at hl 1 rfl) ?_
      refine lv_iconst (v := 2) hx hb dX2_readKind_19 (by decide) ?_
      obtain ⟨o_8, hc, hM⟩ := bind_so hM
      refine mr_callVi (As := [.int 2]) (rest := []) (wr := []) ⟨hx, hb, hml, hown, hts⟩ (k_Rdr_isFaulty l D cI cB cZ cS cT qt qt_draft qt_draft_kind qt_draft_father qt_draft_comes qt_draft_wants qt_draft_cost qt_draft_coins qt_draft_debts qt_tape qt_tape_bytes o_1.2.1 o_1.2.2.1 o_1.2.2.2.1 o_1.2.2.2.2.1 o_1.2.2.2.2.2 t_lawTold t_countersTold t_draft_people t_draft_law t_draft_counters t_draft_kind t_draft_father t_draft_comes t_draft_wants t_draft_cost t_draft_coins t_draft_debts t_tape_length t_tape_bytes 2 _ hc) (cwV 1 hts gX2_readKind_X2_isFaulty rfl rfl rfl (by decide +kernel) ⟨Nat.le_of_ble_eq_true rfl, Nat.le_of_ble_eq_true rfl⟩) hK hP hD hS hA [0, 1, 2, 3, 4, 5, 6, 7, 8, 9, 10] [] [0, 1, 2, 3, 4, 5, 6, 7, 8, 9, 10] (w_Rdr cI cB cZ cS cT qt qt_draft qt_draft_kind qt_draft_father qt_draft_comes qt_draft_wants qt_draft_cost qt_draft_coins qt_draft_debts qt_tape qt_tape_bytes o_8.2 o_1.2.2.1 o_1.2.2.2.1 o_1.2.2.2.2.1 o_1.2.2.2.2.2 t_lawTold t_countersTold t_draft_people t_draft_law t_draft_counters t_draft_kind t_draft_father t_draft_comes t_draft_wants t_draft_cost t_draft_coins t_draft_debts t_tape_length t_tape_bytes) rfl rfl rfl rfl (by decide) rfl rfl 2 0 rfl rfl rfl rfl hl.1 rfl (Nat.le_of_ble_eq_true rfl) dX2_readKind_20 ⟨Nat.zero_le _, Nat.zero_le _⟩ (fun H locs hP hD hS => ?_)
      obtain ⟨hz, hM⟩ := guard_so hM
      have hM := Option.some.inj hM
      subst hM
      exact mr_zret hx hb hr (narrow_z hz) hlocks hQ hP hD hS rfl dX2_readKind_23
  · refine lv_iconst (v := 0) hx hb dX2_readKind_7 (by decide) ?_
    have hM := Option.some.inj hM
    subst hM
    exact mr_zret hx hb hr (by decide) hlocks hQ hP hD hS rfl dX2_readKind_8

abbrev rmX2_readOne : Room := { frames := 7, cells := 0, slots := 0, locals := 149 }
set_option maxHeartbeats 40000000 in
set_option maxRecDepth 100000 in
theorem k_Rdr_readOne (l : Launch) (D : va_G) (kK kV : Nat → Nat) (cI cB cZ cS cT : ClassId) (qt qt_draft qt_draft_kind qt_draft_father qt_draft_comes qt_draft_wants qt_draft_cost qt_draft_coins qt_draft_debts qt_tape qt_tape_bytes : Nat) (t_fault t_at t_sort t_start t_value t_lawTold t_countersTold t_draft_people t_draft_law t_draft_counters : Int32) (t_draft_kind t_draft_father t_draft_comes t_draft_wants t_draft_cost t_draft_coins t_draft_debts : Nat → Int32) (t_tape_length : Int32) (t_tape_bytes : Nat → Int32)  (o : Int32 × Int32 × Int32 × Int32 × Int32 × Int32 × Int32 × (Nat → Int32) × (Nat → Int32) × (Nat → Int32) × (Nat → Int32) × (Nat → Int32) × (Nat → Int32)) (hM : Rdr_readOne t_fault t_at t_sort t_start t_value t_draft_people t_draft_kind t_draft_father t_draft_comes t_draft_wants t_draft_cost t_draft_coins t_tape_length t_tape_bytes = some o) : msI l yX2_readOne wsX2_readOne rmX2_readOne D (tys5 cI cB cZ cS cT) kK kV [.ref qt] (w_Rdr cI cB cZ cS cT qt qt_draft qt_draft_kind qt_draft_father qt_draft_comes qt_draft_wants qt_draft_cost qt_draft_coins qt_draft_debts qt_tape qt_tape_bytes t_fault t_at t_sort t_start t_value t_lawTold t_countersTold t_draft_people t_draft_law t_draft_counters t_draft_kind t_draft_father t_draft_comes t_draft_wants t_draft_cost t_draft_coins t_draft_debts t_tape_length t_tape_bytes) (w_Rdr cI cB cZ cS cT qt qt_draft qt_draft_kind qt_draft_father qt_draft_comes qt_draft_wants qt_draft_cost qt_draft_coins qt_draft_debts qt_tape qt_tape_bytes o.2.1 o.2.2.1 o.2.2.2.1 o.2.2.2.2.1 o.2.2.2.2.2.1 t_lawTold t_countersTold o.2.2.2.2.2.2.1 t_draft_law t_draft_counters o.2.2.2.2.2.2.2.1 o.2.2.2.2.2.2.2.2.1 o.2.2.2.2.2.2.2.2.2.1 o.2.2.2.2.2.2.2.2.2.2.1 o.2.2.2.2.2.2.2.2.2.2.2.1 o.2.2.2.2.2.2.2.2.2.2.2.2 t_draft_debts t_tape_length t_tape_bytes) o.1 := by
  refine msI.of (cc := cX2_readOne) (maxL := 2) (ret := (some .boolean)) (by decide) rfl (Nat.le_of_ble_eq_true rfl) ?_
  intro p e s m below meth c A Q av hav hQ hx hb hr hml hown hts hlocks hK hP hD hA hS hX ls hl
  have hown : s.vm.findClass RX2 = some m.cls := hown
  have hl : lv_has ls 2 [(0, .ref qt)] := hl
  unfold Rdr_readOne at hM
  have inX2w : ∀ w ∈ u_ws RX2 TX2 9, w ∈ wsX2_readOne := by decide +kernel
  have inX7w : ∀ w ∈ u_ws RX7 TX7 10, w ∈ wsX2_readOne := by decide +kernel
  have hf21 := hts (.fieldLink RX2 21 "LetsIn$Reader" "draft" "LLetsIn$Town;") (by decide +kernel)
  have hf100 := hts (.fieldLink RX2 100 "LetsIn$Town" "people" "I") (by decide +kernel)
  have hf106 := hts (.fieldLink RX2 106 "LetsIn$Town" "comes" "[I") (by decide +kernel)
  have hf90 := hts (.fieldLink RX2 90 "LetsIn$Reader" "value" "I") (by decide +kernel)
  have hf110 := hts (.fieldLink RX2 110 "LetsIn$Town" "wants" "[I") (by decide +kernel)
  have hf113 := hts (.fieldLink RX2 113 "LetsIn$Town" "cost" "[I") (by decide +kernel)
  have hf116 := hts (.fieldLink RX2 116 "LetsIn$Town" "coins" "[I") (by decide +kernel)
  refine lv_aload_n hx hb dX2_readOne_0 rfl (lv_at hl 0 rfl) ?_
  refine va_get (D := D) (ci := 2) (v := .ref qt_draft) (C := RX2) (T := TX2) (N := 9) hx hb hts inX2w hown hK hP 0 rfl rfl 1 (by decide) hf21 (fun _ h9 => h9) rfl dX2_readOne_1 ?_
  refine va_get (D := D) (ci := 7) (v := .int t_draft_people) (C := RX7) (T := TX7) (N := 10) hx hb hts inX7w hown hK hP 1 rfl rfl 0 (by decide) hf100 (fun _ h9 => h9) rfl dX2_readOne_4 ?_
  refine lv_istore_n (lv' := [(1, .int t_draft_people), (0, .ref qt)]) hx hb dX2_readOne_7 rfl hl (by decide) rfl (fun ls hl => ?_)
  refine lv_iload_n hx hb dX2_readOne_8 rfl (lv_at hl 0 rfl) ?_
  refine lv_bipush (v := 7) hx hb dX2_readOne_9 (by decide) ?_
  refine mr_icmp_lt (tgt := 20) hx hb hM dX2_readOne_11 (by decide) (fun hM => ?_) (fun hM => ?_)
  · refine lv_aload_n hx hb dX2_readOne_20 rfl (lv_at hl 1 rfl) ?_
    refine lv_iload_n hx hb dX2_readOne_21 rfl (lv_at hl 0 rfl) ?_
    obtain ⟨o_1, hc, hM⟩ := bind_so hM
    refine mr_callViS (As := [.int t_draft_people]) (rest := []) (wr := []) ⟨hx, hb, hml, hown, hts⟩ (k_Rdr_readKind l D kK kV cI cB cZ cS cT qt qt_draft qt_draft_kind qt_draft_father qt_draft_comes qt_draft_wants qt_draft_cost qt_draft_coins qt_draft_debts qt_tape qt_tape_bytes t_fault t_at t_sort t_start t_value t_lawTold t_countersTold t_draft_people t_draft_law t_draft_counters t_draft_kind t_draft_father t_draft_comes t_draft_wants t_draft_cost t_draft_coins t_draft_debts t_tape_length t_tape_bytes t_draft_people _ hc) (cwV 1 hts gX2_readOne_X2_readKind rfl rfl rfl (by decide +kernel) ⟨Nat.le_of_ble_eq_true rfl, Nat.le_of_ble_eq_true rfl⟩) hX hK hP hD hS hA [0, 1, 2, 3, 4, 5, 6, 7, 8, 9, 10] [] [0, 1, 2, 3, 4, 5, 6, 7, 8, 9, 10] (w_Rdr cI cB cZ cS cT qt qt_draft qt_draft_kind qt_draft_father qt_draft_comes qt_draft_wants qt_draft_cost qt_draft_coins qt_draft_debts qt_tape qt_tape_bytes o_1.2.1 o_1.2.2.1 o_1.2.2.2.1 o_1.2.2.2.2.1 o_1.2.2.2.2.2.1 t_lawTold t_countersTold t_draft_people t_draft_law t_draft_counters o_1.2.2.2.2.2.2.1 o_1.2.2.2.2.2.2.2 t_draft_comes t_draft_wants t_draft_cost t_draft_coins t_draft_debts t_tape_length t_tape_bytes) rfl rfl rfl rfl (by decide) rfl rfl 2 0 rfl rfl rfl rfl hl.1 rfl (Nat.le_of_ble_eq_true rfl) dX2_readOne_22 ⟨Nat.zero_le _, Nat.zero_le _⟩ (fun H locs hP hD hS => ?_)
    refine mr_if_eq (tgt := 38) hx hb hM dX2_readOne_25 (by decide) (fun hM => ?_) (fun hM => ?_)
    · refine lv_iconst (v := 0) hx hb dX2_readOne_38 (by decide) ?_
      have hM := Option.some.inj hM
      subst hM
      exact mr_zret hx hb hr (by decide) hlocks hQ hP hD hS rfl dX2_readOne_39
    · refine lv_aload_n hx hb dX2_readOne_28 rfl (lv_at hl 1 rfl) ?_
      refine lv_iconst (v := 0) hx hb dX2_readOne_29 (by decide) ?_
      refine lv_bipush (v := 60) hx hb dX2_readOne_30 (by decide) ?_
      obtain ⟨o_2, hc, hM⟩ := bind_so hM
      refine mr_callVi (As := [.int 0, .int 60]) (rest := []) (wr := []) ⟨hx, hb, hml, hown, hts⟩ (k_Rdr_readNumber l D cI cB cZ cS cT qt qt_draft qt_draft_kind qt_draft_father qt_draft_comes qt_draft_wants qt_draft_cost qt_draft_coins qt_draft_debts qt_tape qt_tape_bytes o_1.2.1 o_1.2.2.1 o_1.2.2.2.1 o_1.2.2.2.2.1 o_1.2.2.2.2.2.1 t_lawTold t_countersTold t_draft_people t_draft_law t_draft_counters o_1.2.2.2.2.2.2.1 o_1.2.2.2.2.2.2.2 t_draft_comes t_draft_wants t_draft_cost t_draft_coins t_draft_debts t_tape_length t_tape_bytes 0 60 _ hc) (cwV 2 hts gX2_readOne_X2_readNumber rfl rfl rfl (by decide +kernel) ⟨Nat.le_of_ble_eq_true rfl, Nat.le_of_ble_eq_true rfl⟩) hK hP hD hS hA [0, 1, 2, 3, 4, 5, 6, 7, 8, 9, 10] [] [0, 1, 2, 3, 4, 5, 6, 7, 8, 9, 10] (w_Rdr cI cB cZ cS cT qt qt_draft qt_draft_kind qt_draft_father qt_draft_comes qt_draft_wants qt_draft_cost qt_draft_coins qt_draft_debts qt_tape qt_tape_bytes o_2.2.1 o_2.2.2.1 o_2.2.2.2.1 o_2.2.2.2.2.1 o_2.2.2.2.2.2 t_lawTold t_countersTold t_draft_people t_draft_law t_draft_counters o_1.2.2.2.2.2.2.1 o_1.2.2.2.2.2.2.2 t_draft_comes t_draft_wants t_draft_cost t_draft_coins t_draft_debts t_tape_length t_tape_bytes) rfl rfl rfl rfl (by decide) rfl rfl 2 0 rfl rfl rfl rfl hl.1 rfl (Nat.le_of_ble_eq_true rfl) dX2_readOne_32 ⟨Nat.zero_le _, Nat.zero_le _⟩ (fun H locs hP hD hS => ?_)
      refine mr_if_ne (tgt := 40) hx hb hM dX2_readOne_35 (by decide) (fun hM => ?_) (fun hM => ?_)
      · refine lv_aload_n hx hb dX2_readOne_40 rfl (lv_at hl 1 rfl) ?_
        refine va_get (D := D) (ci := 2) (v := .ref qt_draft) (C := RX2) (T := TX2) (N := 9) hx hb hts inX2w hown hK hP 0 rfl rfl 1 (by decide) hf21 (fun _ h9 => h9) rfl dX2_readOne_41 ?_
        refine va_get (D := D) (ci := 7) (v := .ref qt_draft_comes) (C := RX7) (T := TX7) (N := 10) hx hb hts inX7w hown hK hP 1 rfl rfl 5 (by decide) hf106 (fun _ h9 => h9) rfl dX2_readOne_44 ?_
        refine lv_iload_n hx hb dX2_readOne_47 rfl (lv_at hl 0 rfl) ?_
        refine lv_aload_n hx hb dX2_readOne_48 rfl (lv_at hl 1 rfl) ?_
        refine va_get (D := D) (ci := 2) (v := .int o_2.2.2.2.2.2) (C := RX2) (T := TX2) (N := 9) hx hb hts inX2w hown hK hP 0 rfl rfl 6 (by decide) hf90 (fun _ h9 => h9) rfl dX2_readOne_49 ?_
        refine mr_iast hx hb hK hP hD hS 4 0 (fun t_draft_comes_3 => (w_Rdr cI cB cZ cS cT qt qt_draft qt_draft_kind qt_draft_father qt_draft_comes qt_draft_wants qt_draft_cost qt_draft_coins qt_draft_debts qt_tape qt_tape_bytes o_2.2.1 o_2.2.2.1 o_2.2.2.2.1 o_2.2.2.2.2.1 o_2.2.2.2.2.2 t_lawTold t_countersTold t_draft_people t_draft_law t_draft_counters o_1.2.2.2.2.2.2.1 o_1.2.2.2.2.2.2.2 t_draft_comes_3 t_draft_wants t_draft_cost t_draft_coins t_draft_debts t_tape_length t_tape_bytes)) rfl rfl (fun _ => rfl) hM dX2_readOne_52 (fun t_draft_comes_3 hM H locs hP hD hS => ?_)
        refine lv_aload_n hx hb dX2_readOne_53 rfl (lv_at hl 1 rfl) ?_
        refine lv_iconst (v := 1) hx hb dX2_readOne_54 (by decide) ?_
        refine lv_bipush (v := 9) hx hb dX2_readOne_55 (by decide) ?_
        obtain ⟨o_4, hc, hM⟩ := bind_so hM
        refine mr_callVi (As := [.int 1, .int 9]) (rest := []) (wr := []) ⟨hx, hb, hml, hown, hts⟩ (k_Rdr_readNumber l D cI cB cZ cS cT qt qt_draft qt_draft_kind qt_draft_father qt_draft_comes qt_draft_wants qt_draft_cost qt_draft_coins qt_draft_debts qt_tape qt_tape_bytes o_2.2.1 o_2.2.2.1 o_2.2.2.2.1 o_2.2.2.2.2.1 o_2.2.2.2.2.2 t_lawTold t_countersTold t_draft_people t_draft_law t_draft_counters o_1.2.2.2.2.2.2.1 o_1.2.2.2.2.2.2.2 t_draft_comes_3 t_draft_wants t_draft_cost t_draft_coins t_draft_debts t_tape_length t_tape_bytes 1 9 _ hc) (cwV 2 hts gX2_readOne_X2_readNumber rfl rfl rfl (by decide +kernel) ⟨Nat.le_of_ble_eq_true rfl, Nat.le_of_ble_eq_true rfl⟩) hK hP hD hS hA [0, 1, 2, 3, 4, 5, 6, 7, 8, 9, 10] [] [0, 1, 2, 3, 4, 5, 6, 7, 8, 9, 10] (w_Rdr cI cB cZ cS cT qt qt_draft qt_draft_kind qt_draft_father qt_draft_comes qt_draft_wants qt_draft_cost qt_draft_coins qt_draft_debts qt_tape qt_tape_bytes o_4.2.1 o_4.2.2.1 o_4.2.2.2.1 o_4.2.2.2.2.1 o_4.2.2.2.2.2 t_lawTold t_countersTold t_draft_people t_draft_law t_draft_counters o_1.2.2.2.2.2.2.1 o_1.2.2.2.2.2.2.2 t_draft_comes_3 t_draft_wants t_draft_cost t_draft_coins t_draft_debts t_tape_length t_tape_bytes) rfl rfl rfl rfl (by decide) rfl rfl 2 0 rfl rfl rfl rfl hl.1 rfl (Nat.le_of_ble_eq_true rfl) dX2_readOne_57 ⟨Nat.zero_le _, Nat.zero_le _⟩ (fun H locs hP hD hS => ?_)
        refine mr_if_ne (tgt := 65) hx hb hM dX2_readOne_60 (by decide) (fun hM => ?_) (fun hM => ?_)
        · refine lv_aload_n hx hb dX2_readOne_65 rfl (lv_at hl 1 rfl) ?_
          refine va_get (D := D) (ci := 2) (v := .ref qt_draft) (C := RX2) (T := TX2) (N := 9) hx hb hts inX2w hown hK hP 0 rfl rfl 1 (by decide) hf21 (fun _ h9 => h9) rfl dX2_readOne_66 ?_
          refine va_get (D := D) (ci := 7) (v := .ref qt_draft_wants) (C := RX7) (T := TX7) (N := 10) hx hb hts inX7w hown hK hP 1 rfl rfl 6 (by decide) hf110 (fun _ h9 => h9) rfl dX2_readOne_69 ?_
          refine lv_iload_n hx hb dX2_readOne_72 rfl (lv_at hl 0 rfl) ?_
          refine lv_aload_n hx hb dX2_readOne_73 rfl (lv_at hl 1 rfl) ?_
          refine va_get (D := D) (ci := 2) (v := .int o_4.2.2.2.2.2) (C := RX2) (T := TX2) (N := 9) hx hb hts inX2w hown hK hP 0 rfl rfl 6 (by decide) hf90 (fun _ h9 => h9) rfl dX2_readOne_74 ?_
          refine mr_iast hx hb hK hP hD hS 5 0 (fun t_draft_wants_5 => (w_Rdr cI cB cZ cS cT qt qt_draft qt_draft_kind qt_draft_father qt_draft_comes qt_draft_wants qt_draft_cost qt_draft_coins qt_draft_debts qt_tape qt_tape_bytes o_4.2.1 o_4.2.2.1 o_4.2.2.2.1 o_4.2.2.2.2.1 o_4.2.2.2.2.2 t_lawTold t_countersTold t_draft_people t_draft_law t_draft_counters o_1.2.2.2.2.2.2.1 o_1.2.2.2.2.2.2.2 t_draft_comes_3 t_draft_wants_5 t_draft_cost t_draft_coins t_draft_debts t_tape_length t_tape_bytes)) rfl rfl (fun _ => rfl) hM dX2_readOne_77 (fun t_draft_wants_5 hM H locs hP hD hS => ?_)
          refine lv_aload_n hx hb dX2_readOne_78 rfl (lv_at hl 1 rfl) ?_
          refine lv_iconst (v := 0) hx hb dX2_readOne_79 (by decide) ?_
          refine lv_bipush (v := 9) hx hb dX2_readOne_80 (by decide) ?_
          obtain ⟨o_6, hc, hM⟩ := bind_so hM
          refine mr_callVi (As := [.int 0, .int 9]) (rest := []) (wr := []) ⟨hx, hb, hml, hown, hts⟩ (k_Rdr_readNumber l D cI cB cZ cS cT qt qt_draft qt_draft_kind qt_draft_father qt_draft_comes qt_draft_wants qt_draft_cost qt_draft_coins qt_draft_debts qt_tape qt_tape_bytes o_4.2.1 o_4.2.2.1 o_4.2.2.2.1 o_4.2.2.2.2.1 o_4.2.2.2.2.2 t_lawTold t_countersTold t_draft_people t_draft_law t_draft_counters o_1.2.2.2.2.2.2.1 o_1.2.2.2.2.2.2.2 t_draft_comes_3 t_draft_wants_5 t_draft_cost t_draft_coins t_draft_debts t_tape_length t_tape_bytes 0 9 _ hc) (cwV 2 hts gX2_readOne_X2_readNumber rfl rfl rfl (by decide +kernel) ⟨Nat.le_of_ble_eq_true rfl, Nat.le_of_ble_eq_true rfl⟩) hK hP hD hS hA [0, 1, 2, 3, 4, 5, 6, 7, 8, 9, 10] [] [0, 1, 2, 3, 4, 5, 6, 7, 8, 9, 10] (w_Rdr cI cB cZ cS cT qt qt_draft qt_draft_kind qt_draft_father qt_draft_comes qt_draft_wants qt_draft_cost qt_draft_coins qt_draft_debts qt_tape qt_tape_bytes o_6.2.1 o_6.2.2.1 o_6.2.2.2.1 o_6.2.2.2.2.1 o_6.2.2.2.2.2 t_lawTold t_countersTold t_draft_people t_draft_law t_draft_counters o_1.2.2.2.2.2.2.1 o_1.2.2.2.2.2.2.2 t_draft_comes_3 t_draft_wants_5 t_draft_cost t_draft_coins t_draft_debts t_tape_length t_tape_bytes) rfl rfl rfl rfl (by decide) rfl rfl 2 0 rfl rfl rfl rfl hl.1 rfl (Nat.le_of_ble_eq_true rfl) dX2_readOne_82 ⟨Nat.zero_le _, Nat.zero_le _⟩ (fun H locs hP hD hS => ?_)
          refine mr_if_ne (tgt := 90) hx hb hM dX2_readOne_85 (by decide) (fun hM => ?_) (fun hM => ?_)
          · refine lv_aload_n hx hb dX2_readOne_90 rfl (lv_at hl 1 rfl) ?_
            refine va_get (D := D) (ci := 2) (v := .ref qt_draft) (C := RX2) (T := TX2) (N := 9) hx hb hts inX2w hown hK hP 0 rfl rfl 1 (by decide) hf21 (fun _ h9 => h9) rfl dX2_readOne_91 ?_
            refine va_get (D := D) (ci := 7) (v := .ref qt_draft_cost) (C := RX7) (T := TX7) (N := 10) hx hb hts inX7w hown hK hP 1 rfl rfl 7 (by decide) hf113 (fun _ h9 => h9) rfl dX2_readOne_94 ?_
            refine lv_iload_n hx hb dX2_readOne_97 rfl (lv_at hl 0 rfl) ?_
            refine lv_aload_n hx hb dX2_readOne_98 rfl (lv_at hl 1 rfl) ?_
            refine va_get (D := D) (ci := 2) (v := .int o_6.2.2.2.2.2) (C := RX2) (T := TX2) (N := 9) hx hb hts inX2w hown hK hP 0 rfl rfl 6 (by decide) hf90 (fun _ h9 => h9) rfl dX2_readOne_99 ?_
            refine mr_iast hx hb hK hP hD hS 6 0 (fun t_draft_cost_7 => (w_Rdr cI cB cZ cS cT qt qt_draft qt_draft_kind qt_draft_father qt_draft_comes qt_draft_wants qt_draft_cost qt_draft_coins qt_draft_debts qt_tape qt_tape_bytes o_6.2.1 o_6.2.2.1 o_6.2.2.2.1 o_6.2.2.2.2.1 o_6.2.2.2.2.2 t_lawTold t_countersTold t_draft_people t_draft_law t_draft_counters o_1.2.2.2.2.2.2.1 o_1.2.2.2.2.2.2.2 t_draft_comes_3 t_draft_wants_5 t_draft_cost_7 t_draft_coins t_draft_debts t_tape_length t_tape_bytes)) rfl rfl (fun _ => rfl) hM dX2_readOne_102 (fun t_draft_cost_7 hM H locs hP hD hS => ?_)
            refine lv_aload_n hx hb dX2_readOne_103 rfl (lv_at hl 1 rfl) ?_
            refine lv_iconst (v := 0) hx hb dX2_readOne_104 (by decide) ?_
            refine lv_bipush (v := 50) hx hb dX2_readOne_105 (by decide) ?_
            obtain ⟨o_8, hc, hM⟩ := bind_so hM
            refine mr_callVi (As := [.int 0, .int 50]) (rest := []) (wr := []) ⟨hx, hb, hml, hown, hts⟩ (k_Rdr_readNumber l D cI cB cZ cS cT qt qt_draft qt_draft_kind qt_draft_father qt_draft_comes qt_draft_wants qt_draft_cost qt_draft_coins qt_draft_debts qt_tape qt_tape_bytes o_6.2.1 o_6.2.2.1 o_6.2.2.2.1 o_6.2.2.2.2.1 o_6.2.2.2.2.2 t_lawTold t_countersTold t_draft_people t_draft_law t_draft_counters o_1.2.2.2.2.2.2.1 o_1.2.2.2.2.2.2.2 t_draft_comes_3 t_draft_wants_5 t_draft_cost_7 t_draft_coins t_draft_debts t_tape_length t_tape_bytes 0 50 _ hc) (cwV 2 hts gX2_readOne_X2_readNumber rfl rfl rfl (by decide +kernel) ⟨Nat.le_of_ble_eq_true rfl, Nat.le_of_ble_eq_true rfl⟩) hK hP hD hS hA [0, 1, 2, 3, 4, 5, 6, 7, 8, 9, 10] [] [0, 1, 2, 3, 4, 5, 6, 7, 8, 9, 10] (w_Rdr cI cB cZ cS cT qt qt_draft qt_draft_kind qt_draft_father qt_draft_comes qt_draft_wants qt_draft_cost qt_draft_coins qt_draft_debts qt_tape qt_tape_bytes o_8.2.1 o_8.2.2.1 o_8.2.2.2.1 o_8.2.2.2.2.1 o_8.2.2.2.2.2 t_lawTold t_countersTold t_draft_people t_draft_law t_draft_counters o_1.2.2.2.2.2.2.1 o_1.2.2.2.2.2.2.2 t_draft_comes_3 t_draft_wants_5 t_draft_cost_7 t_draft_coins t_draft_debts t_tape_length t_tape_bytes) rfl rfl rfl rfl (by decide) rfl rfl 2 0 rfl rfl rfl rfl hl.1 rfl (Nat.le_of_ble_eq_true rfl) dX2_readOne_107 ⟨Nat.zero_le _, Nat.zero_le _⟩ (fun H locs hP hD hS => ?_)
            refine mr_if_ne (tgt := 115) hx hb hM dX2_readOne_110 (by decide) (fun hM => ?_) (fun hM => ?_)
            · refine lv_aload_n hx hb dX2_readOne_115 rfl (lv_at hl 1 rfl) ?_
              refine va_get (D := D) (ci := 2) (v := .ref qt_draft) (C := RX2) (T := TX2) (N := 9) hx hb hts inX2w hown hK hP 0 rfl rfl 1 (by decide) hf21 (fun _ h9 => h9) rfl dX2_readOne_116 ?_
              refine va_get (D := D) (ci := 7) (v := .ref qt_draft_coins) (C := RX7) (T := TX7) (N := 10) hx hb hts inX7w hown hK hP 1 rfl rfl 8 (by decide) hf116 (fun _ h9 => h9) rfl dX2_readOne_119 ?_
              refine lv_iload_n hx hb dX2_readOne_122 rfl (lv_at hl 0 rfl) ?_
              refine lv_aload_n hx hb dX2_readOne_123 rfl (lv_at hl 1 rfl) ?_
              refine va_get (D := D) (ci := 2) (v := .int o_8.2.2.2.2.2) (C := RX2) (T := TX2) (N := 9) hx hb hts inX2w hown hK hP 0 rfl rfl 6 (by decide) hf90 (fun _ h9 => h9) rfl dX2_readOne_124 ?_
              refine mr_iast hx hb hK hP hD hS 7 0 (fun t_draft_coins_9 => (w_Rdr cI cB cZ cS cT qt qt_draft qt_draft_kind qt_draft_father qt_draft_comes qt_draft_wants qt_draft_cost qt_draft_coins qt_draft_debts qt_tape qt_tape_bytes o_8.2.1 o_8.2.2.1 o_8.2.2.2.1 o_8.2.2.2.2.1 o_8.2.2.2.2.2 t_lawTold t_countersTold t_draft_people t_draft_law t_draft_counters o_1.2.2.2.2.2.2.1 o_1.2.2.2.2.2.2.2 t_draft_comes_3 t_draft_wants_5 t_draft_cost_7 t_draft_coins_9 t_draft_debts t_tape_length t_tape_bytes)) rfl rfl (fun _ => rfl) hM dX2_readOne_127 (fun t_draft_coins_9 hM H locs hP hD hS => ?_)
              refine lv_aload_n hx hb dX2_readOne_128 rfl (lv_at hl 1 rfl) ?_
              refine va_get (D := D) (ci := 2) (v := .ref qt_draft) (C := RX2) (T := TX2) (N := 9) hx hb hts inX2w hown hK hP 0 rfl rfl 1 (by decide) hf21 (fun _ h9 => h9) rfl dX2_readOne_129 ?_
              refine lv_dup hx hb dX2_readOne_132 rfl ?_
              refine va_get (D := D) (ci := 7) (v := .int t_draft_people) (C := RX7) (T := TX7) (N := 10) hx hb hts inX7w hown hK hP 1 rfl rfl 0 (by decide) hf100 (fun _ h9 => h9) rfl dX2_readOne_133 ?_
              refine lv_iconst (v := 1) hx hb dX2_readOne_136 (by decide) ?_
              refine lv_iadd hx hb dX2_readOne_137 ?_
              refine mr_nmI hM (fun t_draft_people_10 hM => ?_)
              refine mr_put (D := D) (ci := 7) (v := .int t_draft_people_10) (ty := .int) (C := RX7) (T := TX7) (N := 10) hx hb hts inX7w tyX7 tyX7_ok nmX7 hown hK hP hD hS 1 rfl rfl 0 (by decide) hf100 (fun _ h9 => h9) rfl (by decide +kernel) rfl rfl (Nat.le_of_ble_eq_true rfl) dX2_readOne_138 (w_Rdr cI cB cZ cS cT qt qt_draft qt_draft_kind qt_draft_father qt_draft_comes qt_draft_wants qt_draft_cost qt_draft_coins qt_draft_debts qt_tape qt_tape_bytes o_8.2.1 o_8.2.2.1 o_8.2.2.2.1 o_8.2.2.2.2.1 o_8.2.2.2.2.2 t_lawTold t_countersTold t_draft_people_10 t_draft_law t_draft_counters o_1.2.2.2.2.2.2.1 o_1.2.2.2.2.2.2.2 t_draft_comes_3 t_draft_wants_5 t_draft_cost_7 t_draft_coins_9 t_draft_debts t_tape_length t_tape_bytes) rfl (fun H locs hP hD hS => ?_)
              refine lv_aload_n hx hb dX2_readOne_141 rfl (lv_at hl 1 rfl) ?_
              obtain ⟨o_11, hc, hM⟩ := bind_so hM
              refine mr_callVi (As := []) (rest := []) (wr := []) ⟨hx, hb, hml, hown, hts⟩ (k_Rdr_readStop l D cI cB cZ cS cT qt qt_draft qt_draft_kind qt_draft_father qt_draft_comes qt_draft_wants qt_draft_cost qt_draft_coins qt_draft_debts qt_tape qt_tape_bytes o_8.2.1 o_8.2.2.1 o_8.2.2.2.1 o_8.2.2.2.2.1 o_8.2.2.2.2.2 t_lawTold t_countersTold t_draft_people_10 t_draft_law t_draft_counters o_1.2.2.2.2.2.2.1 o_1.2.2.2.2.2.2.2 t_draft_comes_3 t_draft_wants_5 t_draft_cost_7 t_draft_coins_9 t_draft_debts t_tape_length t_tape_bytes  _ hc) (cwV 0 hts gX2_readOne_X2_readStop rfl rfl rfl (by decide +kernel) ⟨Nat.le_of_ble_eq_true rfl, Nat.le_of_ble_eq_true rfl⟩) hK hP hD hS hA [0, 1, 2, 3, 4, 5, 6, 7, 8, 9, 10] [] [0, 1, 2, 3, 4, 5, 6, 7, 8, 9, 10] (w_Rdr cI cB cZ cS cT qt qt_draft qt_draft_kind qt_draft_father qt_draft_comes qt_draft_wants qt_draft_cost qt_draft_coins qt_draft_debts qt_tape qt_tape_bytes o_11.2.1 o_11.2.2.1 o_11.2.2.2.1 o_11.2.2.2.2.1 o_11.2.2.2.2.2 t_lawTold t_countersTold t_draft_people_10 t_draft_law t_draft_counters o_1.2.2.2.2.2.2.1 o_1.2.2.2.2.2.2.2 t_draft_comes_3 t_draft_wants_5 t_draft_cost_7 t_draft_coins_9 t_draft_debts t_tape_length t_tape_bytes) rfl rfl rfl rfl (by decide) rfl rfl 2 0 rfl rfl rfl rfl hl.1 rfl (Nat.le_of_ble_eq_true rfl) dX2_readOne_142 ⟨Nat.zero_le _, Nat.zero_le _⟩ (fun H locs hP hD hS => ?_)
              obtain ⟨hz, hM⟩ := guard_so hM
              have hM := Option.some.inj hM
              subst hM
              exact mr_zret hx hb hr (narrow_z hz) hlocks hQ hP hD hS rfl dX2_readOne_145
            · refine lv_iconst (v := 0) hx hb dX2_readOne_113 (by decide) ?_
              have hM := Option.some.inj hM
              subst hM
              exact mr_zret hx hb hr (by decide) hlocks hQ hP hD hS rfl dX2_readOne_114
          · refine lv_iconst (v := 0) hx hb dX2_readOne_88 (by decide) ?_
            have hM := Option.some.inj hM
            subst hM
            exact mr_zret hx hb hr (by decide) hlocks hQ hP hD hS rfl dX2_readOne_89
        · refine lv_iconst (v := 0) hx hb dX2_readOne_63 (by decide) ?_
          have hM := Option.some.inj hM
          subst hM
          exact mr_zret hx hb hr (by decide) hlocks hQ hP hD hS rfl dX2_readOne_64
      · refine lv_iconst (v := 0) hx hb dX2_readOne_38 (by decide) ?_
        have hM := Option.some.inj hM
        subst hM
        exact mr_zret hx hb hr (by decide) hlocks hQ hP hD hS rfl dX2_readOne_39
  · refine lv_aload_n hx hb dX2_readOne_14 rfl (lv_at hl 1 rfl) ?_
    refine lv_iconst (v := 5) hx hb dX2_readOne_15 (by decide) ?_
    obtain ⟨o_12, hc, hM⟩ := bind_so hM
    refine mr_callVi (As := [.int 5]) (rest := []) (wr := []) ⟨hx, hb, hml, hown, hts⟩ (k_Rdr_isFaulty l D cI cB cZ cS cT qt qt_draft qt_draft_kind qt_draft_father qt_draft_comes qt_draft_wants qt_draft_cost qt_draft_coins qt_draft_debts qt_tape qt_tape_bytes t_fault t_at t_sort t_start t_value t_lawTold t_countersTold t_draft_people t_draft_law t_draft_counters t_draft_kind t_draft_father t_draft_comes t_draft_wants t_draft_cost t_draft_coins t_draft_debts t_tape_length t_tape_bytes 5 _ hc) (cwV 1 hts gX2_readOne_X2_isFaulty rfl rfl rfl (by decide +kernel) ⟨Nat.le_of_ble_eq_true rfl, Nat.le_of_ble_eq_true rfl⟩) hK hP hD hS hA [0, 1, 2, 3, 4, 5, 6, 7, 8, 9, 10] [] [0, 1, 2, 3, 4, 5, 6, 7, 8, 9, 10] (w_Rdr cI cB cZ cS cT qt qt_draft qt_draft_kind qt_draft_father qt_draft_comes qt_draft_wants qt_draft_cost qt_draft_coins qt_draft_debts qt_tape qt_tape_bytes o_12.2 t_at t_sort t_start t_value t_lawTold t_countersTold t_draft_people t_draft_law t_draft_counters t_draft_kind t_draft_father t_draft_comes t_draft_wants t_draft_cost t_draft_coins t_draft_debts t_tape_length t_tape_bytes) rfl rfl rfl rfl (by decide) rfl rfl 2 0 rfl rfl rfl rfl hl.1 rfl (Nat.le_of_ble_eq_true rfl) dX2_readOne_16 ⟨Nat.zero_le _, Nat.zero_le _⟩ (fun H locs hP hD hS => ?_)
    obtain ⟨hz, hM⟩ := guard_so hM
    have hM := Option.some.inj hM
    subst hM
    exact mr_zret hx hb hr (narrow_z hz) hlocks hQ hP hD hS rfl dX2_readOne_19

abbrev rmX2_readLine : Room := { frames := 8, cells := 0, slots := 0, locals := 170 }
set_option maxHeartbeats 40000000 in
set_option maxRecDepth 100000 in
theorem k_Rdr_readLine (l : Launch) (D : va_G) (kK kV : Nat → Nat) (cI cB cZ cS cT : ClassId) (qt qt_draft qt_draft_kind qt_draft_father qt_draft_comes qt_draft_wants qt_draft_cost qt_draft_coins qt_draft_debts qt_tape qt_tape_bytes : Nat) (t_fault t_at t_sort t_start t_value t_lawTold t_countersTold t_draft_people t_draft_law t_draft_counters : Int32) (t_draft_kind t_draft_father t_draft_comes t_draft_wants t_draft_cost t_draft_coins t_draft_debts : Nat → Int32) (t_tape_length : Int32) (t_tape_bytes : Nat → Int32)  (o : Int32 × Int32 × Int32 × Int32 × Int32 × Int32 × Int32 × Int32 × Int32 × Int32 × Int32 × (Nat → Int32) × (Nat → Int32) × (Nat → Int32) × (Nat → Int32) × (Nat → Int32) × (Nat → Int32) × (Nat → Int32)) (hM : Rdr_readLine t_fault t_at t_sort t_start t_value t_lawTold t_countersTold t_draft_people t_draft_law t_draft_counters t_draft_kind t_draft_father t_draft_comes t_draft_wants t_draft_cost t_draft_coins t_draft_debts t_tape_length t_tape_bytes = some o) : msI l yX2_readLine wsX2_readLine rmX2_readLine D (tys5 cI cB cZ cS cT) kK kV [.ref qt] (w_Rdr cI cB cZ cS cT qt qt_draft qt_draft_kind qt_draft_father qt_draft_comes qt_draft_wants qt_draft_cost qt_draft_coins qt_draft_debts qt_tape qt_tape_bytes t_fault t_at t_sort t_start t_value t_lawTold t_countersTold t_draft_people t_draft_law t_draft_counters t_draft_kind t_draft_father t_draft_comes t_draft_wants t_draft_cost t_draft_coins t_draft_debts t_tape_length t_tape_bytes) (w_Rdr cI cB cZ cS cT qt qt_draft qt_draft_kind qt_draft_father qt_draft_comes qt_draft_wants qt_draft_cost qt_draft_coins qt_draft_debts qt_tape qt_tape_bytes o.2.1 o.2.2.1 o.2.2.2.1 o.2.2.2.2.1 o.2.2.2.2.2.1 o.2.2.2.2.2.2.1 o.2.2.2.2.2.2.2.1 o.2.2.2.2.2.2.2.2.1 o.2.2.2.2.2.2.2.2.2.1 o.2.2.2.2.2.2.2.2.2.2.1 o.2.2.2.2.2.2.2.2.2.2.2.1 o.2.2.2.2.2.2.2.2.2.2.2.2.1 o.2.2.2.2.2.2.2.2.2.2.2.2.2.1 o.2.2.2.2.2.2.2.2.2.2.2.2.2.2.1 o.2.2.2.2.2.2.2.2.2.2.2.2.2.2.2.1 o.2.2.2.2.2.2.2.2.2.2.2.2.2.2.2.2.1 o.2.2.2.2.2.2.2.2.2.2.2.2.2.2.2.2.2 t_tape_length t_tape_bytes) o.1 := by
  refine msI.of (cc := cX2_readLine) (maxL := 1) (ret := (some .boolean)) (by decide) rfl (Nat.le_of_ble_eq_true rfl) ?_
  intro p e s m below meth c A Q av hav hQ hx hb hr hml hown hts hlocks hK hP hD hA hS hX ls hl
  have hown : s.vm.findClass RX2 = some m.cls := hown
  have hl : lv_has ls 1 [(0, .ref qt)] := hl
  unfold Rdr_readLine at hM
  refine lv_aload_n hx hb dX2_readLine_0 rfl (lv_at hl 0 rfl) ?_
  refine va_ldcS hx hb hown (hX.2.1 0 (by decide)) dX2_readLine_1 ?_
  obtain ⟨o_1, hc, hM⟩ := bind_so hM
  refine mr_callViS (As := [.ref (kK 0)]) (rest := []) (wr := []) ⟨hx, hb, hml, hown, hts⟩ (k_Rdr_isNamed l D kK kV cI cB cZ cS cT qt qt_draft qt_draft_kind qt_draft_father qt_draft_comes qt_draft_wants qt_draft_cost qt_draft_coins qt_draft_debts qt_tape qt_tape_bytes t_fault t_at t_sort t_start t_value t_lawTold t_countersTold t_draft_people t_draft_law t_draft_counters t_draft_kind t_draft_father t_draft_comes t_draft_wants t_draft_cost t_draft_coins t_draft_debts t_tape_length t_tape_bytes 0 (by decide) _ hc) (cwV 1 hts gX2_readLine_X2_isNamed rfl rfl rfl (by decide +kernel) ⟨Nat.le_of_ble_eq_true rfl, Nat.le_of_ble_eq_true rfl⟩) hX hK hP hD hS hA [0, 1, 2, 3, 4, 5, 6, 7, 8, 9, 10] [] [0, 1, 2, 3, 4, 5, 6, 7, 8, 9, 10] (w_Rdr cI cB cZ cS cT qt qt_draft qt_draft_kind qt_draft_father qt_draft_comes qt_draft_wants qt_draft_cost qt_draft_coins qt_draft_debts qt_tape qt_tape_bytes t_fault t_at t_sort t_start t_value t_lawTold t_countersTold t_draft_people t_draft_law t_draft_counters t_draft_kind t_draft_father t_draft_comes t_draft_wants t_draft_cost t_draft_coins t_draft_debts t_tape_length t_tape_bytes) rfl rfl rfl rfl (by decide) rfl rfl 2 0 rfl rfl rfl rfl hl.1 rfl (Nat.le_of_ble_eq_true rfl) dX2_readLine_3 ⟨Nat.zero_le _, Nat.zero_le _⟩ (fun H locs hP hD hS => ?_)
  refine mr_if_eq (tgt := 14) hx hb hM dX2_readLine_6 (by decide) (fun hM => ?_) (fun hM => ?_)
  · refine lv_aload_n hx hb dX2_readLine_14 rfl (lv_at hl 0 rfl) ?_
    refine va_ldcS hx hb hown (hX.2.1 1 (by decide)) dX2_readLine_15 ?_
    obtain ⟨o_2, hc, hM⟩ := bind_so hM
    refine mr_callViS (As := [.ref (kK 1)]) (rest := []) (wr := []) ⟨hx, hb, hml, hown, hts⟩ (k_Rdr_isNamed l D kK kV cI cB cZ cS cT qt qt_draft qt_draft_kind qt_draft_father qt_draft_comes qt_draft_wants qt_draft_cost qt_draft_coins qt_draft_debts qt_tape qt_tape_bytes t_fault t_at t_sort t_start t_value t_lawTold t_countersTold t_draft_people t_draft_law t_draft_counters t_draft_kind t_draft_father t_draft_comes t_draft_wants t_draft_cost t_draft_coins t_draft_debts t_tape_length t_tape_bytes 1 (by decide) _ hc) (cwV 1 hts gX2_readLine_X2_isNamed rfl rfl rfl (by decide +kernel) ⟨Nat.le_of_ble_eq_true rfl, Nat.le_of_ble_eq_true rfl⟩) hX hK hP hD hS hA [0, 1, 2, 3, 4, 5, 6, 7, 8, 9, 10] [] [0, 1, 2, 3, 4, 5, 6, 7, 8, 9, 10] (w_Rdr cI cB cZ cS cT qt qt_draft qt_draft_kind qt_draft_father qt_draft_comes qt_draft_wants qt_draft_cost qt_draft_coins qt_draft_debts qt_tape qt_tape_bytes t_fault t_at t_sort t_start t_value t_lawTold t_countersTold t_draft_people t_draft_law t_draft_counters t_draft_kind t_draft_father t_draft_comes t_draft_wants t_draft_cost t_draft_coins t_draft_debts t_tape_length t_tape_bytes) rfl rfl rfl rfl (by decide) rfl rfl 2 0 rfl rfl rfl rfl hl.1 rfl (Nat.le_of_ble_eq_true rfl) dX2_readLine_17 ⟨Nat.zero_le _, Nat.zero_le _⟩ (fun H locs hP hD hS => ?_)
    refine mr_if_eq (tgt := 28) hx hb hM dX2_readLine_20 (by decide) (fun hM => ?_) (fun hM => ?_)
    · refine lv_aload_n hx hb dX2_readLine_28 rfl (lv_at hl 0 rfl) ?_
      refine va_ldcS hx hb hown (hX.2.1 2 (by decide)) dX2_readLine_29 ?_
      obtain ⟨o_3, hc, hM⟩ := bind_so hM
      refine mr_callViS (As := [.ref (kK 2)]) (rest := []) (wr := []) ⟨hx, hb, hml, hown, hts⟩ (k_Rdr_isNamed l D kK kV cI cB cZ cS cT qt qt_draft qt_draft_kind qt_draft_father qt_draft_comes qt_draft_wants qt_draft_cost qt_draft_coins qt_draft_debts qt_tape qt_tape_bytes t_fault t_at t_sort t_start t_value t_lawTold t_countersTold t_draft_people t_draft_law t_draft_counters t_draft_kind t_draft_father t_draft_comes t_draft_wants t_draft_cost t_draft_coins t_draft_debts t_tape_length t_tape_bytes 2 (by decide) _ hc) (cwV 1 hts gX2_readLine_X2_isNamed rfl rfl rfl (by decide +kernel) ⟨Nat.le_of_ble_eq_true rfl, Nat.le_of_ble_eq_true rfl⟩) hX hK hP hD hS hA [0, 1, 2, 3, 4, 5, 6, 7, 8, 9, 10] [] [0, 1, 2, 3, 4, 5, 6, 7, 8, 9, 10] (w_Rdr cI cB cZ cS cT qt qt_draft qt_draft_kind qt_draft_father qt_draft_comes qt_draft_wants qt_draft_cost qt_draft_coins qt_draft_debts qt_tape qt_tape_bytes t_fault t_at t_sort t_start t_value t_lawTold t_countersTold t_draft_people t_draft_law t_draft_counters t_draft_kind t_draft_father t_draft_comes t_draft_wants t_draft_cost t_draft_coins t_draft_debts t_tape_length t_tape_bytes) rfl rfl rfl rfl (by decide) rfl rfl 2 0 rfl rfl rfl rfl hl.1 rfl (Nat.le_of_ble_eq_true rfl) dX2_readLine_31 ⟨Nat.zero_le _, Nat.zero_le _⟩ (fun H locs hP hD hS => ?_)
      refine mr_if_eq (tgt := 42) hx hb hM dX2_readLine_34 (by decide) (fun hM => ?_) (fun hM => ?_)
      · refine lv_aload_n hx hb dX2_readLine_42 rfl (lv_at hl 0 rfl) ?_
        refine va_ldcS hx hb hown (hX.2.1 3 (by decide)) dX2_readLine_43 ?_
        obtain ⟨o_4, hc, hM⟩ := bind_so hM
        refine mr_callViS (As := [.ref (kK 3)]) (rest := []) (wr := []) ⟨hx, hb, hml, hown, hts⟩ (k_Rdr_isNamed l D kK kV cI cB cZ cS cT qt qt_draft qt_draft_kind qt_draft_father qt_draft_comes qt_draft_wants qt_draft_cost qt_draft_coins qt_draft_debts qt_tape qt_tape_bytes t_fault t_at t_sort t_start t_value t_lawTold t_countersTold t_draft_people t_draft_law t_draft_counters t_draft_kind t_draft_father t_draft_comes t_draft_wants t_draft_cost t_draft_coins t_draft_debts t_tape_length t_tape_bytes 3 (by decide) _ hc) (cwV 1 hts gX2_readLine_X2_isNamed rfl rfl rfl (by decide +kernel) ⟨Nat.le_of_ble_eq_true rfl, Nat.le_of_ble_eq_true rfl⟩) hX hK hP hD hS hA [0, 1, 2, 3, 4, 5, 6, 7, 8, 9, 10] [] [0, 1, 2, 3, 4, 5, 6, 7, 8, 9, 10] (w_Rdr cI cB cZ cS cT qt qt_draft qt_draft_kind qt_draft_father qt_draft_comes qt_draft_wants qt_draft_cost qt_draft_coins qt_draft_debts qt_tape qt_tape_bytes t_fault t_at t_sort t_start t_value t_lawTold t_countersTold t_draft_people t_draft_law t_draft_counters t_draft_kind t_draft_father t_draft_comes t_draft_wants t_draft_cost t_draft_coins t_draft_debts t_tape_length t_tape_bytes) rfl rfl rfl rfl (by decide) rfl rfl 2 0 rfl rfl rfl rfl hl.1 rfl (Nat.le_of_ble_eq_true rfl) dX2_readLine_45 ⟨Nat.zero_le _, Nat.zero_le _⟩ (fun H locs hP hD hS => ?_)
        refine mr_if_eq (tgt := 58) hx hb hM dX2_readLine_48 (by decide) (fun hM => ?_) (fun hM => ?_)
        · refine lv_aload_n hx hb dX2_readLine_58 rfl (lv_at hl 0 rfl) ?_
          refine lv_iconst (v := 2) hx hb dX2_readLine_59 (by decide) ?_
          obtain ⟨o_5, hc, hM⟩ := bind_so hM
          refine mr_callVi (As := [.int 2]) (rest := []) (wr := []) ⟨hx, hb, hml, hown, hts⟩ (k_Rdr_isFaulty l D cI cB cZ cS cT qt qt_draft qt_draft_kind qt_draft_father qt_draft_comes qt_draft_wants qt_draft_cost qt_draft_coins qt_draft_debts qt_tape qt_tape_bytes t_fault t_at t_sort t_start t_value t_lawTold t_countersTold t_draft_people t_draft_law t_draft_counters t_draft_kind t_draft_father t_draft_comes t_draft_wants t_draft_cost t_draft_coins t_draft_debts t_tape_length t_tape_bytes 2 _ hc) (cwV 1 hts gX2_readLine_X2_isFaulty rfl rfl rfl (by decide +kernel) ⟨Nat.le_of_ble_eq_true rfl, Nat.le_of_ble_eq_true rfl⟩) hK hP hD hS hA [0, 1, 2, 3, 4, 5, 6, 7, 8, 9, 10] [] [0, 1, 2, 3, 4, 5, 6, 7, 8, 9, 10] (w_Rdr cI cB cZ cS cT qt qt_draft qt_draft_kind qt_draft_father qt_draft_comes qt_draft_wants qt_draft_cost qt_draft_coins qt_draft_debts qt_tape qt_tape_bytes o_5.2 t_at t_sort t_start t_value t_lawTold t_countersTold t_draft_people t_draft_law t_draft_counters t_draft_kind t_draft_father t_draft_comes t_draft_wants t_draft_cost t_draft_coins t_draft_debts t_tape_length t_tape_bytes) rfl rfl rfl rfl (by decide) rfl rfl 2 0 rfl rfl rfl rfl hl.1 rfl (Nat.le_of_ble_eq_true rfl) dX2_readLine_60 ⟨Nat.zero_le _, Nat.zero_le _⟩ (fun H locs hP hD hS => ?_)
          obtain ⟨hz, hM⟩ := guard_so hM
          have hM := Option.some.inj hM
          subst hM
          exact mr_zret hx hb hr (narrow_z hz) hlocks hQ hP hD hS rfl dX2_readLine_63
        · refine lv_aload_n hx hb dX2_readLine_51 rfl (lv_at hl 0 rfl) ?_
          obtain ⟨o_6, hc, hM⟩ := bind_so hM
          refine mr_callVi (As := []) (rest := []) (wr := []) ⟨hx, hb, hml, hown, hts⟩ (k_Rdr_readDebt l D cI cB cZ cS cT qt qt_draft qt_draft_kind qt_draft_father qt_draft_comes qt_draft_wants qt_draft_cost qt_draft_coins qt_draft_debts qt_tape qt_tape_bytes t_fault t_at t_sort t_start t_value t_lawTold t_countersTold t_draft_people t_draft_law t_draft_counters t_draft_kind t_draft_father t_draft_comes t_draft_wants t_draft_cost t_draft_coins t_draft_debts t_tape_length t_tape_bytes  _ hc) (cwV 0 hts gX2_readLine_X2_readDebt rfl rfl rfl (by decide +kernel) ⟨Nat.le_of_ble_eq_true rfl, Nat.le_of_ble_eq_true rfl⟩) hK hP hD hS hA [0, 1, 2, 3, 4, 5, 6, 7, 8, 9, 10] [] [0, 1, 2, 3, 4, 5, 6, 7, 8, 9, 10] (w_Rdr cI cB cZ cS cT qt qt_draft qt_draft_kind qt_draft_father qt_draft_comes qt_draft_wants qt_draft_cost qt_draft_coins qt_draft_debts qt_tape qt_tape_bytes o_6.2.1 o_6.2.2.1 o_6.2.2.2.1 o_6.2.2.2.2.1 o_6.2.2.2.2.2.1 t_lawTold t_countersTold t_draft_people t_draft_law t_draft_counters t_draft_kind t_draft_father t_draft_comes t_draft_wants t_draft_cost t_draft_coins o_6.2.2.2.2.2.2 t_tape_length t_tape_bytes) rfl rfl rfl rfl (by decide) rfl rfl 2 0 rfl rfl rfl rfl hl.1 rfl (Nat.le_of_ble_eq_true rfl) dX2_readLine_52 ⟨Nat.zero_le _, Nat.zero_le _⟩ (fun H locs hP hD hS => ?_)
          refine lv_goto (tgt := 63) hx hb dX2_readLine_55 (by decide) ?_
          obtain ⟨hz, hM⟩ := guard_so hM
          have hM := Option.some.inj hM
          subst hM
          exact mr_zret hx hb hr (narrow_z hz) hlocks hQ hP hD hS rfl dX2_readLine_63
      · refine lv_aload_n hx hb dX2_readLine_37 rfl (lv_at hl 0 rfl) ?_
        obtain ⟨o_7, hc, hM⟩ := bind_so hM
        refine mr_callViS (As := []) (rest := []) (wr := []) ⟨hx, hb, hml, hown, hts⟩ (k_Rdr_readOne l D kK kV cI cB cZ cS cT qt qt_draft qt_draft_kind qt_draft_father qt_draft_comes qt_draft_wants qt_draft_cost qt_draft_coins qt_draft_debts qt_tape qt_tape_bytes t_fault t_at t_sort t_start t_value t_lawTold t_countersTold t_draft_people t_draft_law t_draft_counters t_draft_kind t_draft_father t_draft_comes t_draft_wants t_draft_cost t_draft_coins t_draft_debts t_tape_length t_tape_bytes  _ hc) (cwV 0 hts gX2_readLine_X2_readOne rfl rfl rfl (by decide +kernel) ⟨Nat.le_of_ble_eq_true rfl, Nat.le_of_ble_eq_true rfl⟩) hX hK hP hD hS hA [0, 1, 2, 3, 4, 5, 6, 7, 8, 9, 10] [] [0, 1, 2, 3, 4, 5, 6, 7, 8, 9, 10] (w_Rdr cI cB cZ cS cT qt qt_draft qt_draft_kind qt_draft_father qt_draft_comes qt_draft_wants qt_draft_cost qt_draft_coins qt_draft_debts qt_tape qt_tape_bytes o_7.2.1 o_7.2.2.1 o_7.2.2.2.1 o_7.2.2.2.2.1 o_7.2.2.2.2.2.1 t_lawTold t_countersTold o_7.2.2.2.2.2.2.1 t_draft_law t_draft_counters o_7.2.2.2.2.2.2.2.1 o_7.2.2.2.2.2.2.2.2.1 o_7.2.2.2.2.2.2.2.2.2.1 o_7.2.2.2.2.2.2.2.2.2.2.1 o_7.2.2.2.2.2.2.2.2.2.2.2.1 o_7.2.2.2.2.2.2.2.2.2.2.2.2 t_draft_debts t_tape_length t_tape_bytes) rfl rfl rfl rfl (by decide) rfl rfl 2 0 rfl rfl rfl rfl hl.1 rfl (Nat.le_of_ble_eq_true rfl) dX2_readLine_38 ⟨Nat.zero_le _, Nat.zero_le _⟩ (fun H locs hP hD hS => ?_)
        obtain ⟨hz, hM⟩ := guard_so hM
        have hM := Option.some.inj hM
        subst hM
        exact mr_zret hx hb hr (narrow_z hz) hlocks hQ hP hD hS rfl dX2_readLine_41
    · refine lv_aload_n hx hb dX2_readLine_23 rfl (lv_at hl 0 rfl) ?_
      obtain ⟨o_8, hc, hM⟩ := bind_so hM
      refine mr_callVi (As := []) (rest := []) (wr := []) ⟨hx, hb, hml, hown, hts⟩ (k_Rdr_readCounters l D cI cB cZ cS cT qt qt_draft qt_draft_kind qt_draft_father qt_draft_comes qt_draft_wants qt_draft_cost qt_draft_coins qt_draft_debts qt_tape qt_tape_bytes t_fault t_at t_sort t_start t_value t_lawTold t_countersTold t_draft_people t_draft_law t_draft_counters t_draft_kind t_draft_father t_draft_comes t_draft_wants t_draft_cost t_draft_coins t_draft_debts t_tape_length t_tape_bytes  _ hc) (cwV 0 hts gX2_readLine_X2_readCounters rfl rfl rfl (by decide +kernel) ⟨Nat.le_of_ble_eq_true rfl, Nat.le_of_ble_eq_true rfl⟩) hK hP hD hS hA [0, 1, 2, 3, 4, 5, 6, 7, 8, 9, 10] [] [0, 1, 2, 3, 4, 5, 6, 7, 8, 9, 10] (w_Rdr cI cB cZ cS cT qt qt_draft qt_draft_kind qt_draft_father qt_draft_comes qt_draft_wants qt_draft_cost qt_draft_coins qt_draft_debts qt_tape qt_tape_bytes o_8.2.1 o_8.2.2.1 o_8.2.2.2.1 o_8.2.2.2.2.1 o_8.2.2.2.2.2.1 t_lawTold o_8.2.2.2.2.2.2.1 t_draft_people t_draft_law o_8.2.2.2.2.2.2.2 t_draft_kind t_draft_father t_draft_comes t_draft_wants t_draft_cost t_draft_coins t_draft_debts t_tape_length t_tape_bytes) rfl rfl rfl rfl (by decide) rfl rfl 2 0 rfl rfl rfl rfl hl.1 rfl (Nat.le_of_ble_eq_true rfl) dX2_readLine_24 ⟨Nat.zero_le _, Nat.zero_le _⟩ (fun H locs hP hD hS => ?_)
      obtain ⟨hz, hM⟩ := guard_so hM
      have hM := Option.some.inj hM
      subst hM
      exact mr_zret hx hb hr (narrow_z hz) hlocks hQ hP hD hS rfl dX2_readLine_27
  · refine lv_aload_n hx hb dX2_readLine_9 rfl (lv_at hl 0 rfl) ?_
    obtain ⟨o_9, hc, hM⟩ := bind_so hM
    refine mr_callVi (As := []) (rest := []) (wr := []) ⟨hx, hb, hml, hown, hts⟩ (k_Rdr_readLaw l D cI cB cZ cS cT qt qt_draft qt_draft_kind qt_draft_father qt_draft_comes qt_draft_wants qt_draft_cost qt_draft_coins qt_draft_debts qt_tape qt_tape_bytes t_fault t_at t_sort t_start t_value t_lawTold t_countersTold t_draft_people t_draft_law t_draft_counters t_draft_kind t_draft_father t_draft_comes t_draft_wants t_draft_cost t_draft_coins t_draft_debts t_tape_length t_tape_bytes  _ hc) (cwV 0 hts gX2_readLine_X2_readLaw rfl rfl rfl (by decide +kernel) ⟨Nat.le_of_ble_eq_true rfl, Nat.le_of_ble_eq_true rfl⟩) hK hP hD hS hA [0, 1, 2, 3, 4, 5, 6, 7, 8, 9, 10] [] [0, 1, 2, 3, 4, 5, 6, 7, 8, 9, 10] (w_Rdr cI cB cZ cS cT qt qt_draft qt_draft_kind qt_draft_father qt_draft_comes qt_draft_wants qt_draft_cost qt_draft_coins qt_draft_debts qt_tape qt_tape_bytes o_9.2.1 o_9.2.2.1 o_9.2.2.2.1 o_9.2.2.2.2.1 o_9.2.2.2.2.2.1 o_9.2.2.2.2.2.2.1 t_countersTold t_draft_people o_9.2.2.2.2.2.2.2 t_draft_counters t_draft_kind t_draft_father t_draft_comes t_draft_wants t_draft_cost t_draft_coins t_draft_debts t_tape_length t_tape_bytes) rfl rfl rfl rfl (by decide) rfl rfl 2 0 rfl rfl rfl rfl hl.1 rfl (Nat.le_of_ble_eq_true rfl) dX2_readLine_10 ⟨Nat.zero_le _, Nat.zero_le _⟩ (fun H locs hP hD hS => ?_)
    obtain ⟨hz, hM⟩ := guard_so hM
    have hM := Option.some.inj hM
    subst hM
    exact mr_zret hx hb hr (narrow_z hz) hlocks hQ hP hD hS rfl dX2_readLine_13

abbrev rmX2_readTown : Room := { frames := 9, cells := 0, slots := 0, locals := 190 }
set_option maxHeartbeats 40000000 in
set_option maxRecDepth 100000 in
theorem k_Rdr_readTown (l : Launch) (D : va_G) (kK kV : Nat → Nat) (cI cB cZ cS cT : ClassId) (qt qt_draft qt_draft_kind qt_draft_father qt_draft_comes qt_draft_wants qt_draft_cost qt_draft_coins qt_draft_debts qt_tape qt_tape_bytes : Nat) (t_fault t_at t_sort t_start t_value t_lawTold t_countersTold t_draft_people t_draft_law t_draft_counters : Int32) (t_draft_kind t_draft_father t_draft_comes t_draft_wants t_draft_cost t_draft_coins t_draft_debts : Nat → Int32) (t_tape_length : Int32) (t_tape_bytes : Nat → Int32)  (o : Int32 × Int32 × Int32 × Int32 × Int32 × Int32 × Int32 × Int32 × Int32 × Int32 × Int32 × (Nat → Int32) × (Nat → Int32) × (Nat → Int32) × (Nat → Int32) × (Nat → Int32) × (Nat → Int32) × (Nat → Int32)) (hM : Rdr_readTown t_draft_kind t_draft_father t_draft_comes t_draft_wants t_draft_cost t_draft_coins t_draft_debts t_tape_length t_tape_bytes = some o) : msI l yX2_readTown wsX2_readTown rmX2_readTown D (tys5 cI cB cZ cS cT) kK kV [.ref qt] (w_Rdr cI cB cZ cS cT qt qt_draft qt_draft_kind qt_draft_father qt_draft_comes qt_draft_wants qt_draft_cost qt_draft_coins qt_draft_debts qt_tape qt_tape_bytes t_fault t_at t_sort t_start t_value t_lawTold t_countersTold t_draft_people t_draft_law t_draft_counters t_draft_kind t_draft_father t_draft_comes t_draft_wants t_draft_cost t_draft_coins t_draft_debts t_tape_length t_tape_bytes) (w_Rdr cI cB cZ cS cT qt qt_draft qt_draft_kind qt_draft_father qt_draft_comes qt_draft_wants qt_draft_cost qt_draft_coins qt_draft_debts qt_tape qt_tape_bytes o.2.1 o.2.2.1 o.2.2.2.1 o.2.2.2.2.1 o.2.2.2.2.2.1 o.2.2.2.2.2.2.1 o.2.2.2.2.2.2.2.1 o.2.2.2.2.2.2.2.2.1 o.2.2.2.2.2.2.2.2.2.1 o.2.2.2.2.2.2.2.2.2.2.1 o.2.2.2.2.2.2.2.2.2.2.2.1 o.2.2.2.2.2.2.2.2.2.2.2.2.1 o.2.2.2.2.2.2.2.2.2.2.2.2.2.1 o.2.2.2.2.2.2.2.2.2.2.2.2.2.2.1 o.2.2.2.2.2.2.2.2.2.2.2.2.2.2.2.1 o.2.2.2.2.2.2.2.2.2.2.2.2.2.2.2.2.1 o.2.2.2.2.2.2.2.2.2.2.2.2.2.2.2.2.2 t_tape_length t_tape_bytes) o.1 := by
  refine msI.of (cc := cX2_readTown) (maxL := 3) (ret := (some .int)) (by decide) rfl (Nat.le_of_ble_eq_true rfl) ?_
  intro p e s m below meth c A Q av hav hQ hx hb hr hml hown hts hlocks hK hP hD hA hS hX ls hl
  have hown : s.vm.findClass RX2 = some m.cls := hown
  have hl : lv_has ls 3 [(0, .ref qt)] := hl
  unfold Rdr_readTown at hM
  have inX2w : ∀ w ∈ u_ws RX2 TX2 9, w ∈ wsX2_readTown := by decide +kernel
  have hf25 := hts (.fieldLink RX2 25 "LetsIn$Reader" "fault" "I") (by decide +kernel)
  have hf29 := hts (.fieldLink RX2 29 "LetsIn$Reader" "at" "I") (by decide +kernel)
  have hf32 := hts (.fieldLink RX2 32 "LetsIn$Reader" "lawTold" "Z") (by decide +kernel)
  have hf36 := hts (.fieldLink RX2 36 "LetsIn$Reader" "countersTold" "Z") (by decide +kernel)
  have hf21 := hts (.fieldLink RX2 21 "LetsIn$Reader" "draft" "LLetsIn$Town;") (by decide +kernel)
  have hf46 := hts (.fieldLink RX2 46 "LetsIn$Reader" "sort" "I") (by decide +kernel)
  have hf55 := hts (.fieldLink RX2 55 "LetsIn$Reader" "start" "I") (by decide +kernel)
  refine lv_aload_n hx hb dX2_readTown_0 rfl (lv_at hl 0 rfl) ?_
  refine lv_iconst (v := 0) hx hb dX2_readTown_1 (by decide) ?_
  refine mr_put (D := D) (ci := 2) (v := .int 0) (ty := .int) (C := RX2) (T := TX2) (N := 9) hx hb hts inX2w tyX2 tyX2_ok nmX2 hown hK hP hD hS 0 rfl rfl 2 (by decide) hf25 (fun _ h9 => h9) rfl (by decide +kernel) rfl rfl (Nat.le_of_ble_eq_true rfl) dX2_readTown_2 (w_Rdr cI cB cZ cS cT qt qt_draft qt_draft_kind qt_draft_father qt_draft_comes qt_draft_wants qt_draft_cost qt_draft_coins qt_draft_debts qt_tape qt_tape_bytes 0 t_at t_sort t_start t_value t_lawTold t_countersTold t_draft_people t_draft_law t_draft_counters t_draft_kind t_draft_father t_draft_comes t_draft_wants t_draft_cost t_draft_coins t_draft_debts t_tape_length t_tape_bytes) rfl (fun H locs hP hD hS => ?_)
  refine lv_aload_n hx hb dX2_readTown_5 rfl (lv_at hl 0 rfl) ?_
  refine lv_iconst (v := 0) hx hb dX2_readTown_6 (by decide) ?_
  refine mr_put (D := D) (ci := 2) (v := .int 0) (ty := .int) (C := RX2) (T := TX2) (N := 9) hx hb hts inX2w tyX2 tyX2_ok nmX2 hown hK hP hD hS 0 rfl rfl 3 (by decide) hf29 (fun _ h9 => h9) rfl (by decide +kernel) rfl rfl (Nat.le_of_ble_eq_true rfl) dX2_readTown_7 (w_Rdr cI cB cZ cS cT qt qt_draft qt_draft_kind qt_draft_father qt_draft_comes qt_draft_wants qt_draft_cost qt_draft_coins qt_draft_debts qt_tape qt_tape_bytes 0 0 t_sort t_start t_value t_lawTold t_countersTold t_draft_people t_draft_law t_draft_counters t_draft_kind t_draft_father t_draft_comes t_draft_wants t_draft_cost t_draft_coins t_draft_debts t_tape_length t_tape_bytes) rfl (fun H locs hP hD hS => ?_)
  refine lv_aload_n hx hb dX2_readTown_10 rfl (lv_at hl 0 rfl) ?_
  refine lv_iconst (v := 0) hx hb dX2_readTown_11 (by decide) ?_
  refine mr_put (D := D) (ci := 2) (v := .int 0) (ty := .boolean) (C := RX2) (T := TX2) (N := 9) hx hb hts inX2w tyX2 tyX2_ok nmX2 hown hK hP hD hS 0 rfl rfl 7 (by decide) hf32 (fun _ h9 => h9) rfl (by decide +kernel) rfl rfl (Nat.le_of_ble_eq_true rfl) dX2_readTown_12 (w_Rdr cI cB cZ cS cT qt qt_draft qt_draft_kind qt_draft_father qt_draft_comes qt_draft_wants qt_draft_cost qt_draft_coins qt_draft_debts qt_tape qt_tape_bytes 0 0 t_sort t_start t_value 0 t_countersTold t_draft_people t_draft_law t_draft_counters t_draft_kind t_draft_father t_draft_comes t_draft_wants t_draft_cost t_draft_coins t_draft_debts t_tape_length t_tape_bytes) rfl (fun H locs hP hD hS => ?_)
  refine lv_aload_n hx hb dX2_readTown_15 rfl (lv_at hl 0 rfl) ?_
  refine lv_iconst (v := 0) hx hb dX2_readTown_16 (by decide) ?_
  refine mr_put (D := D) (ci := 2) (v := .int 0) (ty := .boolean) (C := RX2) (T := TX2) (N := 9) hx hb hts inX2w tyX2 tyX2_ok nmX2 hown hK hP hD hS 0 rfl rfl 8 (by decide) hf36 (fun _ h9 => h9) rfl (by decide +kernel) rfl rfl (Nat.le_of_ble_eq_true rfl) dX2_readTown_17 (w_Rdr cI cB cZ cS cT qt qt_draft qt_draft_kind qt_draft_father qt_draft_comes qt_draft_wants qt_draft_cost qt_draft_coins qt_draft_debts qt_tape qt_tape_bytes 0 0 t_sort t_start t_value 0 0 t_draft_people t_draft_law t_draft_counters t_draft_kind t_draft_father t_draft_comes t_draft_wants t_draft_cost t_draft_coins t_draft_debts t_tape_length t_tape_bytes) rfl (fun H locs hP hD hS => ?_)
  refine lv_aload_n hx hb dX2_readTown_20 rfl (lv_at hl 0 rfl) ?_
  refine va_get (D := D) (ci := 2) (v := .ref qt_draft) (C := RX2) (T := TX2) (N := 9) hx hb hts inX2w hown hK hP 0 rfl rfl 1 (by decide) hf21 (fun _ h9 => h9) rfl dX2_readTown_21 ?_
  obtain ⟨o_1, hc, hM⟩ := bind_so hM
  refine mr_callVv (As := []) (rest := []) (wr := [(qt, .inr (2, [.ref qt_tape, .ref qt_draft, .int 0, .int 0, .int t_sort, .int t_start, .int t_value, .int 0, .int 0])), (qt_tape, .inr (6, [.ref qt_tape_bytes, .int t_tape_length])), (qt_tape_bytes, .inl (cB, 400, .inl t_tape_bytes))]) ⟨hx, hb, hml, hown, hts⟩ (k_Twn_becomeEmpty l D cI cB cZ cS cT qt_draft qt_draft_kind qt_draft_father qt_draft_comes qt_draft_wants qt_draft_cost qt_draft_coins qt_draft_debts t_draft_people t_draft_law t_draft_counters t_draft_kind t_draft_father t_draft_comes t_draft_wants t_draft_cost t_draft_coins t_draft_debts  _ hc) (cwV 0 hts gX2_readTown_X7_becomeEmpty rfl rfl rfl (by decide +kernel) ⟨Nat.le_of_ble_eq_true rfl, Nat.le_of_ble_eq_true rfl⟩) hK hP hD hS hA [1, 2, 3, 4, 5, 6, 7, 8] [0, 9, 10] [0, 3, 4, 5, 6, 7, 8, 9, 10, 1, 2] (w_Rdr cI cB cZ cS cT qt qt_draft qt_draft_kind qt_draft_father qt_draft_comes qt_draft_wants qt_draft_cost qt_draft_coins qt_draft_debts qt_tape qt_tape_bytes 0 0 t_sort t_start t_value 0 0 o_1.1 o_1.2.1 o_1.2.2.1 t_draft_kind t_draft_father t_draft_comes t_draft_wants t_draft_cost t_draft_coins o_1.2.2.2 t_tape_length t_tape_bytes) rfl rfl rfl rfl (by decide) rfl rfl 7 0 rfl rfl rfl rfl hl.1 rfl (Nat.le_of_ble_eq_true rfl) dX2_readTown_24 ⟨Nat.zero_le _, Nat.zero_le _⟩ (fun H locs hP hD hS => ?_)
  refine lv_iconst (v := 0) hx hb dX2_readTown_27 (by decide) ?_
  refine lv_istore_n (lv' := [(1, .int 0), (0, .ref qt)]) hx hb dX2_readTown_28 rfl hl (by decide) rfl (fun ls hl => ?_)
  refine lv_aload_n hx hb dX2_readTown_29 rfl (lv_at hl 1 rfl) ?_
  obtain ⟨o_2, hc, hM⟩ := bind_so hM
  refine mr_callVi (As := []) (rest := []) (wr := []) ⟨hx, hb, hml, hown, hts⟩ (k_Rdr_readToken l D cI cB cZ cS cT qt qt_draft qt_draft_kind qt_draft_father qt_draft_comes qt_draft_wants qt_draft_cost qt_draft_coins qt_draft_debts qt_tape qt_tape_bytes 0 0 t_sort t_start t_value 0 0 o_1.1 o_1.2.1 o_1.2.2.1 t_draft_kind t_draft_father t_draft_comes t_draft_wants t_draft_cost t_draft_coins o_1.2.2.2 t_tape_length t_tape_bytes  _ hc) (cwV 0 hts gX2_readTown_X2_readToken rfl rfl rfl (by decide +kernel) ⟨Nat.le_of_ble_eq_true rfl, Nat.le_of_ble_eq_true rfl⟩) hK hP hD hS hA [0, 1, 2, 3, 4, 5, 6, 7, 8, 9, 10] [] [0, 1, 2, 3, 4, 5, 6, 7, 8, 9, 10] (w_Rdr cI cB cZ cS cT qt qt_draft qt_draft_kind qt_draft_father qt_draft_comes qt_draft_wants qt_draft_cost qt_draft_coins qt_draft_debts qt_tape qt_tape_bytes o_2.2.1 o_2.2.2.1 o_2.2.2.2.1 o_2.2.2.2.2.1 o_2.2.2.2.2.2 0 0 o_1.1 o_1.2.1 o_1.2.2.1 t_draft_kind t_draft_father t_draft_comes t_draft_wants t_draft_cost t_draft_coins o_1.2.2.2 t_tape_length t_tape_bytes) rfl rfl rfl rfl (by decide) rfl rfl 2 0 rfl rfl rfl rfl hl.1 rfl (Nat.le_of_ble_eq_true rfl) dX2_readTown_30 ⟨Nat.zero_le _, Nat.zero_le _⟩ (fun H locs hP hD hS => ?_)
  refine lv_istore_n (lv' := [(2, .int o_2.1), (1, .int 0), (0, .ref qt)]) hx hb dX2_readTown_33 rfl hl (by decide) rfl (fun ls hl => ?_)
  have hL34 : ∀ (K79 : Int32 → Int32 → Int32 → Int32 → Int32 → Int32 → Int32 → Int32 → Int32 → Int32 → Int32 → Int32 → (Nat → Int32) → (Nat → Int32) → (Nat → Int32) → (Nat → Int32) → (Nat → Int32) → (Nat → Int32) → (Nat → Int32) → Option (Int32 × Int32 × Int32 × Int32 × Int32 × Int32 × Int32 × Int32 × Int32 × Int32 × Int32 × (Nat → Int32) × (Nat → Int32) × (Nat → Int32) × (Nat → Int32) × (Nat → Int32) × (Nat → Int32) × (Nat → Int32))), (∀ (x1_32 x2_33 t_fault_34 t_at_35 t_sort_36 t_start_37 t_value_38 t_lawTold_39 t_countersTold_40 t_draft_people_41 t_draft_law_42 t_draft_counters_43 : Int32) (t_draft_kind_44 t_draft_father_45 t_draft_comes_46 t_draft_wants_47 t_draft_cost_48 t_draft_coins_49 t_draft_debts_50 : Nat → Int32), K79 x1_32 x2_33 t_fault_34 t_at_35 t_sort_36 t_start_37 t_value_38 t_lawTold_39 t_countersTold_40 t_draft_people_41 t_draft_law_42 t_draft_counters_43 t_draft_kind_44 t_draft_father_45 t_draft_comes_46 t_draft_wants_47 t_draft_cost_48 t_draft_coins_49 t_draft_debts_50 = some o → ∀ (H : Heap) (locs : List Loc), va_P D vwCl (w_Rdr cI cB cZ cS cT qt qt_draft qt_draft_kind qt_draft_father qt_draft_comes qt_draft_wants qt_draft_cost qt_draft_coins qt_draft_debts qt_tape qt_tape_bytes t_fault_34 t_at_35 t_sort_36 t_start_37 t_value_38 t_lawTold_39 t_countersTold_40 t_draft_people_41 t_draft_law_42 t_draft_counters_43 t_draft_kind_44 t_draft_father_45 t_draft_comes_46 t_draft_wants_47 t_draft_cost_48 t_draft_coins_49 t_draft_debts_50 t_tape_length t_tape_bytes) H → va_D A (w_Rdr cI cB cZ cS cT qt qt_draft qt_draft_kind qt_draft_father qt_draft_comes qt_draft_wants qt_draft_cost qt_draft_coins qt_draft_debts qt_tape qt_tape_bytes t_fault_34 t_at_35 t_sort_36 t_start_37 t_value_38 t_lawTold_39 t_countersTold_40 t_draft_people_41 t_draft_law_42 t_draft_counters_43 t_draft_kind_44 t_draft_father_45 t_draft_comes_46 t_draft_wants_47 t_draft_cost_48 t_draft_coins_49 t_draft_debts_50 t_tape_length t_tape_bytes) → va_S A s.heap H locs → ∀ ls : Array Slot, lv_has ls 3 [(0, .ref qt), (1, .int x1_32), (2, .int x2_33)] → W p l e rmX2_readTown s m av below meth c H locs 0 0 Q (F0 m 79 ls [])) → ∀ (n : Nat) (x1_3 x2_4 t_fault_5 t_at_6 t_sort_7 t_start_8 t_value_9 t_lawTold_10 t_countersTold_11 t_draft_people_12 t_draft_law_13 t_draft_counters_14 : Int32) (t_draft_kind_15 t_draft_father_16 t_draft_comes_17 t_draft_wants_18 t_draft_cost_19 t_draft_coins_20 t_draft_debts_21 : Nat → Int32), Rdr_readTown_L34 t_tape_length t_tape_bytes K79 n x1_3 x2_4 t_fault_5 t_at_6 t_sort_7 t_start_8 t_value_9 t_lawTold_10 t_countersTold_11 t_draft_people_12 t_draft_law_13 t_draft_counters_14 t_draft_kind_15 t_draft_father_16 t_draft_comes_17 t_draft_wants_18 t_draft_cost_19 t_draft_coins_20 t_draft_debts_21 = some o → ∀ (H : Heap) (locs : List Loc), va_P D vwCl (w_Rdr cI cB cZ cS cT qt qt_draft qt_draft_kind qt_draft_father qt_draft_comes qt_draft_wants qt_draft_cost qt_draft_coins qt_draft_debts qt_tape qt_tape_bytes t_fault_5 t_at_6 t_sort_7 t_start_8 t_value_9 t_lawTold_10 t_countersTold_11 t_draft_people_12 t_draft_law_13 t_draft_counters_14 t_draft_kind_15 t_draft_father_16 t_draft_comes_17 t_draft_wants_18 t_draft_cost_19 t_draft_coins_20 t_draft_debts_21 t_tape_length t_tape_bytes) H → va_D A (w_Rdr cI cB cZ cS cT qt qt_draft qt_draft_kind qt_draft_father qt_draft_comes qt_draft_wants qt_draft_cost qt_draft_coins qt_draft_debts qt_tape qt_tape_bytes t_fault_5 t_at_6 t_sort_7 t_start_8 t_value_9 t_lawTold_10 t_countersTold_11 t_draft_people_12 t_draft_law_13 t_draft_counters_14 t_draft_kind_15 t_draft_father_16 t_draft_comes_17 t_draft_wants_18 t_draft_cost_19 t_draft_coins_20 t_draft_debts_21 t_tape_length t_tape_bytes) → va_S A s.heap H locs → ∀ ls : Array Slot, lv_has ls 3 [(0, .ref qt), (1, .int x1_3), (2, .int x2_4)] → W p l e rmX2_readTown s m av below meth c H locs 0 0 Q (F0 m 34 ls []) := by
    intro K79 hK79 n
    induction n with
    | zero =>
      intro x1_3 x2_4 t_fault_5 t_at_6 t_sort_7 t_start_8 t_value_9 t_lawTold_10 t_countersTold_11 t_draft_people_12 t_draft_law_13 t_draft_counters_14 t_draft_kind_15 t_draft_father_16 t_draft_comes_17 t_draft_wants_18 t_draft_cost_19 t_draft_coins_20 t_draft_debts_21 hM
      rw [Rdr_readTown_L34] at hM
      cases hM
    | succ n ih =>
      intro x1_3 x2_4 t_fault_5 t_at_6 t_sort_7 t_start_8 t_value_9 t_lawTold_10 t_countersTold_11 t_draft_people_12 t_draft_law_13 t_draft_counters_14 t_draft_kind_15 t_draft_father_16 t_draft_comes_17 t_draft_wants_18 t_draft_cost_19 t_draft_coins_20 t_draft_debts_21 hM H locs hP hD hS ls hl
      rw [Rdr_readTown_L34] at hM
      refine lv_iload_n hx hb dX2_readTown_34 rfl (lv_at hl 2 rfl) ?_
      refine mr_if_eq (tgt := 79) hx hb hM dX2_readTown_35 (by decide) (fun hM => ?_) (fun hM => ?_)
      · exact hK79 x1_3 x2_4 t_fault_5 t_at_6 t_sort_7 t_start_8 t_value_9 t_lawTold_10 t_countersTold_11 t_draft_people_12 t_draft_law_13 t_draft_counters_14 t_draft_kind_15 t_draft_father_16 t_draft_comes_17 t_draft_wants_18 t_draft_cost_19 t_draft_coins_20 t_draft_debts_21 hM _ _ hP hD hS ls (lv_sub hl [0, 1, 2] rfl)
      · refine lv_aload_n hx hb dX2_readTown_38 rfl (lv_at hl 0 rfl) ?_
        refine va_get (D := D) (ci := 2) (v := .int t_sort_7) (C := RX2) (T := TX2) (N := 9) hx hb hts inX2w hown hK hP 0 rfl rfl 4 (by decide) hf46 (fun _ h9 => h9) rfl dX2_readTown_39 ?_
        refine lv_iconst (v := 4) hx hb dX2_readTown_42 (by decide) ?_
        refine mr_icmp_eq (tgt := 79) hx hb hM dX2_readTown_43 (by decide) (fun hM => ?_) (fun hM => ?_)
        · exact hK79 x1_3 x2_4 t_fault_5 t_at_6 t_sort_7 t_start_8 t_value_9 t_lawTold_10 t_countersTold_11 t_draft_people_12 t_draft_law_13 t_draft_counters_14 t_draft_kind_15 t_draft_father_16 t_draft_comes_17 t_draft_wants_18 t_draft_cost_19 t_draft_coins_20 t_draft_debts_21 hM _ _ hP hD hS ls (lv_sub hl [0, 1, 2] rfl)
        · refine lv_iload_n hx hb dX2_readTown_46 rfl (lv_at hl 1 rfl) ?_
          refine lv_sipush (v := 400) hx hb dX2_readTown_47 (by decide) ?_
          refine mr_icmp_gt (tgt := 79) hx hb hM dX2_readTown_50 (by decide) (fun hM => ?_) (fun hM => ?_)
          · exact hK79 x1_3 x2_4 t_fault_5 t_at_6 t_sort_7 t_start_8 t_value_9 t_lawTold_10 t_countersTold_11 t_draft_people_12 t_draft_law_13 t_draft_counters_14 t_draft_kind_15 t_draft_father_16 t_draft_comes_17 t_draft_wants_18 t_draft_cost_19 t_draft_coins_20 t_draft_debts_21 hM _ _ hP hD hS ls (lv_sub hl [0, 1, 2] rfl)
          · refine lv_aload_n hx hb dX2_readTown_53 rfl (lv_at hl 0 rfl) ?_
            obtain ⟨o_22, hc, hM⟩ := bind_so hM
            refine mr_callViS (As := []) (rest := []) (wr := []) ⟨hx, hb, hml, hown, hts⟩ (k_Rdr_readLine l D kK kV cI cB cZ cS cT qt qt_draft qt_draft_kind qt_draft_father qt_draft_comes qt_draft_wants qt_draft_cost qt_draft_coins qt_draft_debts qt_tape qt_tape_bytes t_fault_5 t_at_6 t_sort_7 t_start_8 t_value_9 t_lawTold_10 t_countersTold_11 t_draft_people_12 t_draft_law_13 t_draft_counters_14 t_draft_kind_15 t_draft_father_16 t_draft_comes_17 t_draft_wants_18 t_draft_cost_19 t_draft_coins_20 t_draft_debts_21 t_tape_length t_tape_bytes  _ hc) (cwV 0 hts gX2_readTown_X2_readLine rfl rfl rfl (by decide +kernel) ⟨Nat.le_of_ble_eq_true rfl, Nat.le_of_ble_eq_true rfl⟩) hX hK hP hD hS hA [0, 1, 2, 3, 4, 5, 6, 7, 8, 9, 10] [] [0, 1, 2, 3, 4, 5, 6, 7, 8, 9, 10] (w_Rdr cI cB cZ cS cT qt qt_draft qt_draft_kind qt_draft_father qt_draft_comes qt_draft_wants qt_draft_cost qt_draft_coins qt_draft_debts qt_tape qt_tape_bytes o_22.2.1 o_22.2.2.1 o_22.2.2.2.1 o_22.2.2.2.2.1 o_22.2.2.2.2.2.1 o_22.2.2.2.2.2.2.1 o_22.2.2.2.2.2.2.2.1 o_22.2.2.2.2.2.2.2.2.1 o_22.2.2.2.2.2.2.2.2.2.1 o_22.2.2.2.2.2.2.2.2.2.2.1 o_22.2.2.2.2.2.2.2.2.2.2.2.1 o_22.2.2.2.2.2.2.2.2.2.2.2.2.1 o_22.2.2.2.2.2.2.2.2.2.2.2.2.2.1 o_22.2.2.2.2.2.2.2.2.2.2.2.2.2.2.1 o_22.2.2.2.2.2.2.2.2.2.2.2.2.2.2.2.1 o_22.2.2.2.2.2.2.2.2.2.2.2.2.2.2.2.2.1 o_22.2.2.2.2.2.2.2.2.2.2.2.2.2.2.2.2.2 t_tape_length t_tape_bytes) rfl rfl rfl rfl (by decide) rfl rfl 2 0 rfl rfl rfl rfl hl.1 rfl (Nat.le_of_ble_eq_true rfl) dX2_readTown_54 ⟨Nat.zero_le _, Nat.zero_le _⟩ (fun H locs hP hD hS => ?_)
            refine mr_jn hM (fun j71_23 => ∀ (t_fault_24 t_at_25 t_sort_26 t_start_27 t_value_28 : Int32), j71_23 t_fault_24 t_at_25 t_sort_26 t_start_27 t_value_28 = some o → ∀ (H : Heap) (locs : List Loc), va_P D vwCl (w_Rdr cI cB cZ cS cT qt qt_draft qt_draft_kind qt_draft_father qt_draft_comes qt_draft_wants qt_draft_cost qt_draft_coins qt_draft_debts qt_tape qt_tape_bytes t_fault_24 t_at_25 t_sort_26 t_start_27 t_value_28 o_22.2.2.2.2.2.2.1 o_22.2.2.2.2.2.2.2.1 o_22.2.2.2.2.2.2.2.2.1 o_22.2.2.2.2.2.2.2.2.2.1 o_22.2.2.2.2.2.2.2.2.2.2.1 o_22.2.2.2.2.2.2.2.2.2.2.2.1 o_22.2.2.2.2.2.2.2.2.2.2.2.2.1 o_22.2.2.2.2.2.2.2.2.2.2.2.2.2.1 o_22.2.2.2.2.2.2.2.2.2.2.2.2.2.2.1 o_22.2.2.2.2.2.2.2.2.2.2.2.2.2.2.2.1 o_22.2.2.2.2.2.2.2.2.2.2.2.2.2.2.2.2.1 o_22.2.2.2.2.2.2.2.2.2.2.2.2.2.2.2.2.2 t_tape_length t_tape_bytes) H → va_D A (w_Rdr cI cB cZ cS cT qt qt_draft qt_draft_kind qt_draft_father qt_draft_comes qt_draft_wants qt_draft_cost qt_draft_coins qt_draft_debts qt_tape qt_tape_bytes t_fault_24 t_at_25 t_sort_26 t_start_27 t_value_28 o_22.2.2.2.2.2.2.1 o_22.2.2.2.2.2.2.2.1 o_22.2.2.2.2.2.2.2.2.1 o_22.2.2.2.2.2.2.2.2.2.1 o_22.2.2.2.2.2.2.2.2.2.2.1 o_22.2.2.2.2.2.2.2.2.2.2.2.1 o_22.2.2.2.2.2.2.2.2.2.2.2.2.1 o_22.2.2.2.2.2.2.2.2.2.2.2.2.2.1 o_22.2.2.2.2.2.2.2.2.2.2.2.2.2.2.1 o_22.2.2.2.2.2.2.2.2.2.2.2.2.2.2.2.1 o_22.2.2.2.2.2.2.2.2.2.2.2.2.2.2.2.2.1 o_22.2.2.2.2.2.2.2.2.2.2.2.2.2.2.2.2.2 t_tape_length t_tape_bytes) → va_S A s.heap H locs → ∀ ls : Array Slot, lv_has ls 3 [(0, .ref qt), (1, .int x1_3)] → W p l e rmX2_readTown s m av below meth c H locs 0 0 Q (F0 m 71 ls [])) (fun t_fault_24 t_at_25 t_sort_26 t_start_27 t_value_28 hM H locs hP hD hS ls hl => ?_) (fun j71_23 hj71_23 hM => ?_)
            · refine lv_iconst (v := 0) hx hb dX2_readTown_71 (by decide) ?_
              refine lv_istore_n (lv' := [(2, .int 0), (0, .ref qt), (1, .int x1_3)]) hx hb dX2_readTown_72 rfl hl (by decide) rfl (fun ls hl => ?_)
              refine mr_iinc (k := 2) (d := 1) hx hb (fun x1_29 => [(1, .int x1_29), (2, .int 0), (0, .ref qt)]) hM (by decide) dX2_readTown_73 hl rfl (by decide) (fun _ => rfl) (fun x1_29 hM ls hl => ?_)
              refine lv_goto (tgt := 34) hx hb dX2_readTown_76 (by decide) ?_
              exact ih x1_29 0 t_fault_24 t_at_25 t_sort_26 t_start_27 t_value_28 o_22.2.2.2.2.2.2.1 o_22.2.2.2.2.2.2.2.1 o_22.2.2.2.2.2.2.2.2.1 o_22.2.2.2.2.2.2.2.2.2.1 o_22.2.2.2.2.2.2.2.2.2.2.1 o_22.2.2.2.2.2.2.2.2.2.2.2.1 o_22.2.2.2.2.2.2.2.2.2.2.2.2.1 o_22.2.2.2.2.2.2.2.2.2.2.2.2.2.1 o_22.2.2.2.2.2.2.2.2.2.2.2.2.2.2.1 o_22.2.2.2.2.2.2.2.2.2.2.2.2.2.2.2.1 o_22.2.2.2.2.2.2.2.2.2.2.2.2.2.2.2.2.1 o_22.2.2.2.2.2.2.2.2.2.2.2.2.2.2.2.2.2 hM _ _ hP hD hS ls (lv_sub hl [2, 0, 1] rfl)
            · refine mr_if_eq (tgt := 71) hx hb hM dX2_readTown_57 (by decide) (fun hM => ?_) (fun hM => ?_)
              · exact hj71_23 o_22.2.1 o_22.2.2.1 o_22.2.2.2.1 o_22.2.2.2.2.1 o_22.2.2.2.2.2.1 hM _ _ hP hD hS ls (lv_sub hl [0, 1] rfl)
              · refine lv_aload_n hx hb dX2_readTown_60 rfl (lv_at hl 0 rfl) ?_
                obtain ⟨o_30, hc, hM⟩ := bind_so hM
                refine mr_callVi (As := []) (rest := []) (wr := []) ⟨hx, hb, hml, hown, hts⟩ (k_Rdr_readToken l D cI cB cZ cS cT qt qt_draft qt_draft_kind qt_draft_father qt_draft_comes qt_draft_wants qt_draft_cost qt_draft_coins qt_draft_debts qt_tape qt_tape_bytes o_22.2.1 o_22.2.2.1 o_22.2.2.2.1 o_22.2.2.2.2.1 o_22.2.2.2.2.2.1 o_22.2.2.2.2.2.2.1 o_22.2.2.2.2.2.2.2.1 o_22.2.2.2.2.2.2.2.2.1 o_22.2.2.2.2.2.2.2.2.2.1 o_22.2.2.2.2.2.2.2.2.2.2.1 o_22.2.2.2.2.2.2.2.2.2.2.2.1 o_22.2.2.2.2.2.2.2.2.2.2.2.2.1 o_22.2.2.2.2.2.2.2.2.2.2.2.2.2.1 o_22.2.2.2.2.2.2.2.2.2.2.2.2.2.2.1 o_22.2.2.2.2.2.2.2.2.2.2.2.2.2.2.2.1 o_22.2.2.2.2.2.2.2.2.2.2.2.2.2.2.2.2.1 o_22.2.2.2.2.2.2.2.2.2.2.2.2.2.2.2.2.2 t_tape_length t_tape_bytes  _ hc) (cwV 0 hts gX2_readTown_X2_readToken rfl rfl rfl (by decide +kernel) ⟨Nat.le_of_ble_eq_true rfl, Nat.le_of_ble_eq_true rfl⟩) hK hP hD hS hA [0, 1, 2, 3, 4, 5, 6, 7, 8, 9, 10] [] [0, 1, 2, 3, 4, 5, 6, 7, 8, 9, 10] (w_Rdr cI cB cZ cS cT qt qt_draft qt_draft_kind qt_draft_father qt_draft_comes qt_draft_wants qt_draft_cost qt_draft_coins qt_draft_debts qt_tape qt_tape_bytes o_30.2.1 o_30.2.2.1 o_30.2.2.2.1 o_30.2.2.2.2.1 o_30.2.2.2.2.2 o_22.2.2.2.2.2.2.1 o_22.2.2.2.2.2.2.2.1 o_22.2.2.2.2.2.2.2.2.1 o_22.2.2.2.2.2.2.2.2.2.1 o_22.2.2.2.2.2.2.2.2.2.2.1 o_22.2.2.2.2.2.2.2.2.2.2.2.1 o_22.2.2.2.2.2.2.2.2.2.2.2.2.1 o_22.2.2.2.2.2.2.2.2.2.2.2.2.2.1 o_22.2.2.2.2.2.2.2.2.2.2.2.2.2.2.1 o_22.2.2.2.2.2.2.2.2.2.2.2.2.2.2.2.1 o_22.2.2.2.2.2.2.2.2.2.2.2.2.2.2.2.2.1 o_22.2.2.2.2.2.2.2.2.2.2.2.2.2.2.2.2.2 t_tape_length t_tape_bytes) rfl rfl rfl rfl (by decide) rfl rfl 2 0 rfl rfl rfl rfl hl.1 rfl (Nat.le_of_ble_eq_true rfl) dX2_readTown_61 ⟨Nat.zero_le _, Nat.zero_le _⟩ (fun H locs hP hD hS => ?_)
                refine mr_if_eq (tgt := 71) hx hb hM dX2_readTown_64 (by decide) (fun hM => ?_) (fun hM => ?_)
                · exact hj71_23 o_30.2.1 o_30.2.2.1 o_30.2.2.2.1 o_30.2.2.2.2.1 o_30.2.2.2.2.2 hM _ _ hP hD hS ls (lv_sub hl [0, 1] rfl)
                · refine lv_iconst (v := 1) hx hb dX2_readTown_67 (by decide) ?_
                  refine lv_goto (tgt := 72) hx hb dX2_readTown_68 (by decide) ?_
                  refine lv_istore_n (lv' := [(2, .int 1), (0, .ref qt), (1, .int x1_3)]) hx hb dX2_readTown_72 rfl hl (by decide) rfl (fun ls hl => ?_)
                  refine mr_iinc (k := 2) (d := 1) hx hb (fun x1_31 => [(1, .int x1_31), (2, .int 1), (0, .ref qt)]) hM (by decide) dX2_readTown_73 hl rfl (by decide) (fun _ => rfl) (fun x1_31 hM ls hl => ?_)
                  refine lv_goto (tgt := 34) hx hb dX2_readTown_76 (by decide) ?_
                  exact ih x1_31 1 o_30.2.1 o_30.2.2.1 o_30.2.2.2.1 o_30.2.2.2.2.1 o_30.2.2.2.2.2 o_22.2.2.2.2.2.2.1 o_22.2.2.2.2.2.2.2.1 o_22.2.2.2.2.2.2.2.2.1 o_22.2.2.2.2.2.2.2.2.2.1 o_22.2.2.2.2.2.2.2.2.2.2.1 o_22.2.2.2.2.2.2.2.2.2.2.2.1 o_22.2.2.2.2.2.2.2.2.2.2.2.2.1 o_22.2.2.2.2.2.2.2.2.2.2.2.2.2.1 o_22.2.2.2.2.2.2.2.2.2.2.2.2.2.2.1 o_22.2.2.2.2.2.2.2.2.2.2.2.2.2.2.2.1 o_22.2.2.2.2.2.2.2.2.2.2.2.2.2.2.2.2.1 o_22.2.2.2.2.2.2.2.2.2.2.2.2.2.2.2.2.2 hM _ _ hP hD hS ls (lv_sub hl [2, 0, 1] rfl)
  refine hL34 _ (fun x1_32 x2_33 t_fault_34 t_at_35 t_sort_36 t_start_37 t_value_38 t_lawTold_39 t_countersTold_40 t_draft_people_41 t_draft_law_42 t_draft_counters_43 t_draft_kind_44 t_draft_father_45 t_draft_comes_46 t_draft_wants_47 t_draft_cost_48 t_draft_coins_49 t_draft_debts_50 hM H locs hP hD hS ls hl => ?_) _ 0 o_2.1 o_2.2.1 o_2.2.2.1 o_2.2.2.2.1 o_2.2.2.2.2.1 o_2.2.2.2.2.2 0 0 o_1.1 o_1.2.1 o_1.2.2.1 t_draft_kind t_draft_father t_draft_comes t_draft_wants t_draft_cost t_draft_coins o_1.2.2.2 hM _ _ hP hD hS ls (lv_sub hl [2, 1, 0] rfl)
  refine lv_iload_n hx hb dX2_readTown_79 rfl (lv_at hl 2 rfl) ?_
  refine mr_if_eq (tgt := 94) hx hb hM dX2_readTown_80 (by decide) (fun hM => ?_) (fun hM => ?_)
  · refine lv_bipush (v := (-10)) hx hb dX2_readTown_94 (by decide) ?_
    refine lv_aload_n hx hb dX2_readTown_96 rfl (lv_at hl 0 rfl) ?_
    refine va_get (D := D) (ci := 2) (v := .int t_start_37) (C := RX2) (T := TX2) (N := 9) hx hb hts inX2w hown hK hP 0 rfl rfl 5 (by decide) hf55 (fun _ h9 => h9) rfl dX2_readTown_97 ?_
    refine lv_isub hx hb dX2_readTown_100 ?_
    have hM := Option.some.inj hM
    subst hM
    exact mr_iret hx hb hr hlocks hQ hP hD hS rfl dX2_readTown_101
  · refine lv_aload_n hx hb dX2_readTown_83 rfl (lv_at hl 0 rfl) ?_
    obtain ⟨o_51, hc, hM⟩ := bind_so hM
    refine mr_callVi (As := []) (rest := []) (wr := []) ⟨hx, hb, hml, hown, hts⟩ (k_Rdr_allAreThere l D cI cB cZ cS cT qt qt_draft qt_draft_kind qt_draft_father qt_draft_comes qt_draft_wants qt_draft_cost qt_draft_coins qt_draft_debts qt_tape qt_tape_bytes t_fault_34 t_at_35 t_sort_36 t_start_37 t_value_38 t_lawTold_39 t_countersTold_40 t_draft_people_41 t_draft_law_42 t_draft_counters_43 t_draft_kind_44 t_draft_father_45 t_draft_comes_46 t_draft_wants_47 t_draft_cost_48 t_draft_coins_49 t_draft_debts_50 t_tape_length t_tape_bytes  _ hc) (cwV 0 hts gX2_readTown_X2_allAreThere rfl rfl rfl (by decide +kernel) ⟨Nat.le_of_ble_eq_true rfl, Nat.le_of_ble_eq_true rfl⟩) hK hP hD hS hA [0, 1, 2, 3, 4, 5, 6, 7, 8, 9, 10] [] [0, 1, 2, 3, 4, 5, 6, 7, 8, 9, 10] (w_Rdr cI cB cZ cS cT qt qt_draft qt_draft_kind qt_draft_father qt_draft_comes qt_draft_wants qt_draft_cost qt_draft_coins qt_draft_debts qt_tape qt_tape_bytes o_51.2 t_at_35 t_sort_36 t_start_37 t_value_38 t_lawTold_39 t_countersTold_40 t_draft_people_41 t_draft_law_42 t_draft_counters_43 t_draft_kind_44 t_draft_father_45 t_draft_comes_46 t_draft_wants_47 t_draft_cost_48 t_draft_coins_49 t_draft_debts_50 t_tape_length t_tape_bytes) rfl rfl rfl rfl (by decide) rfl rfl 2 0 rfl rfl rfl rfl hl.1 rfl (Nat.le_of_ble_eq_true rfl) dX2_readTown_84 ⟨Nat.zero_le _, Nat.zero_le _⟩ (fun H locs hP hD hS => ?_)
    refine mr_if_eq (tgt := 94) hx hb hM dX2_readTown_87 (by decide) (fun hM => ?_) (fun hM => ?_)
    · refine lv_bipush (v := (-10)) hx hb dX2_readTown_94 (by decide) ?_
      refine lv_aload_n hx hb dX2_readTown_96 rfl (lv_at hl 0 rfl) ?_
      refine va_get (D := D) (ci := 2) (v := .int t_start_37) (C := RX2) (T := TX2) (N := 9) hx hb hts inX2w hown hK hP 0 rfl rfl 5 (by decide) hf55 (fun _ h9 => h9) rfl dX2_readTown_97 ?_
      refine lv_isub hx hb dX2_readTown_100 ?_
      have hM := Option.some.inj hM
      subst hM
      exact mr_iret hx hb hr hlocks hQ hP hD hS rfl dX2_readTown_101
    · refine lv_iload_n hx hb dX2_readTown_90 rfl (lv_at hl 1 rfl) ?_
      refine lv_goto (tgt := 101) hx hb dX2_readTown_91 (by decide) ?_
      have hM := Option.some.inj hM
      subst hM
      exact mr_iret hx hb hr hlocks hQ hP hD hS rfl dX2_readTown_101
