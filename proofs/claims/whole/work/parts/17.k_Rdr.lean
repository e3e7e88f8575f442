abbrev rmX2_isFaulty : Room := { frames := 0, cells := 0, slots := 0, locals := 0 }
set_option maxHeartbeats 40000000 in
set_option maxRecDepth 100000 in
theorem k_Rdr_isFaulty (l : Launch) (D : va_G) (cI cB cZ cS cT : ClassId) (qt qt_draft qt_draft_kind qt_draft_father qt_draft_comes qt_draft_wants qt_draft_cost qt_draft_coins qt_draft_debts qt_tape qt_tape_bytes : Nat) (t_fault t_at t_sort t_start t_value t_lawTold t_countersTold t_draft_people t_draft_law t_draft_counters : Int32) (t_draft_kind t_draft_father t_draft_comes t_draft_wants t_draft_cost t_draft_coins t_draft_debts : Nat → Int32) (t_tape_length : Int32) (t_tape_bytes : Nat → Int32) (p1 : Int32) (o : Int32 × Int32) (hM : Rdr_isFaulty p1 = some o) : mtI l yX2_isFaulty wsX2_isFaulty rmX2_isFaulty D (tys5 cI cB cZ cS cT) [.ref qt, .int p1] (w_Rdr cI cB cZ cS cT qt qt_draft qt_draft_kind qt_draft_father qt_draft_comes qt_draft_wants qt_draft_cost qt_draft_coins qt_draft_debts qt_tape qt_tape_bytes t_fault t_at t_sort t_start t_value t_lawTold t_countersTold t_draft_people t_draft_law t_draft_counters t_draft_kind t_draft_father t_draft_comes t_draft_wants t_draft_cost t_draft_coins t_draft_debts t_tape_length t_tape_bytes) (w_Rdr cI cB cZ cS cT qt qt_draft qt_draft_kind qt_draft_father qt_draft_comes qt_draft_wants qt_draft_cost qt_draft_coins qt_draft_debts qt_tape qt_tape_bytes o.2 t_at t_sort t_start t_value t_lawTold t_countersTold t_draft_people t_draft_law t_draft_counters t_draft_kind t_draft_father t_draft_comes t_draft_wants t_draft_cost t_draft_coins t_draft_debts t_tape_length t_tape_bytes) o.1 := by
  refine mtI.of (cc := cX2_isFaulty) (maxL := 2) (ret := (some .boolean)) (by decide) rfl (Nat.le_of_ble_eq_true rfl) ?_
  intro p e s m below meth c A Q av hav hQ hx hb hr hml hown hts hlocks hK hP hD hA hS ls hl
  have hown : s.vm.findClass RX2 = some m.cls := hown
  have hl : lv_has ls 2 [(0, .ref qt), (1, .int p1)] := hl
  unfold Rdr_isFaulty at hM
  have inX2w : ∀ w ∈ u_ws RX2 TX2 9, w ∈ wsX2_isFaulty := by decide +kernel
  have hf25 := hts (.fieldLink RX2 25 "LetsIn$Reader" "fault" "I") (by decide +kernel)
  refine lv_aload_n hx hb dX2_isFaulty_0 rfl (lv_at hl 0 rfl) ?_
  refine lv_iload_n hx hb dX2_isFaulty_1 rfl (lv_at hl 1 rfl) ?_
  refine mr_put (D := D) (ci := 2) (v := .int p1) (ty := .int) (C := RX2) (T := TX2) (N := 9) hx hb hts inX2w tyX2 tyX2_ok nmX2 hown hK hP hD hS 0 rfl rfl 2 (by decide) hf25 (fun _ h9 => h9) rfl (by decide +kernel) rfl rfl (Nat.le_of_ble_eq_true rfl) dX2_isFaulty_2 (w_Rdr cI cB cZ cS cT qt qt_draft qt_draft_kind qt_draft_father qt_draft_comes qt_draft_wants qt_draft_cost qt_draft_coins qt_draft_debts qt_tape qt_tape_bytes p1 t_at t_sort t_start t_value t_lawTold t_countersTold t_draft_people t_draft_law t_draft_counters t_draft_kind t_draft_father t_draft_comes t_draft_wants t_draft_cost t_draft_coins t_draft_debts t_tape_length t_tape_bytes) rfl (fun H locs hP hD hS => ?_)
  refine lv_iconst (v := 0) hx hb dX2_isFaulty_5 (by decide) ?_
  have hM := Option.some.inj hM
  subst hM
  exact mr_zret hx hb hr (by decide) hlocks hQ hP hD hS rfl dX2_isFaulty_6

abbrev rmX2_readToken : Room := { frames := 1, cells := 0, slots := 0, locals := 21 }
set_option maxHeartbeats 40000000 in
set_option maxRecDepth 100000 in
theorem k_Rdr_readToken (l : Launch) (D : va_G) (cI cB cZ cS cT : ClassId) (qt qt_draft qt_draft_kind qt_draft_father qt_draft_comes qt_draft_wants qt_draft_cost qt_draft_coins qt_draft_debts qt_tape qt_tape_bytes : Nat) (t_fault t_at t_sort t_start t_value t_lawTold t_countersTold t_draft_people t_draft_law t_draft_counters : Int32) (t_draft_kind t_draft_father t_draft_comes t_draft_wants t_draft_cost t_draft_coins t_draft_debts : Nat → Int32) (t_tape_length : Int32) (t_tape_bytes : Nat → Int32)  (o : Int32 × Int32 × Int32 × Int32 × Int32 × Int32) (hM : Rdr_readToken t_fault t_at t_tape_length t_tape_bytes = some o) : mtI l yX2_readToken wsX2_readToken rmX2_readToken D (tys5 cI cB cZ cS cT) [.ref qt] (w_Rdr cI cB cZ cS cT qt qt_draft qt_draft_kind qt_draft_father qt_draft_comes qt_draft_wants qt_draft_cost qt_draft_coins qt_draft_debts qt_tape qt_tape_bytes t_fault t_at t_sort t_start t_value t_lawTold t_countersTold t_draft_people t_draft_law t_draft_counters t_draft_kind t_draft_father t_draft_comes t_draft_wants t_draft_cost t_draft_coins t_draft_debts t_tape_length t_tape_bytes) (w_Rdr cI cB cZ cS cT qt qt_draft qt_draft_kind qt_draft_father qt_draft_comes qt_draft_wants qt_draft_cost qt_draft_coins qt_draft_debts qt_tape qt_tape_bytes o.2.1 o.2.2.1 o.2.2.2.1 o.2.2.2.2.1 o.2.2.2.2.2 t_lawTold t_countersTold t_draft_people t_draft_law t_draft_counters t_draft_kind t_draft_father t_draft_comes t_draft_wants t_draft_cost t_draft_coins t_draft_debts t_tape_length t_tape_bytes) o.1 := by
  refine mtI.of (cc := cX2_readToken) (maxL := 1) (ret := (some .boolean)) (by decide) rfl (Nat.le_of_ble_eq_true rfl) ?_
  intro p e s m below meth c A Q av hav hQ hx hb hr hml hown hts hlocks hK hP hD hA hS ls hl
  have hown : s.vm.findClass RX2 = some m.cls := hown
  have hl : lv_has ls 1 [(0, .ref qt)] := hl
  unfold Rdr_readToken at hM
  have inX2w : ∀ w ∈ u_ws RX2 TX2 9, w ∈ wsX2_readToken := by decide +kernel
  have inX6w : ∀ w ∈ u_ws RX6 TX6 2, w ∈ wsX2_readToken := by decide +kernel
  have hf29 := hts (.fieldLink RX2 29 "LetsIn$Reader" "at" "I") (by decide +kernel)
  have hf12 := hts (.fieldLink RX2 12 "LetsIn$Reader" "tape" "LLetsIn$Tape;") (by decide +kernel)
  have hf153 := hts (.fieldLink RX2 153 "LetsIn$Tape" "length" "I") (by decide +kernel)
  have hf55 := hts (.fieldLink RX2 55 "LetsIn$Reader" "start" "I") (by decide +kernel)
  have hf90 := hts (.fieldLink RX2 90 "LetsIn$Reader" "value" "I") (by decide +kernel)
  have hf46 := hts (.fieldLink RX2 46 "LetsIn$Reader" "sort" "I") (by decide +kernel)
  have hf165 := hts (.fieldLink RX2 165 "LetsIn$Tape" "bytes" "[B") (by decide +kernel)
  have hL0 : ∀ (K41 : Int32 → Option (Int32 × Int32 × Int32 × Int32 × Int32 × Int32)), (∀ (t_at_4 : Int32), K41 t_at_4 = some o → ∀ (H : Heap) (locs : List Loc), va_P D vwCl (w_Rdr cI cB cZ cS cT qt qt_draft qt_draft_kind qt_draft_father qt_draft_comes qt_draft_wants qt_draft_cost qt_draft_coins qt_draft_debts qt_tape qt_tape_bytes t_fault t_at_4 t_sort t_start t_value t_lawTold t_countersTold t_draft_people t_draft_law t_draft_counters t_draft_kind t_draft_father t_draft_comes t_draft_wants t_draft_cost t_draft_coins t_draft_debts t_tape_length t_tape_bytes) H → va_D A (w_Rdr cI cB cZ cS cT qt qt_draft qt_draft_kind qt_draft_father qt_draft_comes qt_draft_wants qt_draft_cost qt_draft_coins qt_draft_debts qt_tape qt_tape_bytes t_fault t_at_4 t_sort t_start t_value t_lawTold t_countersTold t_draft_people t_draft_law t_draft_counters t_draft_kind t_draft_father t_draft_comes t_draft_wants t_draft_cost t_draft_coins t_draft_debts t_tape_length t_tape_bytes) → va_S A s.heap H locs → ∀ ls : Array Slot, lv_has ls 1 [(0, .ref qt)] → W p l e rmX2_readToken s m av below meth c H locs 0 0 Q (F0 m 41 ls [])) → ∀ (n : Nat) (t_at_1 : Int32), Rdr_readToken_L0 t_tape_length t_tape_bytes K41 n t_at_1 = some o → ∀ (H : Heap) (locs : List Loc), va_P D vwCl (w_Rdr cI cB cZ cS cT qt qt_draft qt_draft_kind qt_draft_father qt_draft_comes qt_draft_wants qt_draft_cost qt_draft_coins qt_draft_debts qt_tape qt_tape_bytes t_fault t_at_1 t_sort t_start t_value t_lawTold t_countersTold t_draft_people t_draft_law t_draft_counters t_draft_kind t_draft_father t_draft_comes t_draft_wants t_draft_cost t_draft_coins t_draft_debts t_tape_length t_tape_bytes) H → va_D A (w_Rdr cI cB cZ cS cT qt qt_draft qt_draft_kind qt_draft_father qt_draft_comes qt_draft_wants qt_draft_cost qt_draft_coins qt_draft_debts qt_tape qt_tape_bytes t_fault t_at_1 t_sort t_start t_value t_lawTold t_countersTold t_draft_people t_draft_law t_draft_counters t_draft_kind t_draft_father t_draft_comes t_draft_wants t_draft_cost t_draft_coins t_draft_debts t_tape_length t_tape_bytes) → va_S A s.heap H locs → ∀ ls : Array Slot, lv_has ls 1 [(0, .ref qt)] → W p l e rmX2_readToken s m av below meth c H locs 0 0 Q (F0 m 0 ls []) := by
    intro K41 hK41 n
    induction n with
    | zero =>
      intro t_at_1 hM
      rw [Rdr_readToken_L0] at hM
      cases hM
    | succ n ih =>
      intro t_at_1 hM H locs hP hD hS ls hl
      rw [Rdr_readToken_L0] at hM
      refine lv_aload_n hx hb dX2_readToken_0 rfl (lv_at hl 0 rfl) ?_
      refine va_get (D := D) (ci := 2) (v := .int t_at_1) (C := RX2) (T := TX2) (N := 9) hx hb hts inX2w hown hK hP 0 rfl rfl 3 (by decide) hf29 (fun _ h9 => h9) rfl dX2_readToken_1 ?_
      refine lv_aload_n hx hb dX2_readToken_4 rfl (lv_at hl 0 rfl) ?_
      refine va_get (D := D) (ci := 2) (v := .ref qt_tape) (C := RX2) (T := TX2) (N := 9) hx hb hts inX2w hown hK hP 0 rfl rfl 0 (by decide) hf12 (fun _ h9 => h9) rfl dX2_readToken_5 ?_
      refine va_get (D := D) (ci := 6) (v := .int t_tape_length) (C := RX6) (T := TX6) (N := 2) hx hb hts inX6w hown hK hP 9 rfl rfl 1 (by decide) hf153 (fun _ h9 => h9) rfl dX2_readToken_8 ?_
      refine mr_icmp_ge (tgt := 41) hx hb hM dX2_readToken_11 (by decide) (fun hM => ?_) (fun hM => ?_)
      · exact hK41 t_at_1 hM _ _ hP hD hS ls (lv_sub hl [0] rfl)
      · refine lv_aload_n hx hb dX2_readToken_14 rfl (lv_at hl 0 rfl) ?_
        refine va_get (D := D) (ci := 2) (v := .ref qt_tape) (C := RX2) (T := TX2) (N := 9) hx hb hts inX2w hown hK hP 0 rfl rfl 0 (by decide) hf12 (fun _ h9 => h9) rfl dX2_readToken_15 ?_
        refine lv_aload_n hx hb dX2_readToken_18 rfl (lv_at hl 0 rfl) ?_
        refine va_get (D := D) (ci := 2) (v := .int t_at_1) (C := RX2) (T := TX2) (N := 9) hx hb hts inX2w hown hK hP 0 rfl rfl 3 (by decide) hf29 (fun _ h9 => h9) rfl dX2_readToken_19 ?_
        obtain ⟨o_2, hc, hM⟩ := bind_so hM
        refine mr_callVi (As := [.int t_at_1]) (rest := []) (wr := [(qt, .inr (2, [.ref qt_tape, .ref qt_draft, .int t_fault, .int t_at_1, .int t_sort, .int t_start, .int t_value, .int t_lawTold, .int t_countersTold])), (qt_draft, .inr (7, [.int t_draft_people, .int t_draft_law, .int t_draft_counters, .ref qt_draft_kind, .ref qt_draft_father, .ref qt_draft_comes, .ref qt_draft_wants, .ref qt_draft_cost, .ref qt_draft_coins, .ref qt_draft_debts])), (qt_draft_kind, .inl (cI, 7, .inl t_draft_kind)), (qt_draft_father, .inl (cI, 7, .inl t_draft_father)), (qt_draft_comes, .inl (cI, 7, .inl t_draft_comes)), (qt_draft_wants, .inl (cI, 7, .inl t_draft_wants)), (qt_draft_cost, .inl (cI, 7, .inl t_draft_cost)), (qt_draft_coins, .inl (cI, 7, .inl t_draft_coins)), (qt_draft_debts, .inl (cI, 49, .inl t_draft_debts))]) ⟨hx, hb, hml, hown, hts⟩ (k_Tap_isBlank l D cI cB cZ cS cT qt_tape qt_tape_bytes t_tape_length t_tape_bytes t_at_1 _ hc) (cwV 1 hts gX2_readToken_X6_isBlank rfl rfl rfl (by decide +kernel) ⟨Nat.le_of_ble_eq_true rfl, Nat.le_of_ble_eq_true rfl⟩) hK hP hD hS hA [9, 10] [0, 1, 2, 3, 4, 5, 6, 7, 8] [0, 1, 2, 3, 4, 5, 6, 7, 8, 9, 10] (w_Rdr cI cB cZ cS cT qt qt_draft qt_draft_kind qt_draft_father qt_draft_comes qt_draft_wants qt_draft_cost qt_draft_coins qt_draft_debts qt_tape qt_tape_bytes t_fault t_at_1 t_sort t_start t_value t_lawTold t_countersTold t_draft_people t_draft_law t_draft_counters t_draft_kind t_draft_father t_draft_comes t_draft_wants t_draft_cost t_draft_coins t_draft_debts t_tape_length t_tape_bytes) rfl rfl rfl rfl (by decide) rfl rfl 6 0 rfl rfl rfl rfl hl.1 rfl (Nat.le_of_ble_eq_true rfl) dX2_readToken_22 ⟨Nat.zero_le _, Nat.zero_le _⟩ (fun H locs hP hD hS => ?_)
        refine mr_if_eq (tgt := 41) hx hb hM dX2_readToken_25 (by decide) (fun hM => ?_) (fun hM => ?_)
        · exact hK41 t_at_1 hM _ _ hP hD hS ls (lv_sub hl [0] rfl)
        · refine lv_aload_n hx hb dX2_readToken_28 rfl (lv_at hl 0 rfl) ?_
          refine lv_dup hx hb dX2_readToken_29 rfl ?_
          refine va_get (D := D) (ci := 2) (v := .int t_at_1) (C := RX2) (T := TX2) (N := 9) hx hb hts inX2w hown hK hP 0 rfl rfl 3 (by decide) hf29 (fun _ h9 => h9) rfl dX2_readToken_30 ?_
          refine lv_iconst (v := 1) hx hb dX2_readToken_33 (by decide) ?_
          refine lv_iadd hx hb dX2_readToken_34 ?_
          refine mr_nmI hM (fun t_at_3 hM => ?_)
          refine mr_put (D := D) (ci := 2) (v := .int t_at_3) (ty := .int) (C := RX2) (T := TX2) (N := 9) hx hb hts inX2w tyX2 tyX2_ok nmX2 hown hK hP hD hS 0 rfl rfl 3 (by decide) hf29 (fun _ h9 => h9) rfl (by decide +kernel) rfl rfl (Nat.le_of_ble_eq_true rfl) dX2_readToken_35 (w_Rdr cI cB cZ cS cT qt qt_draft qt_draft_kind qt_draft_father qt_draft_comes qt_draft_wants qt_draft_cost qt_draft_coins qt_draft_debts qt_tape qt_tape_bytes t_fault t_at_3 t_sort t_start t_value t_lawTold t_countersTold t_draft_people t_draft_law t_draft_counters t_draft_kind t_draft_father t_draft_comes t_draft_wants t_draft_cost t_draft_coins t_draft_debts t_tape_length t_tape_bytes) rfl (fun H locs hP hD hS => ?_)
          refine lv_goto (tgt := 0) hx hb dX2_readToken_38 (by decide) ?_
          exact ih t_at_3 hM _ _ hP hD hS ls (lv_sub hl [0] rfl)
  refine hL0 _ (fun t_at_4 hM H locs hP hD hS ls hl => ?_) _ t_at hM _ _ hP hD hS ls (lv_sub hl [0] rfl)
  refine lv_aload_n hx hb dX2_readToken_41 rfl (lv_at hl 0 rfl) ?_
  refine lv_aload_n hx hb dX2_readToken_42 rfl (lv_at hl 0 rfl) ?_
  refine va_get (D := D) (ci := 2) (v := .int t_at_4) (C := RX2) (T := TX2) (N := 9) hx hb hts inX2w hown hK hP 0 rfl rfl 3 (by decide) hf29 (fun _ h9 => h9) rfl dX2_readToken_43 ?_
  refine mr_put (D := D) (ci := 2) (v := .int t_at_4) (ty := .int) (C := RX2) (T := TX2) (N := 9) hx hb hts inX2w tyX2 tyX2_ok nmX2 hown hK hP hD hS 0 rfl rfl 5 (by decide) hf55 (fun _ h9 => h9) rfl (by decide +kernel) rfl rfl (Nat.le_of_ble_eq_true rfl) dX2_readToken_46 (w_Rdr cI cB cZ cS cT qt qt_draft qt_draft_kind qt_draft_father qt_draft_comes qt_draft_wants qt_draft_cost qt_draft_coins qt_draft_debts qt_tape qt_tape_bytes t_fault t_at_4 t_sort t_at_4 t_value t_lawTold t_countersTold t_draft_people t_draft_law t_draft_counters t_draft_kind t_draft_father t_draft_comes t_draft_wants t_draft_cost t_draft_coins t_draft_debts t_tape_length t_tape_bytes) rfl (fun H locs hP hD hS => ?_)
  refine lv_aload_n hx hb dX2_readToken_49 rfl (lv_at hl 0 rfl) ?_
  refine lv_iconst (v := 0) hx hb dX2_readToken_50 (by decide) ?_
  refine mr_put (D := D) (ci := 2) (v := .int 0) (ty := .int) (C := RX2) (T := TX2) (N := 9) hx hb hts inX2w tyX2 tyX2_ok nmX2 hown hK hP hD hS 0 rfl rfl 6 (by decide) hf90 (fun _ h9 => h9) rfl (by decide +kernel) rfl rfl (Nat.le_of_ble_eq_true rfl) dX2_readToken_51 (w_Rdr cI cB cZ cS cT qt qt_draft qt_draft_kind qt_draft_father qt_draft_comes qt_draft_wants qt_draft_cost qt_draft_coins qt_draft_debts qt_tape qt_tape_bytes t_fault t_at_4 t_sort t_at_4 0 t_lawTold t_countersTold t_draft_people t_draft_law t_draft_counters t_draft_kind t_draft_father t_draft_comes t_draft_wants t_draft_cost t_draft_coins t_draft_debts t_tape_length t_tape_bytes) rfl (fun H locs hP hD hS => ?_)
  refine lv_aload_n hx hb dX2_readToken_54 rfl (lv_at hl 0 rfl) ?_
  refine va_get (D := D) (ci := 2) (v := .int t_at_4) (C := RX2) (T := TX2) (N := 9) hx hb hts inX2w hown hK hP 0 rfl rfl 3 (by decide) hf29 (fun _ h9 => h9) rfl dX2_readToken_55 ?_
  refine lv_aload_n hx hb dX2_readToken_58 rfl (lv_at hl 0 rfl) ?_
  refine va_get (D := D) (ci := 2) (v := .ref qt_tape) (C := RX2) (T := TX2) (N := 9) hx hb hts inX2w hown hK hP 0 rfl rfl 0 (by decide) hf12 (fun _ h9 => h9) rfl dX2_readToken_59 ?_
  refine va_get (D := D) (ci := 6) (v := .int t_tape_length) (C := RX6) (T := TX6) (N := 2) hx hb hts inX6w hown hK hP 9 rfl rfl 1 (by decide) hf153 (fun _ h9 => h9) rfl dX2_readToken_62 ?_
  refine mr_icmp_lt (tgt := 76) hx hb hM dX2_readToken_65 (by decide) (fun hM => ?_) (fun hM => ?_)
  · refine lv_aload_n hx hb dX2_readToken_76 rfl (lv_at hl 0 rfl) ?_
    refine va_get (D := D) (ci := 2) (v := .ref qt_tape) (C := RX2) (T := TX2) (N := 9) hx hb hts inX2w hown hK hP 0 rfl rfl 0 (by decide) hf12 (fun _ h9 => h9) rfl dX2_readToken_77 ?_
    refine lv_aload_n hx hb dX2_readToken_80 rfl (lv_at hl 0 rfl) ?_
    refine va_get (D := D) (ci := 2) (v := .int t_at_4) (C := RX2) (T := TX2) (N := 9) hx hb hts inX2w hown hK hP 0 rfl rfl 3 (by decide) hf29 (fun _ h9 => h9) rfl dX2_readToken_81 ?_
    obtain ⟨o_5, hc, hM⟩ := bind_so hM
    refine mr_callVi (As := [.int t_at_4]) (rest := []) (wr := [(qt, .inr (2, [.ref qt_tape, .ref qt_draft, .int t_fault, .int t_at_4, .int t_sort, .int t_at_4, .int 0, .int t_lawTold, .int t_countersTold])), (qt_draft, .inr (7, [.int t_draft_people, .int t_draft_law, .int t_draft_counters, .ref qt_draft_kind, .ref qt_draft_father, .ref qt_draft_comes, .ref qt_draft_wants, .ref qt_draft_cost, .ref qt_draft_coins, .ref qt_draft_debts])), (qt_draft_kind, .inl (cI, 7, .inl t_draft_kind)), (qt_draft_father, .inl (cI, 7, .inl t_draft_father)), (qt_draft_comes, .inl (cI, 7, .inl t_draft_comes)), (qt_draft_wants, .inl (cI, 7, .inl t_draft_wants)), (qt_draft_cost, .inl (cI, 7, .inl t_draft_cost)), (qt_draft_coins, .inl (cI, 7, .inl t_draft_coins)), (qt_draft_debts, .inl (cI, 49, .inl t_draft_debts))]) ⟨hx, hb, hml, hown, hts⟩ (k_Tap_isLetter l D cI cB cZ cS cT qt_tape qt_tape_bytes t_tape_length t_tape_bytes t_at_4 _ hc) (cwV 1 hts gX2_readToken_X6_isLetter rfl rfl rfl (by decide +kernel) ⟨Nat.le_of_ble_eq_true rfl, Nat.le_of_ble_eq_true rfl⟩) hK hP hD hS hA [9, 10] [0, 1, 2, 3, 4, 5, 6, 7, 8] [0, 1, 2, 3, 4, 5, 6, 7, 8, 9, 10] (w_Rdr cI cB cZ cS cT qt qt_draft qt_draft_kind qt_draft_father qt_draft_comes qt_draft_wants qt_draft_cost qt_draft_coins qt_draft_debts qt_tape qt_tape_bytes t_fault t_at_4 t_sort t_at_4 0 t_lawTold t_countersTold t_draft_people t_draft_law t_draft_counters t_draft_kind t_draft_father t_draft_comes t_draft_wants t_draft_cost t_draft_coins t_draft_debts t_tape_length t_tape_bytes) rfl rfl rfl rfl (by decide) rfl rfl 6 0 rfl rfl rfl rfl hl.1 rfl (Nat.le_of_ble_eq_true rfl) dX2_readToken_84 ⟨Nat.zero_le _, Nat.zero_le _⟩ (fun H locs hP hD hS => ?_)
    refine mr_if_eq (tgt := 136) hx hb hM dX2_readToken_87 (by decide) (fun hM => ?_) (fun hM => ?_)
    · refine lv_aload_n hx hb dX2_readToken_136 rfl (lv_at hl 0 rfl) ?_
      refine va_get (D := D) (ci := 2) (v := .ref qt_tape) (C := RX2) (T := TX2) (N := 9) hx hb hts inX2w hown hK hP 0 rfl rfl 0 (by decide) hf12 (fun _ h9 => h9) rfl dX2_readToken_137 ?_
      refine lv_aload_n hx hb dX2_readToken_140 rfl (lv_at hl 0 rfl) ?_
      refine va_get (D := D) (ci := 2) (v := .int t_at_4) (C := RX2) (T := TX2) (N := 9) hx hb hts inX2w hown hK hP 0 rfl rfl 3 (by decide) hf29 (fun _ h9 => h9) rfl dX2_readToken_141 ?_
      obtain ⟨o_6, hc, hM⟩ := bind_so hM
      refine mr_callVi (As := [.int t_at_4]) (rest := []) (wr := [(qt, .inr (2, [.ref qt_tape, .ref qt_draft, .int t_fault, .int t_at_4, .int t_sort, .int t_at_4, .int 0, .int t_lawTold, .int t_countersTold])), (qt_draft, .inr (7, [.int t_draft_people, .int t_draft_law, .int t_draft_counters, .ref qt_draft_kind, .ref qt_draft_father, .ref qt_draft_comes, .ref qt_draft_wants, .ref qt_draft_cost, .ref qt_draft_coins, .ref qt_draft_debts])), (qt_draft_kind, .inl (cI, 7, .inl t_draft_kind)), (qt_draft_father, .inl (cI, 7, .inl t_draft_father)), (qt_draft_comes, .inl (cI, 7, .inl t_draft_comes)), (qt_draft_wants, .inl (cI, 7, .inl t_draft_wants)), (qt_draft_cost, .inl (cI, 7, .inl t_draft_cost)), (qt_draft_coins, .inl (cI, 7, .inl t_draft_coins)), (qt_draft_debts, .inl (cI, 49, .inl t_draft_debts))]) ⟨hx, hb, hml, hown, hts⟩ (k_Tap_isFigure l D cI cB cZ cS cT qt_tape qt_tape_bytes t_tape_length t_tape_bytes t_at_4 _ hc) (cwV 1 hts gX2_readToken_X6_isFigure rfl rfl rfl (by decide +kernel) ⟨Nat.le_of_ble_eq_true rfl, Nat.le_of_ble_eq_true rfl⟩) hK hP hD hS hA [9, 10] [0, 1, 2, 3, 4, 5, 6, 7, 8] [0, 1, 2, 3, 4, 5, 6, 7, 8, 9, 10] (w_Rdr cI cB cZ cS cT qt qt_draft qt_draft_kind qt_draft_father qt_draft_comes qt_draft_wants qt_draft_cost qt_draft_coins qt_draft_debts qt_tape qt_tape_bytes t_fault t_at_4 t_sort t_at_4 0 t_lawTold t_countersTold t_draft_people t_draft_law t_draft_counters t_draft_kind t_draft_father t_draft_comes t_draft_wants t_draft_cost t_draft_coins t_draft_debts t_tape_length t_tape_bytes) rfl rfl rfl rfl (by decide) rfl rfl 6 0 rfl rfl rfl rfl hl.1 rfl (Nat.le_of_ble_eq_true rfl) dX2_readToken_144 ⟨Nat.zero_le _, Nat.zero_le _⟩ (fun H locs hP hD hS => ?_)
      refine mr_if_eq (tgt := 253) hx hb hM dX2_readToken_147 (by decide) (fun hM => ?_) (fun hM => ?_)
      · refine lv_aload_n hx hb dX2_readToken_253 rfl (lv_at hl 0 rfl) ?_
        refine lv_iconst (v := 3) hx hb dX2_readToken_254 (by decide) ?_
        refine mr_put (D := D) (ci := 2) (v := .int 3) (ty := .int) (C := RX2) (T := TX2) (N := 9) hx hb hts inX2w tyX2 tyX2_ok nmX2 hown hK hP hD hS 0 rfl rfl 4 (by decide) hf46 (fun _ h9 => h9) rfl (by decide +kernel) rfl rfl (Nat.le_of_ble_eq_true rfl) dX2_readToken_255 (w_Rdr cI cB cZ cS cT qt qt_draft qt_draft_kind qt_draft_father qt_draft_comes qt_draft_wants qt_draft_cost qt_draft_coins qt_draft_debts qt_tape qt_tape_bytes t_fault t_at_4 3 t_at_4 0 t_lawTold t_countersTold t_draft_people t_draft_law t_draft_counters t_draft_kind t_draft_father t_draft_comes t_draft_wants t_draft_cost t_draft_coins t_draft_debts t_tape_length t_tape_bytes) rfl (fun H locs hP hD hS => ?_)
        refine lv_aload_n hx hb dX2_readToken_258 rfl (lv_at hl 0 rfl) ?_
        refine lv_dup hx hb dX2_readToken_259 rfl ?_
        refine va_get (D := D) (ci := 2) (v := .int t_at_4) (C := RX2) (T := TX2) (N := 9) hx hb hts inX2w hown hK hP 0 rfl rfl 3 (by decide) hf29 (fun _ h9 => h9) rfl dX2_readToken_260 ?_
        refine lv_iconst (v := 1) hx hb dX2_readToken_263 (by decide) ?_
        refine lv_iadd hx hb dX2_readToken_264 ?_
        refine mr_nmI hM (fun t_at_7 hM => ?_)
        refine mr_put (D := D) (ci := 2) (v := .int t_at_7) (ty := .int) (C := RX2) (T := TX2) (N := 9) hx hb hts inX2w tyX2 tyX2_ok nmX2 hown hK hP hD hS 0 rfl rfl 3 (by decide) hf29 (fun _ h9 => h9) rfl (by decide +kernel) rfl rfl (Nat.le_of_ble_eq_true rfl) dX2_readToken_265 (w_Rdr cI cB cZ cS cT qt qt_draft qt_draft_kind qt_draft_father qt_draft_comes qt_draft_wants qt_draft_cost qt_draft_coins qt_draft_debts qt_tape qt_tape_bytes t_fault t_at_7 3 t_at_4 0 t_lawTold t_countersTold t_draft_people t_draft_law t_draft_counters t_draft_kind t_draft_father t_draft_comes t_draft_wants t_draft_cost t_draft_coins t_draft_debts t_tape_length t_tape_bytes) rfl (fun H locs hP hD hS => ?_)
        refine lv_aload_n hx hb dX2_readToken_268 rfl (lv_at hl 0 rfl) ?_
        refine va_get (D := D) (ci := 2) (v := .ref qt_tape) (C := RX2) (T := TX2) (N := 9) hx hb hts inX2w hown hK hP 0 rfl rfl 0 (by decide) hf12 (fun _ h9 => h9) rfl dX2_readToken_269 ?_
        refine va_get (D := D) (ci := 6) (v := .ref qt_tape_bytes) (C := RX6) (T := TX6) (N := 2) hx hb hts inX6w hown hK hP 9 rfl rfl 0 (by decide) hf165 (fun _ h9 => h9) rfl dX2_readToken_272 ?_
        refine lv_aload_n hx hb dX2_readToken_275 rfl (lv_at hl 0 rfl) ?_
        refine va_get (D := D) (ci := 2) (v := .int t_at_4) (C := RX2) (T := TX2) (N := 9) hx hb hts inX2w hown hK hP 0 rfl rfl 5 (by decide) hf55 (fun _ h9 => h9) rfl dX2_readToken_276 ?_
        refine mr_bald hx hb hK hP 10 1 rfl rfl hM dX2_readToken_279 (fun v_8 hM => ?_)
        refine lv_bipush (v := 59) hx hb dX2_readToken_280 (by decide) ?_
        refine mr_icmp_eq (tgt := 293) hx hb hM dX2_readToken_282 (by decide) (fun hM => ?_) (fun hM => ?_)
        · refine lv_iconst (v := 1) hx hb dX2_readToken_293 (by decide) ?_
          refine lv_goto (tgt := 298) hx hb dX2_readToken_294 (by decide) ?_
          have hM := Option.some.inj hM
          subst hM
          exact mr_zret hx hb hr (by decide) hlocks hQ hP hD hS rfl dX2_readToken_298
        · refine lv_aload_n hx hb dX2_readToken_285 rfl (lv_at hl 0 rfl) ?_
          refine lv_iconst (v := 1) hx hb dX2_readToken_286 (by decide) ?_
          obtain ⟨o_9, hc, hM⟩ := bind_so hM
          refine mr_callVi (As := [.int 1]) (rest := []) (wr := []) ⟨hx, hb, hml, hown, hts⟩ (k_Rdr_isFaulty l D cI cB cZ cS cT qt qt_draft qt_draft_kind qt_draft_father qt_draft_comes qt_draft_wants qt_draft_cost qt_draft_coins qt_draft_debts qt_tape qt_tape_bytes t_fault t_at_7 3 t_at_4 0 t_lawTold t_countersTold t_draft_people t_draft_law t_draft_counters t_draft_kind t_draft_father t_draft_comes t_draft_wants t_draft_cost t_draft_coins t_draft_debts t_tape_length t_tape_bytes 1 _ hc) (cwV 1 hts gX2_readToken_X2_isFaulty rfl rfl rfl (by decide +kernel) ⟨Nat.le_of_ble_eq_true rfl, Nat.le_of_ble_eq_true rfl⟩) hK hP hD hS hA [0, 1, 2, 3, 4, 5, 6, 7, 8, 9, 10] [] [0, 1, 2, 3, 4, 5, 6, 7, 8, 9, 10] (w_Rdr cI cB cZ cS cT qt qt_draft qt_draft_kind qt_draft_father qt_draft_comes qt_draft_wants qt_draft_cost qt_draft_coins qt_draft_debts qt_tape qt_tape_bytes o_9.2 t_at_7 3 t_at_4 0 t_lawTold t_countersTold t_draft_people t_draft_law t_draft_counters t_draft_kind t_draft_father t_draft_comes t_draft_wants t_draft_cost t_draft_coins t_draft_debts t_tape_length t_tape_bytes) rfl rfl rfl rfl (by decide) rfl rfl 2 0 rfl rfl rfl rfl hl.1 rfl (Nat.le_of_ble_eq_true rfl) dX2_readToken_287 ⟨Nat.zero_le _, Nat.zero_le _⟩ (fun H locs hP hD hS => ?_)
          refine mr_if_eq (tgt := 297) hx hb hM dX2_readToken_290 (by decide) (fun hM => ?_) (fun hM => ?_)
          · refine lv_iconst (v := 0) hx hb dX2_readToken_297 (by decide) ?_
            have hM := Option.some.inj hM
            subst hM
            exact mr_zret hx hb hr (by decide) hlocks hQ hP hD hS rfl dX2_readToken_298
          · refine lv_iconst (v := 1) hx hb dX2_readToken_293 (by decide) ?_
            refine lv_goto (tgt := 298) hx hb dX2_readToken_294 (by decide) ?_
            have hM := Option.some.inj hM
            subst hM
            exact mr_zret hx hb hr (by decide) hlocks hQ hP hD hS rfl dX2_readToken_298
      · refine lv_aload_n hx hb dX2_readToken_150 rfl (lv_at hl 0 rfl) ?_
        refine lv_iconst (v := 2) hx hb dX2_readToken_151 (by decide) ?_
        refine mr_put (D := D) (ci := 2) (v := .int 2) (ty := .int) (C := RX2) (T := TX2) (N := 9) hx hb hts inX2w tyX2 tyX2_ok nmX2 hown hK hP hD hS 0 rfl rfl 4 (by decide) hf46 (fun _ h9 => h9) rfl (by decide +kernel) rfl rfl (Nat.le_of_ble_eq_true rfl) dX2_readToken_152 (w_Rdr cI cB cZ cS cT qt qt_draft qt_draft_kind qt_draft_father qt_draft_comes qt_draft_wants qt_draft_cost qt_draft_coins qt_draft_debts qt_tape qt_tape_bytes t_fault t_at_4 2 t_at_4 0 t_lawTold t_countersTold t_draft_people t_draft_law t_draft_counters t_draft_kind t_draft_father t_draft_comes t_draft_wants t_draft_cost t_draft_coins t_draft_debts t_tape_length t_tape_bytes) rfl (fun H locs hP hD hS => ?_)
        have hL155 : ∀ (K226 : Int32 → Int32 → Option (Int32 × Int32 × Int32 × Int32 × Int32 × Int32)), (∀ (t_at_16 t_value_17 : Int32), K226 t_at_16 t_value_17 = some o → ∀ (H : Heap) (locs : List Loc), va_P D vwCl (w_Rdr cI cB cZ cS cT qt qt_draft qt_draft_kind qt_draft_father qt_draft_comes qt_draft_wants qt_draft_cost qt_draft_coins qt_draft_debts qt_tape qt_tape_bytes t_fault t_at_16 2 t_at_4 t_value_17 t_lawTold t_countersTold t_draft_people t_draft_law t_draft_counters t_draft_kind t_draft_father t_draft_comes t_draft_wants t_draft_cost t_draft_coins t_draft_debts t_tape_length t_tape_bytes) H → va_D A (w_Rdr cI cB cZ cS cT qt qt_draft qt_draft_kind qt_draft_father qt_draft_comes qt_draft_wants qt_draft_cost qt_draft_coins qt_draft_debts qt_tape qt_tape_bytes t_fault t_at_16 2 t_at_4 t_value_17 t_lawTold t_countersTold t_draft_people t_draft_law t_draft_counters t_draft_kind t_draft_father t_draft_comes t_draft_wants t_draft_cost t_draft_coins t_draft_debts t_tape_length t_tape_bytes) → va_S A s.heap H locs → ∀ ls : Array Slot, lv_has ls 1 [(0, .ref qt)] → W p l e rmX2_readToken s m av below meth c H locs 0 0 Q (F0 m 226 ls [])) → ∀ (n : Nat) (t_at_10 t_value_11 : Int32), Rdr_readToken_L155 t_tape_length t_tape_bytes K226 n t_at_10 t_value_11 = some o → ∀ (H : Heap) (locs : List Loc), va_P D vwCl (w_Rdr cI cB cZ cS cT qt qt_draft qt_draft_kind qt_draft_father qt_draft_comes qt_draft_wants qt_draft_cost qt_draft_coins qt_draft_debts qt_tape qt_tape_bytes t_fault t_at_10 2 t_at_4 t_value_11 t_lawTold t_countersTold t_draft_people t_draft_law t_draft_counters t_draft_kind t_draft_father t_draft_comes t_draft_wants t_draft_cost t_draft_coins t_draft_debts t_tape_length t_tape_bytes) H → va_D A (w_Rdr cI cB cZ cS cT qt qt_draft qt_draft_kind qt_draft_father qt_draft_comes qt_draft_wants qt_draft_cost qt_draft_coins qt_draft_debts qt_tape qt_tape_bytes t_fault t_at_10 2 t_at_4 t_value_11 t_lawTold t_countersTold t_draft_people t_draft_law t_draft_counters t_draft_kind t_draft_father t_draft_comes t_draft_wants t_draft_cost t_draft_coins t_draft_debts t_tape_length t_tape_bytes) → va_S A s.heap H locs → ∀ ls : Array Slot, lv_has ls 1 [(0, .ref qt)] → W p l e rmX2_readToken s m av below meth c H locs 0 0 Q (F0 m 155 ls []) := by
          intro K226 hK226 n
          induction n with
          | zero =>
            intro t_at_10 t_value_11 hM
            rw [Rdr_readToken_L155] at hM
            cases hM
          | succ n ih =>
            intro t_at_10 t_value_11 hM H locs hP hD hS ls hl
            rw [Rdr_readToken_L155] at hM
            refine lv_aload_n hx hb dX2_readToken_155 rfl (lv_at hl 0 rfl) ?_
            refine va_get (D := D) (ci := 2) (v := .int t_at_10) (C := RX2) (T := TX2) (N := 9) hx hb hts inX2w hown hK hP 0 rfl rfl 3 (by decide) hf29 (fun _ h9 => h9) rfl dX2_readToken_156 ?_
            refine lv_aload_n hx hb dX2_readToken_159 rfl (lv_at hl 0 rfl) ?_
            refine va_get (D := D) (ci := 2) (v := .ref qt_tape) (C := RX2) (T := TX2) (N := 9) hx hb hts inX2w hown hK hP 0 rfl rfl 0 (by decide) hf12 (fun _ h9 => h9) rfl dX2_readToken_160 ?_
            refine va_get (D := D) (ci := 6) (v := .int t_tape_length) (C := RX6) (T := TX6) (N := 2) hx hb hts inX6w hown hK hP 9 rfl rfl 1 (by decide) hf153 (fun _ h9 => h9) rfl dX2_readToken_163 ?_
            refine mr_icmp_ge (tgt := 226) hx hb hM dX2_readToken_166 (by decide) (fun hM => ?_) (fun hM => ?_)
            · exact hK226 t_at_10 t_value_11 hM _ _ hP hD hS ls (lv_sub hl [0] rfl)
            · refine lv_aload_n hx hb dX2_readToken_169 rfl (lv_at hl 0 rfl) ?_
              refine va_get (D := D) (ci := 2) (v := .ref qt_tape) (C := RX2) (T := TX2) (N := 9) hx hb hts inX2w hown hK hP 0 rfl rfl 0 (by decide) hf12 (fun _ h9 => h9) rfl dX2_readToken_170 ?_
              refine lv_aload_n hx hb dX2_readToken_173 rfl (lv_at hl 0 rfl) ?_
              refine va_get (D := D) (ci := 2) (v := .int t_at_10) (C := RX2) (T := TX2) (N := 9) hx hb hts inX2w hown hK hP 0 rfl rfl 3 (by decide) hf29 (fun _ h9 => h9) rfl dX2_readToken_174 ?_
              obtain ⟨o_12, hc, hM⟩ := bind_so hM
              refine mr_callVi (As := [.int t_at_10]) (rest := []) (wr := [(qt, .inr (2, [.ref qt_tape, .ref qt_draft, .int t_fault, .int t_at_10, .int 2, .int t_at_4, .int t_value_11, .int t_lawTold, .int t_countersTold])), (qt_draft, .inr (7, [.int t_draft_people, .int t_draft_law, .int t_draft_counters, .ref qt_draft_kind, .ref qt_draft_father, .ref qt_draft_comes, .ref qt_draft_wants, .ref qt_draft_cost, .ref qt_draft_coins, .ref qt_draft_debts])), (qt_draft_kind, .inl (cI, 7, .inl t_draft_kind)), (qt_draft_father, .inl (cI, 7, .inl t_draft_father)), (qt_draft_comes, .inl (cI, 7, .inl t_draft_comes)), (qt_draft_wants, .inl (cI, 7, .inl t_draft_wants)), (qt_draft_cost, .inl (cI, 7, .inl t_draft_cost)), (qt_draft_coins, .inl (cI, 7, .inl t_draft_coins)), (qt_draft_debts, .inl (cI, 49, .inl t_draft_debts))]) ⟨hx, hb, hml, hown, hts⟩ (k_Tap_isFigure l D cI cB cZ cS cT qt_tape qt_tape_bytes t_tape_length t_tape_bytes t_at_10 _ hc) (cwV 1 hts gX2_readToken_X6_isFigure rfl rfl rfl (by decide +kernel) ⟨Nat.le_of_ble_eq_true rfl, Nat.le_of_ble_eq_true rfl⟩) hK hP hD hS hA [9, 10] [0, 1, 2, 3, 4, 5, 6, 7, 8] [0, 1, 2, 3, 4, 5, 6, 7, 8, 9, 10] (w_Rdr cI cB cZ cS cT qt qt_draft qt_draft_kind qt_draft_father qt_draft_comes qt_draft_wants qt_draft_cost qt_draft_coins qt_draft_debts qt_tape qt_tape_bytes t_fault t_at_10 2 t_at_4 t_value_11 t_lawTold t_countersTold t_draft_people t_draft_law t_draft_counters t_draft_kind t_draft_father t_draft_comes t_draft_wants t_draft_cost t_draft_coins t_draft_debts t_tape_length t_tape_bytes) rfl rfl rfl rfl (by decide) rfl rfl 6 0 rfl rfl rfl rfl hl.1 rfl (Nat.le_of_ble_eq_true rfl) dX2_readToken_177 ⟨Nat.zero_le _, Nat.zero_le _⟩ (fun H locs hP hD hS => ?_)
              refine mr_if_eq (tgt := 226) hx hb hM dX2_readToken_180 (by decide) (fun hM => ?_) (fun hM => ?_)
              · exact hK226 t_at_10 t_value_11 hM _ _ hP hD hS ls (lv_sub hl [0] rfl)
              · refine lv_aload_n hx hb dX2_readToken_183 rfl (lv_at hl 0 rfl) ?_
                refine lv_aload_n hx hb dX2_readToken_184 rfl (lv_at hl 0 rfl) ?_
                refine va_get (D := D) (ci := 2) (v := .int t_value_11) (C := RX2) (T := TX2) (N := 9) hx hb hts inX2w hown hK hP 0 rfl rfl 6 (by decide) hf90 (fun _ h9 => h9) rfl dX2_readToken_185 ?_
                refine lv_bipush (v := 10) hx hb dX2_readToken_188 (by decide) ?_
                refine lv_irem hx hb dX2_readToken_190 (by decide) ?_
                refine lv_bipush (v := 10) hx hb dX2_readToken_191 (by decide) ?_
                refine lv_imul hx hb dX2_readToken_193 ?_
                refine lv_aload_n hx hb dX2_readToken_194 rfl (lv_at hl 0 rfl) ?_
                refine va_get (D := D) (ci := 2) (v := .ref qt_tape) (C := RX2) (T := TX2) (N := 9) hx hb hts inX2w hown hK hP 0 rfl rfl 0 (by decide) hf12 (fun _ h9 => h9) rfl dX2_readToken_195 ?_
                refine va_get (D := D) (ci := 6) (v := .ref qt_tape_bytes) (C := RX6) (T := TX6) (N := 2) hx hb hts inX6w hown hK hP 9 rfl rfl 0 (by decide) hf165 (fun _ h9 => h9) rfl dX2_readToken_198 ?_
                refine lv_aload_n hx hb dX2_readToken_201 rfl (lv_at hl 0 rfl) ?_
                refine va_get (D := D) (ci := 2) (v := .int t_at_10) (C := RX2) (T := TX2) (N := 9) hx hb hts inX2w hown hK hP 0 rfl rfl 3 (by decide) hf29 (fun _ h9 => h9) rfl dX2_readToken_202 ?_
                refine mr_bald hx hb hK hP 10 1 rfl rfl hM dX2_readToken_205 (fun v_13 hM => ?_)
                refine lv_iadd hx hb dX2_readToken_206 ?_
                refine lv_bipush (v := 48) hx hb dX2_readToken_207 (by decide) ?_
                refine lv_isub hx hb dX2_readToken_209 ?_
                refine mr_nmI hM (fun t_value_14 hM => ?_)
                refine mr_put (D := D) (ci := 2) (v := .int t_value_14) (ty := .int) (C := RX2) (T := TX2) (N := 9) hx hb hts inX2w tyX2 tyX2_ok nmX2 hown hK hP hD hS 0 rfl rfl 6 (by decide) hf90 (fun _ h9 => h9) rfl (by decide +kernel) rfl rfl (Nat.le_of_ble_eq_true rfl) dX2_readToken_210 (w_Rdr cI cB cZ cS cT qt qt_draft qt_draft_kind qt_draft_father qt_draft_comes qt_draft_wants qt_draft_cost qt_draft_coins qt_draft_debts qt_tape qt_tape_bytes t_fault t_at_10 2 t_at_4 t_value_14 t_lawTold t_countersTold t_draft_people t_draft_law t_draft_counters t_draft_kind t_draft_father t_draft_comes t_draft_wants t_draft_cost t_draft_coins t_draft_debts t_tape_length t_tape_bytes) rfl (fun H locs hP hD hS => ?_)
                refine lv_aload_n hx hb dX2_readToken_213 rfl (lv_at hl 0 rfl) ?_
                refine lv_dup hx hb dX2_readToken_214 rfl ?_
                refine va_get (D := D) (ci := 2) (v := .int t_at_10) (C := RX2) (T := TX2) (N := 9) hx hb hts inX2w hown hK hP 0 rfl rfl 3 (by decide) hf29 (fun _ h9 => h9) rfl dX2_readToken_215 ?_
                refine lv_iconst (v := 1) hx hb dX2_readToken_218 (by decide) ?_
                refine lv_iadd hx hb dX2_readToken_219 ?_
                refine mr_nmI hM (fun t_at_15 hM => ?_)
                refine mr_put (D := D) (ci := 2) (v := .int t_at_15) (ty := .int) (C := RX2) (T := TX2) (N := 9) hx hb hts inX2w tyX2 tyX2_ok nmX2 hown hK hP hD hS 0 rfl rfl 3 (by decide) hf29 (fun _ h9 => h9) rfl (by decide +kernel) rfl rfl (Nat.le_of_ble_eq_true rfl) dX2_readToken_220 (w_Rdr cI cB cZ cS cT qt qt_draft qt_draft_kind qt_draft_father qt_draft_comes qt_draft_wants qt_draft_cost qt_draft_coins qt_draft_debts qt_tape qt_tape_bytes t_fault t_at_15 2 t_at_4 t_value_14 t_lawTold t_countersTold t_draft_people t_draft_law t_draft_counters t_draft_kind t_draft_father t_draft_comes t_draft_wants t_draft_cost t_draft_coins t_draft_debts t_tape_length t_tape_bytes) rfl (fun H locs hP hD hS => ?_)
                refine lv_goto (tgt := 155) hx hb dX2_readToken_223 (by decide) ?_
                exact ih t_at_15 t_value_14 hM _ _ hP hD hS ls (lv_sub hl [0] rfl)
        refine hL155 _ (fun t_at_16 t_value_17 hM H locs hP hD hS ls hl => ?_) _ t_at_4 0 hM _ _ hP hD hS ls (lv_sub hl [0] rfl)
        refine lv_aload_n hx hb dX2_readToken_226 rfl (lv_at hl 0 rfl) ?_
        refine va_get (D := D) (ci := 2) (v := .int t_at_16) (C := RX2) (T := TX2) (N := 9) hx hb hts inX2w hown hK hP 0 rfl rfl 3 (by decide) hf29 (fun _ h9 => h9) rfl dX2_readToken_227 ?_
        refine lv_aload_n hx hb dX2_readToken_230 rfl (lv_at hl 0 rfl) ?_
        refine va_get (D := D) (ci := 2) (v := .int t_at_4) (C := RX2) (T := TX2) (N := 9) hx hb hts inX2w hown hK hP 0 rfl rfl 5 (by decide) hf55 (fun _ h9 => h9) rfl dX2_readToken_231 ?_
        refine lv_isub hx hb dX2_readToken_234 ?_
        refine lv_iconst (v := 2) hx hb dX2_readToken_235 (by decide) ?_
        refine mr_icmp_le (tgt := 247) hx hb hM dX2_readToken_236 (by decide) (fun hM => ?_) (fun hM => ?_)
        · refine lv_iconst (v := 1) hx hb dX2_readToken_247 (by decide) ?_
          refine lv_goto (tgt := 252) hx hb dX2_readToken_248 (by decide) ?_
          have hM := Option.some.inj hM
          subst hM
          exact mr_zret hx hb hr (by decide) hlocks hQ hP hD hS rfl dX2_readToken_252
        · refine lv_aload_n hx hb dX2_readToken_239 rfl (lv_at hl 0 rfl) ?_
          refine lv_iconst (v := 1) hx hb dX2_readToken_240 (by decide) ?_
          obtain ⟨o_18, hc, hM⟩ := bind_so hM
          refine mr_callVi (As := [.int 1]) (rest := []) (wr := []) ⟨hx, hb, hml, hown, hts⟩ (k_Rdr_isFaulty l D cI cB cZ cS cT qt qt_draft qt_draft_kind qt_draft_father qt_draft_comes qt_draft_wants qt_draft_cost qt_draft_coins qt_draft_debts qt_tape qt_tape_bytes t_fault t_at_16 2 t_at_4 t_value_17 t_lawTold t_countersTold t_draft_people t_draft_law t_draft_counters t_draft_kind t_draft_father t_draft_comes t_draft_wants t_draft_cost t_draft_coins t_draft_debts t_tape_length t_tape_bytes 1 _ hc) (cwV 1 hts gX2_readToken_X2_isFaulty rfl rfl rfl (by decide +kernel) ⟨Nat.le_of_ble_eq_true rfl, Nat.le_of_ble_eq_true rfl⟩) hK hP hD hS hA [0, 1, 2, 3, 4, 5, 6, 7, 8, 9, 10] [] [0, 1, 2, 3, 4, 5, 6, 7, 8, 9, 10] (w_Rdr cI cB cZ cS cT qt qt_draft qt_draft_kind qt_draft_father qt_draft_comes qt_draft_wants qt_draft_cost qt_draft_coins qt_draft_debts qt_tape qt_tape_bytes o_18.2 t_at_16 2 t_at_4 t_value_17 t_lawTold t_countersTold t_draft_people t_draft_law t_draft_counters t_draft_kind t_draft_father t_draft_comes t_draft_wants t_draft_cost t_draft_coins t_draft_debts t_tape_length t_tape_bytes) rfl rfl rfl rfl (by decide) rfl rfl 2 0 rfl rfl rfl rfl hl.1 rfl (Nat.le_of_ble_eq_true rfl) dX2_readToken_241 ⟨Nat.zero_le _, Nat.zero_le _⟩ (fun H locs hP hD hS => ?_)
          refine mr_if_eq (tgt := 251) hx hb hM dX2_readToken_244 (by decide) (fun hM => ?_) (fun hM => ?_)
          · refine lv_iconst (v := 0) hx hb dX2_readToken_251 (by decide) ?_
            have hM := Option.some.inj hM
            subst hM
            exact mr_zret hx hb hr (by decide) hlocks hQ hP hD hS rfl dX2_readToken_252
          · refine lv_iconst (v := 1) hx hb dX2_readToken_247 (by decide) ?_
            refine lv_goto (tgt := 252) hx hb dX2_readToken_248 (by decide) ?_
            have hM := Option.some.inj hM
            subst hM
            exact mr_zret hx hb hr (by decide) hlocks hQ hP hD hS rfl dX2_readToken_252
    · refine lv_aload_n hx hb dX2_readToken_90 rfl (lv_at hl 0 rfl) ?_
      refine lv_iconst (v := 1) hx hb dX2_readToken_91 (by decide) ?_
      refine mr_put (D := D) (ci := 2) (v := .int 1) (ty := .int) (C := RX2) (T := TX2) (N := 9) hx hb hts inX2w tyX2 tyX2_ok nmX2 hown hK hP hD hS 0 rfl rfl 4 (by decide) hf46 (fun _ h9 => h9) rfl (by decide +kernel) rfl rfl (Nat.le_of_ble_eq_true rfl) dX2_readToken_92 (w_Rdr cI cB cZ cS cT qt qt_draft qt_draft_kind qt_draft_father qt_draft_comes qt_draft_wants qt_draft_cost qt_draft_coins qt_draft_debts qt_tape qt_tape_bytes t_fault t_at_4 1 t_at_4 0 t_lawTold t_countersTold t_draft_people t_draft_law t_draft_counters t_draft_kind t_draft_father t_draft_comes t_draft_wants t_draft_cost t_draft_coins t_draft_debts t_tape_length t_tape_bytes) rfl (fun H locs hP hD hS => ?_)
      have hL95 : ∀ (K299 : Int32 → Option (Int32 × Int32 × Int32 × Int32 × Int32 × Int32)), (∀ (t_at_22 : Int32), K299 t_at_22 = some o → ∀ (H : Heap) (locs : List Loc), va_P D vwCl (w_Rdr cI cB cZ cS cT qt qt_draft qt_draft_kind qt_draft_father qt_draft_comes qt_draft_wants qt_draft_cost qt_draft_coins qt_draft_debts qt_tape qt_tape_bytes t_fault t_at_22 1 t_at_4 0 t_lawTold t_countersTold t_draft_people t_draft_law t_draft_counters t_draft_kind t_draft_father t_draft_comes t_draft_wants t_draft_cost t_draft_coins t_draft_debts t_tape_length t_tape_bytes) H → va_D A (w_Rdr cI cB cZ cS cT qt qt_draft qt_draft_kind qt_draft_father qt_draft_comes qt_draft_wants qt_draft_cost qt_draft_coins qt_draft_debts qt_tape qt_tape_bytes t_fault t_at_22 1 t_at_4 0 t_lawTold t_countersTold t_draft_people t_draft_law t_draft_counters t_draft_kind t_draft_father t_draft_comes t_draft_wants t_draft_cost t_draft_coins t_draft_debts t_tape_length t_tape_bytes) → va_S A s.heap H locs → ∀ ls : Array Slot, lv_has ls 1 [] → W p l e rmX2_readToken s m av below meth c H locs 0 0 Q (F0 m 299 ls [])) → ∀ (n : Nat) (t_at_19 : Int32), Rdr_readToken_L95 t_tape_length t_tape_bytes K299 n t_at_19 = some o → ∀ (H : Heap) (locs : List Loc), va_P D vwCl (w_Rdr cI cB cZ cS cT qt qt_draft qt_draft_kind qt_draft_father qt_draft_comes qt_draft_wants qt_draft_cost qt_draft_coins qt_draft_debts qt_tape qt_tape_bytes t_fault t_at_19 1 t_at_4 0 t_lawTold t_countersTold t_draft_people t_draft_law t_draft_counters t_draft_kind t_draft_father t_draft_comes t_draft_wants t_draft_cost t_draft_coins t_draft_debts t_tape_length t_tape_bytes) H → va_D A (w_Rdr cI cB cZ cS cT qt qt_draft qt_draft_kind qt_draft_father qt_draft_comes qt_draft_wants qt_draft_cost qt_draft_coins qt_draft_debts qt_tape qt_tape_bytes t_fault t_at_19 1 t_at_4 0 t_lawTold t_countersTold t_draft_people t_draft_law t_draft_counters t_draft_kind t_draft_father t_draft_comes t_draft_wants t_draft_cost t_draft_coins t_draft_debts t_tape_length t_tape_bytes) → va_S A s.heap H locs → ∀ ls : Array Slot, lv_has ls 1 [(0, .ref qt)] → W p l e rmX2_readToken s m av below meth c H locs 0 0 Q (F0 m 95 ls []) := by
        intro K299 hK299 n
        induction n with
        | zero =>
          intro t_at_19 hM
          rw [Rdr_readToken_L95] at hM
          cases hM
        | succ n ih =>
          intro t_at_19 hM H locs hP hD hS ls hl
          rw [Rdr_readToken_L95] at hM
          refine lv_aload_n hx hb dX2_readToken_95 rfl (lv_at hl 0 rfl) ?_
          refine va_get (D := D) (ci := 2) (v := .int t_at_19) (C := RX2) (T := TX2) (N := 9) hx hb hts inX2w hown hK hP 0 rfl rfl 3 (by decide) hf29 (fun _ h9 => h9) rfl dX2_readToken_96 ?_
          refine lv_aload_n hx hb dX2_readToken_99 rfl (lv_at hl 0 rfl) ?_
          refine va_get (D := D) (ci := 2) (v := .ref qt_tape) (C := RX2) (T := TX2) (N := 9) hx hb hts inX2w hown hK hP 0 rfl rfl 0 (by decide) hf12 (fun _ h9 => h9) rfl dX2_readToken_100 ?_
          refine va_get (D := D) (ci := 6) (v := .int t_tape_length) (C := RX6) (T := TX6) (N := 2) hx hb hts inX6w hown hK hP 9 rfl rfl 1 (by decide) hf153 (fun _ h9 => h9) rfl dX2_readToken_103 ?_
          refine mr_icmp_ge (tgt := 299) hx hb hM dX2_readToken_106 (by decide) (fun hM => ?_) (fun hM => ?_)
          · exact hK299 t_at_19 hM _ _ hP hD hS ls (lv_sub hl [] rfl)
          · refine lv_aload_n hx hb dX2_readToken_109 rfl (lv_at hl 0 rfl) ?_
            refine va_get (D := D) (ci := 2) (v := .ref qt_tape) (C := RX2) (T := TX2) (N := 9) hx hb hts inX2w hown hK hP 0 rfl rfl 0 (by decide) hf12 (fun _ h9 => h9) rfl dX2_readToken_110 ?_
            refine lv_aload_n hx hb dX2_readToken_113 rfl (lv_at hl 0 rfl) ?_
            refine va_get (D := D) (ci := 2) (v := .int t_at_19) (C := RX2) (T := TX2) (N := 9) hx hb hts inX2w hown hK hP 0 rfl rfl 3 (by decide) hf29 (fun _ h9 => h9) rfl dX2_readToken_114 ?_
            obtain ⟨o_20, hc, hM⟩ := bind_so hM
            refine mr_callVi (As := [.int t_at_19]) (rest := []) (wr := [(qt, .inr (2, [.ref qt_tape, .ref qt_draft, .int t_fault, .int t_at_19, .int 1, .int t_at_4, .int 0, .int t_lawTold, .int t_countersTold])), (qt_draft, .inr (7, [.int t_draft_people, .int t_draft_law, .int t_draft_counters, .ref qt_draft_kind, .ref qt_draft_father, .ref qt_draft_comes, .ref qt_draft_wants, .ref qt_draft_cost, .ref qt_draft_coins, .ref qt_draft_debts])), (qt_draft_kind, .inl (cI, 7, .inl t_draft_kind)), (qt_draft_father, .inl (cI, 7, .inl t_draft_father)), (qt_draft_comes, .inl (cI, 7, .inl t_draft_comes)), (qt_draft_wants, .inl (cI, 7, .inl t_draft_wants)), (qt_draft_cost, .inl (cI, 7, .inl t_draft_cost)), (qt_draft_coins, .inl (cI, 7, .inl t_draft_coins)), (qt_draft_debts, .inl (cI, 49, .inl t_draft_debts))]) ⟨hx, hb, hml, hown, hts⟩ (k_Tap_isLetter l D cI cB cZ cS cT qt_tape qt_tape_bytes t_tape_length t_tape_bytes t_at_19 _ hc) (cwV 1 hts gX2_readToken_X6_isLetter rfl rfl rfl (by decide +kernel) ⟨Nat.le_of_ble_eq_true rfl, Nat.le_of_ble_eq_true rfl⟩) hK hP hD hS hA [9, 10] [0, 1, 2, 3, 4, 5, 6, 7, 8] [0, 1, 2, 3, 4, 5, 6, 7, 8, 9, 10] (w_Rdr cI cB cZ cS cT qt qt_draft qt_draft_kind qt_draft_father qt_draft_comes qt_draft_wants qt_draft_cost qt_draft_coins qt_draft_debts qt_tape qt_tape_bytes t_fault t_at_19 1 t_at_4 0 t_lawTold t_countersTold t_draft_people t_draft_law t_draft_counters t_draft_kind t_draft_father t_draft_comes t_draft_wants t_draft_cost t_draft_coins t_draft_debts t_tape_length t_tape_bytes) rfl rfl rfl rfl (by decide) rfl rfl 6 0 rfl rfl rfl rfl hl.1 rfl (Nat.le_of_ble_eq_true rfl) dX2_readToken_117 ⟨Nat.zero_le _, Nat.zero_le _⟩ (fun H locs hP hD hS => ?_)
            refine mr_if_eq (tgt := 299) hx hb hM dX2_readToken_120 (by decide) (fun hM => ?_) (fun hM => ?_)
            · exact hK299 t_at_19 hM _ _ hP hD hS ls (lv_sub hl [] rfl)
            · refine lv_aload_n hx hb dX2_readToken_123 rfl (lv_at hl 0 rfl) ?_
              refine lv_dup hx hb dX2_readToken_124 rfl ?_
              refine va_get (D := D) (ci := 2) (v := .int t_at_19) (C := RX2) (T := TX2) (N := 9) hx hb hts inX2w hown hK hP 0 rfl rfl 3 (by decide) hf29 (fun _ h9 => h9) rfl dX2_readToken_125 ?_
              refine lv_iconst (v := 1) hx hb dX2_readToken_128 (by decide) ?_
              refine lv_iadd hx hb dX2_readToken_129 ?_
              refine mr_nmI hM (fun t_at_21 hM => ?_)
              refine mr_put (D := D) (ci := 2) (v := .int t_at_21) (ty := .int) (C := RX2) (T := TX2) (N := 9) hx hb hts inX2w tyX2 tyX2_ok nmX2 hown hK hP hD hS 0 rfl rfl 3 (by decide) hf29 (fun _ h9 => h9) rfl (by decide +kernel) rfl rfl (Nat.le_of_ble_eq_true rfl) dX2_readToken_130 (w_Rdr cI cB cZ cS cT qt qt_draft qt_draft_kind qt_draft_father qt_draft_comes qt_draft_wants qt_draft_cost qt_draft_coins qt_draft_debts qt_tape qt_tape_bytes t_fault t_at_21 1 t_at_4 0 t_lawTold t_countersTold t_draft_people t_draft_law t_draft_counters t_draft_kind t_draft_father t_draft_comes t_draft_wants t_draft_cost t_draft_coins t_draft_debts t_tape_length t_tape_bytes) rfl (fun H locs hP hD hS => ?_)
              refine lv_goto (tgt := 95) hx hb dX2_readToken_133 (by decide) ?_
              exact ih t_at_21 hM _ _ hP hD hS ls (lv_sub hl [0] rfl)
      refine hL95 _ (fun t_at_22 hM H locs hP hD hS ls hl => ?_) _ t_at_4 hM _ _ hP hD hS ls (lv_sub hl [0] rfl)
      refine lv_iconst (v := 1) hx hb dX2_readToken_299 (by decide) ?_
      have hM := Option.some.inj hM
      subst hM
      exact mr_zret hx hb hr (by decide) hlocks hQ hP hD hS rfl dX2_readToken_300
  · refine lv_aload_n hx hb dX2_readToken_68 rfl (lv_at hl 0 rfl) ?_
    refine lv_iconst (v := 4) hx hb dX2_readToken_69 (by decide) ?_
    refine mr_put (D := D) (ci := 2) (v := .int 4) (ty := .int) (C := RX2) (T := TX2) (N := 9) hx hb hts inX2w tyX2 tyX2_ok nmX2 hown hK hP hD hS 0 rfl rfl 4 (by decide) hf46 (fun _ h9 => h9) rfl (by decide +kernel) rfl rfl (Nat.le_of_ble_eq_true rfl) dX2_readToken_70 (w_Rdr cI cB cZ cS cT qt qt_draft qt_draft_kind qt_draft_father qt_draft_comes qt_draft_wants qt_draft_cost qt_draft_coins qt_draft_debts qt_tape qt_tape_bytes t_fault t_at_4 4 t_at_4 0 t_lawTold t_countersTold t_draft_people t_draft_law t_draft_counters t_draft_kind t_draft_father t_draft_comes t_draft_wants t_draft_cost t_draft_coins t_draft_debts t_tape_length t_tape_bytes) rfl (fun H locs hP hD hS => ?_)
    refine lv_goto (tgt := 299) hx hb dX2_readToken_73 (by decide) ?_
    refine lv_iconst (v := 1) hx hb dX2_readToken_299 (by decide) ?_
    have hM := Option.some.inj hM
    subst hM
    exact mr_zret hx hb hr (by decide) hlocks hQ hP hD hS rfl dX2_readToken_300

abbrev rmX2_readNumber : Room := { frames := 2, cells := 0, slots := 0, locals := 41 }
set_option maxHeartbeats 40000000 in
set_option maxRecDepth 100000 in
theorem k_Rdr_readNumber (l : Launch) (D : va_G) (cI cB cZ cS cT : ClassId) (qt qt_draft qt_draft_kind qt_draft_father qt_draft_comes qt_draft_wants qt_draft_cost qt_draft_coins qt_draft_debts qt_tape qt_tape_bytes : Nat) (t_fault t_at t_sort t_start t_value t_lawTold t_countersTold t_draft_people t_draft_law t_draft_counters : Int32) (t_draft_kind t_draft_father t_draft_comes t_draft_wants t_draft_cost t_draft_coins t_draft_debts : Nat → Int32) (t_tape_length : Int32) (t_tape_bytes : Nat → Int32) (p1 p2 : Int32) (o : Int32 × Int32 × Int32 × Int32 × Int32 × Int32) (hM : Rdr_readNumber p1 p2 t_fault t_at t_tape_length t_tape_bytes = some o) : mtI l yX2_readNumber wsX2_readNumber rmX2_readNumber D (tys5 cI cB cZ cS cT) [.ref qt, .int p1, .int p2] (w_Rdr cI cB cZ cS cT qt qt_draft qt_draft_kind qt_draft_father qt_draft_comes qt_draft_wants qt_draft_cost qt_draft_coins qt_draft_debts qt_tape qt_tape_bytes t_fault t_at t_sort t_start t_value t_lawTold t_countersTold t_draft_people t_draft_law t_draft_counters t_draft_kind t_draft_father t_draft_comes t_draft_wants t_draft_cost t_draft_coins t_draft_debts t_tape_length t_tape_bytes) (w_Rdr cI cB cZ cS cT qt qt_draft qt_draft_kind qt_draft_father qt_draft_comes qt_draft_wants qt_draft_cost qt_draft_coins qt_draft_debts qt_tape qt_tape_bytes o.2.1 o.2.2.1 o.2.2.2.1 o.2.2.2.2.1 o.2.2.2.2.2 t_lawTold t_countersTold t_draft_people t_draft_law t_draft_counters t_draft_kind t_draft_father t_draft_comes t_draft_wants t_draft_cost t_draft_coins t_draft_debts t_tape_length t_tape_bytes) o.1 := by
  refine mtI.of (cc := cX2_readNumber) (maxL := 3) (ret := (some .boolean)) (by decide) rfl (Nat.le_of_ble_eq_true rfl) ?_
  intro p e s m below meth c A Q av hav hQ hx hb hr hml hown hts hlocks hK hP hD hA hS ls hl
  have hown : s.vm.findClass RX2 = some m.cls := hown
  have hl : lv_has ls 3 [(0, .ref qt), (1, .int p1), (2, .int p2)] := hl
  unfold Rdr_readNumber at hM
  have inX2w : ∀ w ∈ u_ws RX2 TX2 9, w ∈ wsX2_readNumber := by decide +kernel
  have hf46 := hts (.fieldLink RX2 46 "LetsIn$Reader" "sort" "I") (by decide +kernel)
  have hf90 := hts (.fieldLink RX2 90 "LetsIn$Reader" "value" "I") (by decide +kernel)
  refine lv_aload_n hx hb dX2_readNumber_0 rfl (lv_at hl 0 rfl) ?_
  obtain ⟨o_1, hc, hM⟩ := bind_so hM
  refine mr_callVi (As := []) (rest := []) (wr := []) ⟨hx, hb, hml, hown, hts⟩ (k_Rdr_readToken l D cI cB cZ cS cT qt qt_draft qt_draft_kind qt_draft_father qt_draft_comes qt_draft_wants qt_draft_cost qt_draft_coins qt_draft_debts qt_tape qt_tape_bytes t_fault t_at t_sort t_start t_value t_lawTold t_countersTold t_draft_people t_draft_law t_draft_counters t_draft_kind t_draft_father t_draft_comes t_draft_wants t_draft_cost t_draft_coins t_draft_debts t_tape_length t_tape_bytes  _ hc) (cwV 0 hts gX2_readNumber_X2_readToken rfl rfl rfl (by decide +kernel) ⟨Nat.le_of_ble_eq_true rfl, Nat.le_of_ble_eq_true rfl⟩) hK hP hD hS hA [0, 1, 2, 3, 4, 5, 6, 7, 8, 9, 10] [] [0, 1, 2, 3, 4, 5, 6, 7, 8, 9, 10] (w_Rdr cI cB cZ cS cT qt qt_draft qt_draft_kind qt_draft_father qt_draft_comes qt_draft_wants qt_draft_cost qt_draft_coins qt_draft_debts qt_tape qt_tape_bytes o_1.2.1 o_1.2.2.1 o_1.2.2.2.1 o_1.2.2.2.2.1 o_1.2.2.2.2.2 t_lawTold t_countersTold t_draft_people t_draft_law t_draft_counters t_draft_kind t_draft_father t_draft_comes t_draft_wants t_draft_cost t_draft_coins t_draft_debts t_tape_length t_tape_bytes) rfl rfl rfl rfl (by decide) rfl rfl 2 0 rfl rfl rfl rfl hl.1 rfl (Nat.le_of_ble_eq_true rfl) dX2_readNumber_1 ⟨Nat.zero_le _, Nat.zero_le _⟩ (fun H locs hP hD hS => ?_)
  refine mr_if_ne (tgt := 9) hx hb hM dX2_readNumber_4 (by decide) (fun hM => ?_) (fun hM => ?_)
  · refine lv_aload_n hx hb dX2_readNumber_9 rfl (lv_at hl 0 rfl) ?_
    refine va_get (D := D) (ci := 2) (v := .int o_1.2.2.2.1) (C := RX2) (T := TX2) (N := 9) hx hb hts inX2w hown hK hP 0 rfl rfl 4 (by decide) hf46 (fun _ h9 => h9) rfl dX2_readNumber_10 ?_
    refine lv_iconst (v := 2) hx hb dX2_readNumber_13 (by decide) ?_
    refine mr_icmp_eq (tgt := 23) hx hb hM dX2_readNumber_14 (by decide) (fun hM => ?_) (fun hM => ?_)
    · refine lv_aload_n hx hb dX2_readNumber_23 rfl (lv_at hl 0 rfl) ?_
      refine va_get (D := D) (ci := 2) (v := .int o_1.2.2.2.2.2) (C := RX2) (T := TX2) (N := 9) hx hb hts inX2w hown hK hP 0 rfl rfl 6 (by decide) hf90 (fun _ h9 => h9) rfl dX2_readNumber_24 ?_
      refine lv_iload_n hx hb dX2_readNumber_27 rfl (lv_at hl 1 rfl) ?_
      refine mr_jn hM (fun j39_2 => ∀ _u : Unit, j39_2 _u = some o → ∀ (H : Heap) (locs : List Loc), va_P D vwCl (w_Rdr cI cB cZ cS cT qt qt_draft qt_draft_kind qt_draft_father qt_draft_comes qt_draft_wants qt_draft_cost qt_draft_coins qt_draft_debts qt_tape qt_tape_bytes o_1.2.1 o_1.2.2.1 o_1.2.2.2.1 o_1.2.2.2.2.1 o_1.2.2.2.2.2 t_lawTold t_countersTold t_draft_people t_draft_law t_draft_counters t_draft_kind t_draft_father t_draft_comes t_draft_wants t_draft_cost t_draft_coins t_draft_debts t_tape_length t_tape_bytes) H → va_D A (w_Rdr cI cB cZ cS cT qt qt_draft qt_draft_kind qt_draft_father qt_draft_comes qt_draft_wants qt_draft_cost qt_draft_coins qt_draft_debts qt_tape qt_tape_bytes o_1.2.1 o_1.2.2.1 o_1.2.2.2.1 o_1.2.2.2.2.1 o_1.2.2.2.2.2 t_lawTold t_countersTold t_draft_people t_draft_law t_draft_counters t_draft_kind t_draft_father t_draft_comes t_draft_wants t_draft_cost t_draft_coins t_draft_debts t_tape_length t_tape_bytes) → va_S A s.heap H locs → ∀ ls : Array Slot, lv_has ls 3 [(0, .ref qt)] → W p l e rmX2_readNumber s m av below meth c H locs 0 0 Q (F0 m 39 ls [])) (fun _u hM H locs hP hD hS ls hl => ?_) (fun j39_2 hj39_2 hM => ?_)
      · refine lv_aload_n hx hb dX2_readNumber_39 rfl (lv_at hl 0 rfl) ?_
        refine lv_iconst (v := 3) hx hb dX2_readNumber_40 (by decide) ?_
        obtain ⟨o_3, hc, hM⟩ := bind_so hM
        refine mr_callVi (As := [.int 3]) (rest := []) (wr := []) ⟨hx, hb, hml, hown, hts⟩ (k_Rdr_isFaulty l D cI cB cZ cS cT qt qt_draft qt_draft_kind qt_draft_father qt_draft_comes qt_draft_wants qt_draft_cost qt_draft_coins qt_draft_debts qt_tape qt_tape_bytes o_1.2.1 o_1.2.2.1 o_1.2.2.2.1 o_1.2.2.2.2.1 o_1.2.2.2.2.2 t_lawTold t_countersTold t_draft_people t_draft_law t_draft_counters t_draft_kind t_draft_father t_draft_comes t_draft_wants t_draft_cost t_draft_coins t_draft_debts t_tape_length t_tape_bytes 3 _ hc) (cwV 1 hts gX2_readNumber_X2_isFaulty rfl rfl rfl (by decide +kernel) ⟨Nat.le_of_ble_eq_true rfl, Nat.le_of_ble_eq_true rfl⟩) hK hP hD hS hA [0, 1, 2, 3, 4, 5, 6, 7, 8, 9, 10] [] [0, 1, 2, 3, 4, 5, 6, 7, 8, 9, 10] (w_Rdr cI cB cZ cS cT qt qt_draft qt_draft_kind qt_draft_father qt_draft_comes qt_draft_wants qt_draft_cost qt_draft_coins qt_draft_debts qt_tape qt_tape_bytes o_3.2 o_1.2.2.1 o_1.2.2.2.1 o_1.2.2.2.2.1 o_1.2.2.2.2.2 t_lawTold t_countersTold t_draft_people t_draft_law t_draft_counters t_draft_kind t_draft_father t_draft_comes t_draft_wants t_draft_cost t_draft_coins t_draft_debts t_tape_length t_tape_bytes) rfl rfl rfl rfl (by decide) rfl rfl 2 0 rfl rfl rfl rfl hl.1 rfl (Nat.le_of_ble_eq_true rfl) dX2_readNumber_41 ⟨Nat.zero_le _, Nat.zero_le _⟩ (fun H locs hP hD hS => ?_)
        refine mr_if_eq (tgt := 51) hx hb hM dX2_readNumber_44 (by decide) (fun hM => ?_) (fun hM => ?_)
        · refine lv_iconst (v := 0) hx hb dX2_readNumber_51 (by decide) ?_
          have hM := Option.some.inj hM
          subst hM
          exact mr_zret hx hb hr (by decide) hlocks hQ hP hD hS rfl dX2_readNumber_52
        · refine lv_iconst (v := 1) hx hb dX2_readNumber_47 (by decide) ?_
          refine lv_goto (tgt := 52) hx hb dX2_readNumber_48 (by decide) ?_
          have hM := Option.some.inj hM
          subst hM
          exact mr_zret hx hb hr (by decide) hlocks hQ hP hD hS rfl dX2_readNumber_52
      · refine mr_icmp_lt (tgt := 39) hx hb hM dX2_readNumber_28 (by decide) (fun hM => ?_) (fun hM => ?_)
        · exact hj39_2 () hM _ _ hP hD hS ls (lv_sub hl [0] rfl)
        · refine lv_aload_n hx hb dX2_readNumber_31 rfl (lv_at hl 0 rfl) ?_
          refine va_get (D := D) (ci := 2) (v := .int o_1.2.2.2.2.2) (C := RX2) (T := TX2) (N := 9) hx hb hts inX2w hown hK hP 0 rfl rfl 6 (by decide) hf90 (fun _ h9 => h9) rfl dX2_readNumber_32 ?_
          refine lv_iload_n hx hb dX2_readNumber_35 rfl (lv_at hl 2 rfl) ?_
          refine mr_icmp_le (tgt := 47) hx hb hM dX2_readNumber_36 (by decide) (fun hM => ?_) (fun hM => ?_)
          · refine lv_iconst (v := 1) hx hb dX2_readNumber_47 (by decide) ?_
            refine lv_goto (tgt := 52) hx hb dX2_readNumber_48 (by decide) ?_
            have hM := Option.some.inj hM
            subst hM
            exact mr_zret hx hb hr (by decide) hlocks hQ hP hD hS rfl dX2_readNumber_52
          · exact hj39_2 () hM _ _ hP hD hS ls (lv_sub hl [0] rfl)
    · refine lv_aload_n hx hb dX2_readNumber_17 rfl (lv_at hl 0 rfl) ?_
      refine lv_iconst (v := 2) hx hb dX2_readNumber_18 (by decide) ?_
      obtain ⟨o_4, hc, hM⟩ := bind_so hM
      refine mr_callVi (As := [.int 2]) (rest := []) (wr := []) ⟨hx, hb, hml, hown, hts⟩ (k_Rdr_isFaulty l D cI cB cZ cS cT qt qt_draft qt_draft_kind qt_draft_father qt_draft_comes qt_draft_wants qt_draft_cost qt_draft_coins qt_draft_debts qt_tape qt_tape_bytes o_1.2.1 o_1.2.2.1 o_1.2.2.2.1 o_1.2.2.2.2.1 o_1.2.2.2.2.2 t_lawTold t_countersTold t_draft_people t_draft_law t_draft_counters t_draft_kind t_draft_father t_draft_comes t_draft_wants t_draft_cost t_draft_coins t_draft_debts t_tape_length t_tape_bytes 2 _ hc) (cwV 1 hts gX2_readNumber_X2_isFaulty rfl rfl rfl (by decide +kernel) ⟨Nat.le_of_ble_eq_true rfl, Nat.le_of_ble_eq_true rfl⟩) hK hP hD hS hA [0, 1, 2, 3, 4, 5, 6, 7, 8, 9, 10] [] [0, 1, 2, 3, 4, 5, 6, 7, 8, 9, 10] (w_Rdr cI cB cZ cS cT qt qt_draft qt_draft_kind qt_draft_father qt_draft_comes qt_draft_wants qt_draft_cost qt_draft_coins qt_draft_debts qt_tape qt_tape_bytes o_4.2 o_1.2.2.1 o_1.2.2.2.1 o_1.2.2.2.2.1 o_1.2.2.2.2.2 t_lawTold t_countersTold t_draft_people t_draft_law t_draft_counters t_draft_kind t_draft_father t_draft_comes t_draft_wants t_draft_cost t_draft_coins t_draft_debts t_tape_length t_tape_bytes) rfl rfl rfl rfl (by decide) rfl rfl 2 0 rfl rfl rfl rfl hl.1 rfl (Nat.le_of_ble_eq_true rfl) dX2_readNumber_19 ⟨Nat.zero_le _, Nat.zero_le _⟩ (fun H locs hP hD hS => ?_)
      obtain ⟨hz, hM⟩ := guard_so hM
      have hM := Option.some.inj hM
      subst hM
      exact mr_zret hx hb hr (narrow_z hz) hlocks hQ hP hD hS rfl dX2_readNumber_22
  · refine lv_iconst (v := 0) hx hb dX2_readNumber_7 (by decide) ?_
    have hM := Option.some.inj hM
    subst hM
    exact mr_zret hx hb hr (by decide) hlocks hQ hP hD hS rfl dX2_readNumber_8

abbrev rmX2_readStop : Room := { frames := 2, cells := 0, slots := 0, locals := 41 }
set_option maxHeartbeats 40000000 in
set_option maxRecDepth 100000 in
theorem k_Rdr_readStop (l : Launch) (D : va_G) (cI cB cZ cS cT : ClassId) (qt qt_draft qt_draft_kind qt_draft_father qt_draft_comes qt_draft_wants qt_draft_cost qt_draft_coins qt_draft_debts qt_tape qt_tape_bytes : Nat) (t_fault t_at t_sort t_start t_value t_lawTold t_countersTold t_draft_people t_draft_law t_draft_counters : Int32) (t_draft_kind t_draft_father t_draft_comes t_draft_wants t_draft_cost t_draft_coins t_draft_debts : Nat → Int32) (t_tape_length : Int32) (t_tape_bytes : Nat → Int32)  (o : Int32 × Int32 × Int32 × Int32 × Int32 × Int32) (hM : Rdr_readStop t_fault t_at t_tape_length t_tape_bytes = some o) : mtI l yX2_readStop wsX2_readStop rmX2_readStop D (tys5 cI cB cZ cS cT) [.ref qt] (w_Rdr cI cB cZ cS cT qt qt_draft qt_draft_kind qt_draft_father qt_draft_comes qt_draft_wants qt_draft_cost qt_draft_coins qt_draft_debts qt_tape qt_tape_bytes t_fault t_at t_sort t_start t_value t_lawTold t_countersTold t_draft_people t_draft_law t_draft_counters t_draft_kind t_draft_father t_draft_comes t_draft_wants t_draft_cost t_draft_coins t_draft_debts t_tape_length t_tape_bytes) (w_Rdr cI cB cZ cS cT qt qt_draft qt_draft_kind qt_draft_father qt_draft_comes qt_draft_wants qt_draft_cost qt_draft_coins qt_draft_debts qt_tape qt_tape_bytes o.2.1 o.2.2.1 o.2.2.2.1 o.2.2.2.2.1 o.2.2.2.2.2 t_lawTold t_countersTold t_draft_people t_draft_law t_draft_counters t_draft_kind t_draft_father t_draft_comes t_draft_wants t_draft_cost t_draft_coins t_draft_debts t_tape_length t_tape_bytes) o.1 := by
  refine mtI.of (cc := cX2_readStop) (maxL := 1) (ret := (some .boolean)) (by decide) rfl (Nat.le_of_ble_eq_true rfl) ?_
  intro p e s m below meth c A Q av hav hQ hx hb hr hml hown hts hlocks hK hP hD hA hS ls hl
  have hown : s.vm.findClass RX2 = some m.cls := hown
  have hl : lv_has ls 1 [(0, .ref qt)] := hl
  unfold Rdr_readStop at hM
  have inX2w : ∀ w ∈ u_ws RX2 TX2 9, w ∈ wsX2_readStop := by decide +kernel
  have hf46 := hts (.fieldLink RX2 46 "LetsIn$Reader" "sort" "I") (by decide +kernel)
  refine lv_aload_n hx hb dX2_readStop_0 rfl (lv_at hl 0 rfl) ?_
  obtain ⟨o_1, hc, hM⟩ := bind_so hM
  refine mr_callVi (As := []) (rest := []) (wr := []) ⟨hx, hb, hml, hown, hts⟩ (k_Rdr_readToken l D cI cB cZ cS cT qt qt_draft qt_draft_kind qt_draft_father qt_draft_comes qt_draft_wants qt_draft_cost qt_draft_coins qt_draft_debts qt_tape qt_tape_bytes t_fault t_at t_sort t_start t_value t_lawTold t_countersTold t_draft_people t_draft_law t_draft_counters t_draft_kind t_draft_father t_draft_comes t_draft_wants t_draft_cost t_draft_coins t_draft_debts t_tape_length t_tape_bytes  _ hc) (cwV 0 hts gX2_readStop_X2_readToken rfl rfl rfl (by decide +kernel) ⟨Nat.le_of_ble_eq_true rfl, Nat.le_of_ble_eq_true rfl⟩) hK hP hD hS hA [0, 1, 2, 3, 4, 5, 6, 7, 8, 9, 10] [] [0, 1, 2, 3, 4, 5, 6, 7, 8, 9, 10] (w_Rdr cI cB cZ cS cT qt qt_draft qt_draft_kind qt_draft_father qt_draft_comes qt_draft_wants qt_draft_cost qt_draft_coins qt_draft_debts qt_tape qt_tape_bytes o_1.2.1 o_1.2.2.1 o_1.2.2.2.1 o_1.2.2.2.2.1 o_1.2.2.2.2.2 t_lawTold t_countersTold t_draft_people t_draft_law t_draft_counters t_draft_kind t_draft_father t_draft_comes t_draft_wants t_draft_cost t_draft_coins t_draft_debts t_tape_length t_tape_bytes) rfl rfl rfl rfl (by decide) rfl rfl 2 0 rfl rfl rfl rfl hl.1 rfl (Nat.le_of_ble_eq_true rfl) dX2_readStop_1 ⟨Nat.zero_le _, Nat.zero_le _⟩ (fun H locs hP hD hS => ?_)
  refine mr_if_eq (tgt := 27) hx hb hM dX2_readStop_4 (by decide) (fun hM => ?_) (fun hM => ?_)
  · refine lv_iconst (v := 0) hx hb dX2_readStop_27 (by decide) ?_
    have hM := Option.some.inj hM
    subst hM
    exact mr_zret hx hb hr (by decide) hlocks hQ hP hD hS rfl dX2_readStop_28
  · refine lv_aload_n hx hb dX2_readStop_7 rfl (lv_at hl 0 rfl) ?_
    refine va_get (D := D) (ci := 2) (v := .int o_1.2.2.2.1) (C := RX2) (T := TX2) (N := 9) hx hb hts inX2w hown hK hP 0 rfl rfl 4 (by decide) hf46 (fun _ h9 => h9) rfl dX2_readStop_8 ?_
    refine lv_iconst (v := 3) hx hb dX2_readStop_11 (by decide) ?_
    refine mr_icmp_eq (tgt := 23) hx hb hM dX2_readStop_12 (by decide) (fun hM => ?_) (fun hM => ?_)
    · refine lv_iconst (v := 1) hx hb dX2_readStop_23 (by decide) ?_
      refine lv_goto (tgt := 28) hx hb dX2_readStop_24 (by decide) ?_
      have hM := Option.some.inj hM
      subst hM
      exact mr_zret hx hb hr (by decide) hlocks hQ hP hD hS rfl dX2_readStop_28
    · refine lv_aload_n hx hb dX2_readStop_15 rfl (lv_at hl 0 rfl) ?_
      refine lv_iconst (v := 2) hx hb dX2_readStop_16 (by decide) ?_
      obtain ⟨o_2, hc, hM⟩ := bind_so hM
      refine mr_callVi (As := [.int 2]) (rest := []) (wr := []) ⟨hx, hb, hml, hown, hts⟩ (k_Rdr_isFaulty l D cI cB cZ cS cT qt qt_draft qt_draft_kind qt_draft_father qt_draft_comes qt_draft_wants qt_draft_cost qt_draft_coins qt_draft_debts qt_tape qt_tape_bytes o_1.2.1 o_1.2.2.1 o_1.2.2.2.1 o_1.2.2.2.2.1 o_1.2.2.2.2.2 t_lawTold t_countersTold t_draft_people t_draft_law t_draft_counters t_draft_kind t_draft_father t_draft_comes t_draft_wants t_draft_cost t_draft_coins t_draft_debts t_tape_length t_tape_bytes 2 _ hc) (cwV 1 hts gX2_readStop_X2_isFaulty rfl rfl rfl (by decide +kernel) ⟨Nat.le_of_ble_eq_true rfl, Nat.le_of_ble_eq_true rfl⟩) hK hP hD hS hA [0, 1, 2, 3, 4, 5, 6, 7, 8, 9, 10] [] [0, 1, 2, 3, 4, 5, 6, 7, 8, 9, 10] (w_Rdr cI cB cZ cS cT qt qt_draft qt_draft_kind qt_draft_father qt_draft_comes qt_draft_wants qt_draft_cost qt_draft_coins qt_draft_debts qt_tape qt_tape_bytes o_2.2 o_1.2.2.1 o_1.2.2.2.1 o_1.2.2.2.2.1 o_1.2.2.2.2.2 t_lawTold t_countersTold t_draft_people t_draft_law t_draft_counters t_draft_kind t_draft_father t_draft_comes t_draft_wants t_draft_cost t_draft_coins t_draft_debts t_tape_length t_tape_bytes) rfl rfl rfl rfl (by decide) rfl rfl 2 0 rfl rfl rfl rfl hl.1 rfl (Nat.le_of_ble_eq_true rfl) dX2_readStop_17 ⟨Nat.zero_le _, Nat.zero_le _⟩ (fun H locs hP hD hS => ?_)
      refine mr_if_eq (tgt := 27) hx hb hM dX2_readStop_20 (by decide) (fun hM => ?_) (fun hM => ?_)
      · refine lv_iconst (v := 0) hx hb dX2_readStop_27 (by decide) ?_
        have hM := Option.some.inj hM
        subst hM
        exact mr_zret hx hb hr (by decide) hlocks hQ hP hD hS rfl dX2_readStop_28
      · refine lv_iconst (v := 1) hx hb dX2_readStop_23 (by decide) ?_
        refine lv_goto (tgt := 28) hx hb dX2_readStop_24 (by decide) ?_
        have hM := Option.some.inj hM
        subst hM
        exact mr_zret hx hb hr (by decide) hlocks hQ hP hD hS rfl dX2_readStop_28

abbrev rmX2_readLaw : Room := { frames := 3, cells := 0, slots := 0, locals := 63 }
set_option maxHeartbeats 40000000 in
set_option maxRecDepth 100000 in
theorem k_Rdr_readLaw (l : Launch) (D : va_G) (cI cB cZ cS cT : ClassId) (qt qt_draft qt_draft_kind qt_draft_father qt_draft_comes qt_draft_wants qt_draft_cost qt_draft_coins qt_draft_debts qt_tape qt_tape_bytes : Nat) (t_fault t_at t_sort t_start t_value t_lawTold t_countersTold t_draft_people t_draft_law t_draft_counters : Int32) (t_draft_kind t_draft_father t_draft_comes t_draft_wants t_draft_cost t_draft_coins t_draft_debts : Nat → Int32) (t_tape_length : Int32) (t_tape_bytes : Nat → Int32)  (o : Int32 × Int32 × Int32 × Int32 × Int32 × Int32 × Int32 × Int32) (hM : Rdr_readLaw t_fault t_at t_sort t_start t_value t_lawTold t_draft_law t_tape_length t_tape_bytes = some o) : mtI l yX2_readLaw wsX2_readLaw rmX2_readLaw D (tys5 cI cB cZ cS cT) [.ref qt] (w_Rdr cI cB cZ cS cT qt qt_draft qt_draft_kind qt_draft_father qt_draft_comes qt_draft_wants qt_draft_cost qt_draft_coins qt_draft_debts qt_tape qt_tape_bytes t_fault t_at t_sort t_start t_value t_lawTold t_countersTold t_draft_people t_draft_law t_draft_counters t_draft_kind t_draft_father t_draft_comes t_draft_wants t_draft_cost t_draft_coins t_draft_debts t_tape_length t_tape_bytes) (w_Rdr cI cB cZ cS cT qt qt_draft qt_draft_kind qt_draft_father qt_draft_comes qt_draft_wants qt_draft_cost qt_draft_coins qt_draft_debts qt_tape qt_tape_bytes o.2.1 o.2.2.1 o.2.2.2.1 o.2.2.2.2.1 o.2.2.2.2.2.1 o.2.2.2.2.2.2.1 t_countersTold t_draft_people o.2.2.2.2.2.2.2 t_draft_counters t_draft_kind t_draft_father t_draft_comes t_draft_wants t_draft_cost t_draft_coins t_draft_debts t_tape_length t_tape_bytes) o.1 := by
  refine mtI.of (cc := cX2_readLaw) (maxL := 1) (ret := (some .boolean)) (by decide) rfl (Nat.le_of_ble_eq_true rfl) ?_
  intro p e s m below meth c A Q av hav hQ hx hb hr hml hown hts hlocks hK hP hD hA hS ls hl
  have hown : s.vm.findClass RX2 = some m.cls := hown
  have hl : lv_has ls 1 [(0, .ref qt)] := hl
  unfold Rdr_readLaw at hM
  have inX2w : ∀ w ∈ u_ws RX2 TX2 9, w ∈ wsX2_readLaw := by decide +kernel
  have inX7w : ∀ w ∈ u_ws RX7 TX7 10, w ∈ wsX2_readLaw := by decide +kernel
  have hf32 := hts (.fieldLink RX2 32 "LetsIn$Reader" "lawTold" "Z") (by decide +kernel)
  have hf21 := hts (.fieldLink RX2 21 "LetsIn$Reader" "draft" "LLetsIn$Town;") (by decide +kernel)
  have hf90 := hts (.fieldLink RX2 90 "LetsIn$Reader" "value" "I") (by decide +kernel)
  have hf93 := hts (.fieldLink RX2 93 "LetsIn$Town" "law" "I") (by decide +kernel)
  refine lv_aload_n hx hb dX2_readLaw_0 rfl (lv_at hl 0 rfl) ?_
  refine va_get (D := D) (ci := 2) (v := .int t_lawTold) (C := RX2) (T := TX2) (N := 9) hx hb hts inX2w hown hK hP 0 rfl rfl 7 (by decide) hf32 (fun _ h9 => h9) rfl dX2_readLaw_1 ?_
  refine mr_if_eq (tgt := 13) hx hb hM dX2_readLaw_4 (by decide) (fun hM => ?_) (fun hM => ?_)
  · refine lv_aload_n hx hb dX2_readLaw_13 rfl (lv_at hl 0 rfl) ?_
    refine lv_iconst (v := 1) hx hb dX2_readLaw_14 (by decide) ?_
    refine mr_put (D := D) (ci := 2) (v := .int 1) (ty := .boolean) (C := RX2) (T := TX2) (N := 9) hx hb hts inX2w tyX2 tyX2_ok nmX2 hown hK hP hD hS 0 rfl rfl 7 (by decide) hf32 (fun _ h9 => h9) rfl (by decide +kernel) rfl rfl (Nat.le_of_ble_eq_true rfl) dX2_readLaw_15 (w_Rdr cI cB cZ cS cT qt qt_draft qt_draft_kind qt_draft_father qt_draft_comes qt_draft_wants qt_draft_cost qt_draft_coins qt_draft_debts qt_tape qt_tape_bytes t_fault t_at t_sort t_start t_value 1 t_countersTold t_draft_people t_draft_law t_draft_counters t_draft_kind t_draft_father t_draft_comes t_draft_wants t_draft_cost t_draft_coins t_draft_debts t_tape_length t_tape_bytes) rfl (fun H locs hP hD hS => ?_)
    refine lv_aload_n hx hb dX2_readLaw_18 rfl (lv_at hl 0 rfl) ?_
    refine lv_iconst (v := 0) hx hb dX2_readLaw_19 (by decide) ?_
    refine lv_iconst (v := 1) hx hb dX2_readLaw_20 (by decide) ?_
    obtain ⟨o_1, hc, hM⟩ := bind_so hM
    refine mr_callVi (As := [.int 0, .int 1]) (rest := []) (wr := []) ⟨hx, hb, hml, hown, hts⟩ (k_Rdr_readNumber l D cI cB cZ cS cT qt qt_draft qt_draft_kind qt_draft_father qt_draft_comes qt_draft_wants qt_draft_cost qt_draft_coins qt_draft_debts qt_tape qt_tape_bytes t_fault t_at t_sort t_start t_value 1 t_countersTold t_draft_people t_draft_law t_draft_counters t_draft_kind t_draft_father t_draft_comes t_draft_wants t_draft_cost t_draft_coins t_draft_debts t_tape_length t_tape_bytes 0 1 _ hc) (cwV 2 hts gX2_readLaw_X2_readNumber rfl rfl rfl (by decide +kernel) ⟨Nat.le_of_ble_eq_true rfl, Nat.le_of_ble_eq_true rfl⟩) hK hP hD hS hA [0, 1, 2, 3, 4, 5, 6, 7, 8, 9, 10] [] [0, 1, 2, 3, 4, 5, 6, 7, 8, 9, 10] (w_Rdr cI cB cZ cS cT qt qt_draft qt_draft_kind qt_draft_father qt_draft_comes qt_draft_wants qt_draft_cost qt_draft_coins qt_draft_debts qt_tape qt_tape_bytes o_1.2.1 o_1.2.2.1 o_1.2.2.2.1 o_1.2.2.2.2.1 o_1.2.2.2.2.2 1 t_countersTold t_draft_people t_draft_law t_draft_counters t_draft_kind t_draft_father t_draft_comes t_draft_wants t_draft_cost t_draft_coins t_draft_debts t_tape_length t_tape_bytes) rfl rfl rfl rfl (by decide) rfl rfl 2 0 rfl rfl rfl rfl hl.1 rfl (Nat.le_of_ble_eq_true rfl) dX2_readLaw_21 ⟨Nat.zero_le _, Nat.zero_le _⟩ (fun H locs hP hD hS => ?_)
    refine mr_if_ne (tgt := 29) hx hb hM dX2_readLaw_24 (by decide) (fun hM => ?_) (fun hM => ?_)
    · refine lv_aload_n hx hb dX2_readLaw_29 rfl (lv_at hl 0 rfl) ?_
      refine va_get (D := D) (ci := 2) (v := .ref qt_draft) (C := RX2) (T := TX2) (N := 9) hx hb hts inX2w hown hK hP 0 rfl rfl 1 (by decide) hf21 (fun _ h9 => h9) rfl dX2_readLaw_30 ?_
      refine lv_aload_n hx hb dX2_readLaw_33 rfl (lv_at hl 0 rfl) ?_
      refine va_get (D := D) (ci := 2) (v := .int o_1.2.2.2.2.2) (C := RX2) (T := TX2) (N := 9) hx hb hts inX2w hown hK hP 0 rfl rfl 6 (by decide) hf90 (fun _ h9 => h9) rfl dX2_readLaw_34 ?_
      refine mr_put (D := D) (ci := 7) (v := .int o_1.2.2.2.2.2) (ty := .int) (C := RX7) (T := TX7) (N := 10) hx hb hts inX7w tyX7 tyX7_ok nmX7 hown hK hP hD hS 1 rfl rfl 1 (by decide) hf93 (fun _ h9 => h9) rfl (by decide +kernel) rfl rfl (Nat.le_of_ble_eq_true rfl) dX2_readLaw_37 (w_Rdr cI cB cZ cS cT qt qt_draft qt_draft_kind qt_draft_father qt_draft_comes qt_draft_wants qt_draft_cost qt_draft_coins qt_draft_debts qt_tape qt_tape_bytes o_1.2.1 o_1.2.2.1 o_1.2.2.2.1 o_1.2.2.2.2.1 o_1.2.2.2.2.2 1 t_countersTold t_draft_people o_1.2.2.2.2.2 t_draft_counters t_draft_kind t_draft_father t_draft_comes t_draft_wants t_draft_cost t_draft_coins t_draft_debts t_tape_length t_tape_bytes) rfl (fun H locs hP hD hS => ?_)
      refine lv_aload_n hx hb dX2_readLaw_40 rfl (lv_at hl 0 rfl) ?_
      obtain ⟨o_2, hc, hM⟩ := bind_so hM
      refine mr_callVi (As := []) (rest := []) (wr := []) ⟨hx, hb, hml, hown, hts⟩ (k_Rdr_readStop l D cI cB cZ cS cT qt qt_draft qt_draft_kind qt_draft_father qt_draft_comes qt_draft_wants qt_draft_cost qt_draft_coins qt_draft_debts qt_tape qt_tape_bytes o_1.2.1 o_1.2.2.1 o_1.2.2.2.1 o_1.2.2.2.2.1 o_1.2.2.2.2.2 1 t_countersTold t_draft_people o_1.2.2.2.2.2 t_draft_counters t_draft_kind t_draft_father t_draft_comes t_draft_wants t_draft_cost t_draft_coins t_draft_debts t_tape_length t_tape_bytes  _ hc) (cwV 0 hts gX2_readLaw_X2_readStop rfl rfl rfl (by decide +kernel) ⟨Nat.le_of_ble_eq_true rfl, Nat.le_of_ble_eq_true rfl⟩) hK hP hD hS hA [0, 1, 2, 3, 4, 5, 6, 7, 8, 9, 10] [] [0, 1, 2, 3, 4, 5, 6, 7, 8, 9, 10] (w_Rdr cI cB cZ cS cT qt qt_draft qt_draft_kind qt_draft_father qt_draft_comes qt_draft_wants qt_draft_cost qt_draft_coins qt_draft_debts qt_tape qt_tape_bytes o_2.2.1 o_2.2.2.1 o_2.2.2.2.1 o_2.2.2.2.2.1 o_2.2.2.2.2.2 1 t_countersTold t_draft_people o_1.2.2.2.2.2 t_draft_counters t_draft_kind t_draft_father t_draft_comes t_draft_wants t_draft_cost t_draft_coins t_draft_debts t_tape_length t_tape_bytes) rfl rfl rfl rfl (by decide) rfl rfl 2 0 rfl rfl rfl rfl hl.1 rfl (Nat.le_of_ble_eq_true rfl) dX2_readLaw_41 ⟨Nat.zero_le _, Nat.zero_le _⟩ (fun H locs hP hD hS => ?_)
      obtain ⟨hz, hM⟩ := guard_so hM
      have hM := Option.some.inj hM
      subst hM
      exact mr_zret hx hb hr (narrow_z hz) hlocks hQ hP hD hS rfl dX2_readLaw_44
    · refine lv_iconst (v := 0) hx hb dX2_readLaw_27 (by decide) ?_
      have hM := Option.some.inj hM
      subst hM
      exact mr_zret hx hb hr (by decide) hlocks hQ hP hD hS rfl dX2_readLaw_28
  · refine lv_aload_n hx hb dX2_readLaw_7 rfl (lv_at hl 0 rfl) ?_
    refine lv_iconst (v := 4) hx hb dX2_readLaw_8 (by decide) ?_
    obtain ⟨o_3, hc, hM⟩ := bind_so hM
    refine mr_callVi (As := [.int 4]) (rest := []) (wr := []) ⟨hx, hb, hml, hown, hts⟩ (k_Rdr_isFaulty l D cI cB cZ cS cT qt qt_draft qt_draft_kind qt_draft_father qt_draft_comes qt_draft_wants qt_draft_cost qt_draft_coins qt_draft_debts qt_tape qt_tape_bytes t_fault t_at t_sort t_start t_value t_lawTold t_countersTold t_draft_people t_draft_law t_draft_counters t_draft_kind t_draft_father t_draft_comes t_draft_wants t_draft_cost t_draft_coins t_draft_debts t_tape_length t_tape_bytes 4 _ hc) (cwV 1 hts gX2_readLaw_X2_isFaulty rfl rfl rfl (by decide +kernel) ⟨Nat.le_of_ble_eq_true rfl, Nat.le_of_ble_eq_true rfl⟩) hK hP hD hS hA [0, 1, 2, 3, 4, 5, 6, 7, 8, 9, 10] [] [0, 1, 2, 3, 4, 5, 6, 7, 8, 9, 10] (w_Rdr cI cB cZ cS cT qt qt_draft qt_draft_kind qt_draft_father qt_draft_comes qt_draft_wants qt_draft_cost qt_draft_coins qt_draft_debts qt_tape qt_tape_bytes o_3.2 t_at t_sort t_start t_value t_lawTold t_countersTold t_draft_people t_draft_law t_draft_counters t_draft_kind t_draft_father t_draft_comes t_draft_wants t_draft_cost t_draft_coins t_draft_debts t_tape_length t_tape_bytes) rfl rfl rfl rfl (by decide) rfl rfl 2 0 rfl rfl rfl rfl hl.1 rfl (Nat.le_of_ble_eq_true rfl) dX2_readLaw_9 ⟨Nat.zero_le _, Nat.zero_le _⟩ (fun H locs hP hD hS => ?_)
    obtain ⟨hz, hM⟩ := guard_so hM
    have hM := Option.some.inj hM
    subst hM
    exact mr_zret hx hb hr (narrow_z hz) hlocks hQ hP hD hS rfl dX2_readLaw_12

abbrev rmX2_readCounters : Room := { frames := 3, cells := 0, slots := 0, locals := 63 }
set_option maxHeartbeats 40000000 in
set_option maxRecDepth 100000 in
theorem k_Rdr_readCounters (l : Launch) (D : va_G) (cI cB cZ cS cT : ClassId) (qt qt_draft qt_draft_kind qt_draft_father qt_draft_comes qt_draft_wants qt_draft_cost qt_draft_coins qt_draft_debts qt_tape qt_tape_bytes : Nat) (t_fault t_at t_sort t_start t_value t_lawTold t_countersTold t_draft_people t_draft_law t_draft_counters : Int32) (t_draft_kind t_draft_father t_draft_comes t_draft_wants t_draft_cost t_draft_coins t_draft_debts : Nat → Int32) (t_tape_length : Int32) (t_tape_bytes : Nat → Int32)  (o : Int32 × Int32 × Int32 × Int32 × Int32 × Int32 × Int32 × Int32) (hM : Rdr_readCounters t_fault t_at t_sort t_start t_value t_countersTold t_draft_counters t_tape_length t_tape_bytes = some o) : mtI l yX2_readCounters wsX2_readCounters rmX2_readCounters D (tys5 cI cB cZ cS cT) [.ref qt] (w_Rdr cI cB cZ cS cT qt qt_draft qt_draft_kind qt_draft_father qt_draft_comes qt_draft_wants qt_draft_cost qt_draft_coins qt_draft_debts qt_tape qt_tape_bytes t_fault t_at t_sort t_start t_value t_lawTold t_countersTold t_draft_people t_draft_law t_draft_counters t_draft_kind t_draft_father t_draft_comes t_draft_wants t_draft_cost t_draft_coins t_draft_debts t_tape_length t_tape_bytes) (w_Rdr cI cB cZ cS cT qt qt_draft qt_draft_kind qt_draft_father qt_draft_comes qt_draft_wants qt_draft_cost qt_draft_coins qt_draft_debts qt_tape qt_tape_bytes o.2.1 o.2.2.1 o.2.2.2.1 o.2.2.2.2.1 o.2.2.2.2.2.1 t_lawTold o.2.2.2.2.2.2.1 t_draft_people t_draft_law o.2.2.2.2.2.2.2 t_draft_kind t_draft_father t_draft_comes t_draft_wants t_draft_cost t_draft_coins t_draft_debts t_tape_length t_tape_bytes) o.1 := by
  refine mtI.of (cc := cX2_readCounters) (maxL := 1) (ret := (some .boolean)) (by decide) rfl (Nat.le_of_ble_eq_true rfl) ?_
  intro p e s m below meth c A Q av hav hQ hx hb hr hml hown hts hlocks hK hP hD hA hS ls hl
  have hown : s.vm.findClass RX2 = some m.cls := hown
  have hl : lv_has ls 1 [(0, .ref qt)] := hl
  unfold Rdr_readCounters at hM
  have inX2w : ∀ w ∈ u_ws RX2 TX2 9, w ∈ wsX2_readCounters := by decide +kernel
  have inX7w : ∀ w ∈ u_ws RX7 TX7 10, w ∈ wsX2_readCounters := by decide +kernel
  have hf36 := hts (.fieldLink RX2 36 "LetsIn$Reader" "countersTold" "Z") (by decide +kernel)
  have hf21 := hts (.fieldLink RX2 21 "LetsIn$Reader" "draft" "LLetsIn$Town;") (by decide +kernel)
  have hf90 := hts (.fieldLink RX2 90 "LetsIn$Reader" "value" "I") (by decide +kernel)
  have hf98 := hts (.fieldLink RX2 98 "LetsIn$Town" "counters" "I") (by decide +kernel)
  refine lv_aload_n hx hb dX2_readCounters_0 rfl (lv_at hl 0 rfl) ?_
  refine va_get (D := D) (ci := 2) (v := .int t_countersTold) (C := RX2) (T := TX2) (N := 9) hx hb hts inX2w hown hK hP 0 rfl rfl 8 (by decide) hf36 (fun _ h9 => h9) rfl dX2_readCounters_1 ?_
  refine mr_if_eq (tgt := 13) hx hb hM dX2_readCounters_4 (by decide) (fun hM => ?_) (fun hM => ?_)
  · refine lv_aload_n hx hb dX2_readCounters_13 rfl (lv_at hl 0 rfl) ?_
    refine lv_iconst (v := 1) hx hb dX2_readCounters_14 (by decide) ?_
    refine mr_put (D := D) (ci := 2) (v := .int 1) (ty := .boolean) (C := RX2) (T := TX2) (N := 9) hx hb hts inX2w tyX2 tyX2_ok nmX2 hown hK hP hD hS 0 rfl rfl 8 (by decide) hf36 (fun _ h9 => h9) rfl (by decide +kernel) rfl rfl (Nat.le_of_ble_eq_true rfl) dX2_readCounters_15 (w_Rdr cI cB cZ cS cT qt qt_draft qt_draft_kind qt_draft_father qt_draft_comes qt_draft_wants qt_draft_cost qt_draft_coins qt_draft_debts qt_tape qt_tape_bytes t_fault t_at t_sort t_start t_value t_lawTold 1 t_draft_people t_draft_law t_draft_counters t_draft_kind t_draft_father t_draft_comes t_draft_wants t_draft_cost t_draft_coins t_draft_debts t_tape_length t_tape_bytes) rfl (fun H locs hP hD hS => ?_)
    refine lv_aload_n hx hb dX2_readCounters_18 rfl (lv_at hl 0 rfl) ?_
    refine lv_iconst (v := 1) hx hb dX2_readCounters_19 (by decide) ?_
    refine lv_iconst (v := 2) hx hb dX2_readCounters_20 (by decide) ?_
    obtain ⟨o_1, hc, hM⟩ := bind_so hM
    refine mr_callVi (As := [.int 1, .int 2]) (rest := []) (wr := []) ⟨hx, hb, hml, hown, hts⟩ (k_Rdr_readNumber l D cI cB cZ cS cT qt qt_draft qt_draft_kind qt_draft_father qt_draft_comes qt_draft_wants qt_draft_cost qt_draft_coins qt_draft_debts qt_tape qt_tape_bytes t_fault t_at t_sort t_start t_value t_lawTold 1 t_draft_people t_draft_law t_draft_counters t_draft_kind t_draft_father t_draft_comes t_draft_wants t_draft_cost t_draft_coins t_draft_debts t_tape_length t_tape_bytes 1 2 _ hc) (cwV 2 hts gX2_readCounters_X2_readNumber rfl rfl rfl (by decide +kernel) ⟨Nat.le_of_ble_eq_true rfl, Nat.le_of_ble_eq_true rfl⟩) hK hP hD hS hA [0, 1, 2, 3, 4, 5, 6, 7, 8, 9, 10] [] [0, 1, 2, 3, 4, 5, 6, 7, 8, 9, 10] (w_Rdr cI cB cZ cS cT qt qt_draft qt_draft_kind qt_draft_father qt_draft_comes qt_draft_wants qt_draft_cost qt_draft_coins qt_draft_debts qt_tape qt_tape_bytes o_1.2.1 o_1.2.2.1 o_1.2.2.2.1 o_1.2.2.2.2.1 o_1.2.2.2.2.2 t_lawTold 1 t_draft_people t_draft_law t_draft_counters t_draft_kind t_draft_father t_draft_comes t_draft_wants t_draft_cost t_draft_coins t_draft_debts t_tape_length t_tape_bytes) rfl rfl rfl rfl (by decide) rfl rfl 2 0 rfl rfl rfl rfl hl.1 rfl (Nat.le_of_ble_eq_true rfl) dX2_readCounters_21 ⟨Nat.zero_le _, Nat.zero_le _⟩ (fun H locs hP hD hS => ?_)
    refine mr_if_ne (tgt := 29) hx hb hM dX2_readCounters_24 (by decide) (fun hM => ?_) (fun hM => ?_)
    · refine lv_aload_n hx hb dX2_readCounters_29 rfl (lv_at hl 0 rfl) ?_
      refine va_get (D := D) (ci := 2) (v := .ref qt_draft) (C := RX2) (T := TX2) (N := 9) hx hb hts inX2w hown hK hP 0 rfl rfl 1 (by decide) hf21 (fun _ h9 => h9) rfl dX2_readCounters_30 ?_
      refine lv_aload_n hx hb dX2_readCounters_33 rfl (lv_at hl 0 rfl) ?_
      refine va_get (D := D) (ci := 2) (v := .int o_1.2.2.2.2.2) (C := RX2) (T := TX2) (N := 9) hx hb hts inX2w hown hK hP 0 rfl rfl 6 (by decide) hf90 (fun _ h9 => h9) rfl dX2_readCounters_34 ?_
      refine mr_put (D := D) (ci := 7) (v := .int o_1.2.2.2.2.2) (ty := .int) (C := RX7) (T := TX7) (N := 10) hx hb hts inX7w tyX7 tyX7_ok nmX7 hown hK hP hD hS 1 rfl rfl 2 (by decide) hf98 (fun _ h9 => h9) rfl (by decide +kernel) rfl rfl (Nat.le_of_ble_eq_true rfl) dX2_readCounters_37 (w_Rdr cI cB cZ cS cT qt qt_draft qt_draft_kind qt_draft_father qt_draft_comes qt_draft_wants qt_draft_cost qt_draft_coins qt_draft_debts qt_tape qt_tape_bytes o_1.2.1 o_1.2.2.1 o_1.2.2.2.1 o_1.2.2.2.2.1 o_1.2.2.2.2.2 t_lawTold 1 t_draft_people t_draft_law o_1.2.2.2.2.2 t_draft_kind t_draft_father t_draft_comes t_draft_wants t_draft_cost t_draft_coins t_draft_debts t_tape_length t_tape_bytes) rfl (fun H locs hP hD hS => ?_)
      refine lv_aload_n hx hb dX2_readCounters_40 rfl (lv_at hl 0 rfl) ?_
      obtain ⟨o_2, hc, hM⟩ := bind_so hM
      refine mr_callVi (As := []) (rest := []) (wr := []) ⟨hx, hb, hml, hown, hts⟩ (k_Rdr_readStop l D cI cB cZ cS cT qt qt_draft qt_draft_kind qt_draft_father qt_draft_comes qt_draft_wants qt_draft_cost qt_draft_coins qt_draft_debts qt_tape qt_tape_bytes o_1.2.1 o_1.2.2.1 o_1.2.2.2.1 o_1.2.2.2.2.1 o_1.2.2.2.2.2 t_lawTold 1 t_draft_people t_draft_law o_1.2.2.2.2.2 t_draft_kind t_draft_father t_draft_comes t_draft_wants t_draft_cost t_draft_coins t_draft_debts t_tape_length t_tape_bytes  _ hc) (cwV 0 hts gX2_readCounters_X2_readStop rfl rfl rfl (by decide +kernel) ⟨Nat.le_of_ble_eq_true rfl, Nat.le_of_ble_eq_true rfl⟩) hK hP hD hS hA [0, 1, 2, 3, 4, 5, 6, 7, 8, 9, 10] [] [0, 1, 2, 3, 4, 5, 6, 7, 8, 9, 10] (w_Rdr cI cB cZ cS cT qt qt_draft qt_draft_kind qt_draft_father qt_draft_comes qt_draft_wants qt_draft_cost qt_draft_coins qt_draft_debts qt_tape qt_tape_bytes o_2.2.1 o_2.2.2.1 o_2.2.2.2.1 o_2.2.2.2.2.1 o_2.2.2.2.2.2 t_lawTold 1 t_draft_people t_draft_law o_1.2.2.2.2.2 t_draft_kind t_draft_father t_draft_comes t_draft_wants t_draft_cost t_draft_coins t_draft_debts t_tape_length t_tape_bytes) rfl rfl rfl rfl (by decide) rfl rfl 2 0 rfl rfl rfl rfl hl.1 rfl (Nat.le_of_ble_eq_true rfl) dX2_readCounters_41 ⟨Nat.zero_le _, Nat.zero_le _⟩ (fun H locs hP hD hS => ?_)
      obtain ⟨hz, hM⟩ := guard_so hM
      have hM := Option.some.inj hM
      subst hM
      exact mr_zret hx hb hr (narrow_z hz) hlocks hQ hP hD hS rfl dX2_readCounters_44
    · refine lv_iconst (v := 0) hx hb dX2_readCounters_27 (by decide) ?_
      have hM := Option.some.inj hM
      subst hM
      exact mr_zret hx hb hr (by decide) hlocks hQ hP hD hS rfl dX2_readCounters_28
  · refine lv_aload_n hx hb dX2_readCounters_7 rfl (lv_at hl 0 rfl) ?_
    refine lv_iconst (v := 4) hx hb dX2_readCounters_8 (by decide) ?_
    obtain ⟨o_3, hc, hM⟩ := bind_so hM
    refine mr_callVi (As := [.int 4]) (rest := []) (wr := []) ⟨hx, hb, hml, hown, hts⟩ (k_Rdr_isFaulty l D cI cB cZ cS cT qt qt_draft qt_draft_kind qt_draft_father qt_draft_comes qt_draft_wants qt_draft_cost qt_draft_coins qt_draft_debts qt_tape qt_tape_bytes t_fault t_at t_sort t_start t_value t_lawTold t_countersTold t_draft_people t_draft_law t_draft_counters t_draft_kind t_draft_father t_draft_comes t_draft_wants t_draft_cost t_draft_coins t_draft_debts t_tape_length t_tape_bytes 4 _ hc) (cwV 1 hts gX2_readCounters_X2_isFaulty rfl rfl rfl (by decide +kernel) ⟨Nat.le_of_ble_eq_true rfl, Nat.le_of_ble_eq_true rfl⟩) hK hP hD hS hA [0, 1, 2, 3, 4, 5, 6, 7, 8, 9, 10] [] [0, 1, 2, 3, 4, 5, 6, 7, 8, 9, 10] (w_Rdr cI cB cZ cS cT qt qt_draft qt_draft_kind qt_draft_father qt_draft_comes qt_draft_wants qt_draft_cost qt_draft_coins qt_draft_debts qt_tape qt_tape_bytes o_3.2 t_at t_sort t_start t_value t_lawTold t_countersTold t_draft_people t_draft_law t_draft_counters t_draft_kind t_draft_father t_draft_comes t_draft_wants t_draft_cost t_draft_coins t_draft_debts t_tape_length t_tape_bytes) rfl rfl rfl rfl (by decide) rfl rfl 2 0 rfl rfl rfl rfl hl.1 rfl (Nat.le_of_ble_eq_true rfl) dX2_readCounters_9 ⟨Nat.zero_le _, Nat.zero_le _⟩ (fun H locs hP hD hS => ?_)
    obtain ⟨hz, hM⟩ := guard_so hM
    have hM := Option.some.inj hM
    subst hM
    exact mr_zret hx hb hr (narrow_z hz) hlocks hQ hP hD hS rfl dX2_readCounters_12

abbrev rmX2_readDebt : Room := { frames := 3, cells := 0, slots := 0, locals := 63 }
set_option maxHeartbeats 40000000 in
set_option maxRecDepth 100000 in
theorem k_Rdr_readDebt (l : Launch) (D : va_G) (cI cB cZ cS cT : ClassId) (qt qt_draft qt_draft_kind qt_draft_father qt_draft_comes qt_draft_wants qt_draft_cost qt_draft_coins qt_draft_debts qt_tape qt_tape_bytes : Nat) (t_fault t_at t_sort t_start t_value t_lawTold t_countersTold t_draft_people t_draft_law t_draft_counters : Int32) (t_draft_kind t_draft_father t_draft_comes t_draft_wants t_draft_cost t_draft_coins t_draft_debts : Nat → Int32) (t_tape_length : Int32) (t_tape_bytes : Nat → Int32)  (o : Int32 × Int32 × Int32 × Int32 × Int32 × Int32 × (Nat → Int32)) (hM : Rdr_readDebt t_fault t_at t_draft_debts t_tape_length t_tape_bytes = some o) : mtI l yX2_readDebt wsX2_readDebt rmX2_readDebt D (tys5 cI cB cZ cS cT) [.ref qt] (w_Rdr cI cB cZ cS cT qt qt_draft qt_draft_kind qt_draft_father qt_draft_comes qt_draft_wants qt_draft_cost qt_draft_coins qt_draft_debts qt_tape qt_tape_bytes t_fault t_at t_sort t_start t_value t_lawTold t_countersTold t_draft_people t_draft_law t_draft_counters t_draft_kind t_draft_father t_draft_comes t_draft_wants t_draft_cost t_draft_coins t_draft_debts t_tape_length t_tape_bytes) (w_Rdr cI cB cZ cS cT qt qt_draft qt_draft_kind qt_draft_father qt_draft_comes qt_draft_wants qt_draft_cost qt_draft_coins qt_draft_debts qt_tape qt_tape_bytes o.2.1 o.2.2.1 o.2.2.2.1 o.2.2.2.2.1 o.2.2.2.2.2.1 t_lawTold t_countersTold t_draft_people t_draft_law t_draft_counters t_draft_kind t_draft_father t_draft_comes t_draft_wants t_draft_cost t_draft_coins o.2.2.2.2.2.2 t_tape_length t_tape_bytes) o.1 := by
  refine mtI.of (cc := cX2_readDebt) (maxL := 3) (ret := (some .boolean)) (by decide) rfl (Nat.le_of_ble_eq_true rfl) ?_
  intro p e s m below meth c A Q av hav hQ hx hb hr hml hown hts hlocks hK hP hD hA hS ls hl
  have hown : s.vm.findClass RX2 = some m.cls := hown
  have hl : lv_has ls 3 [(0, .ref qt)] := hl
  unfold Rdr_readDebt at hM
  have inX2w : ∀ w ∈ u_ws RX2 TX2 9, w ∈ wsX2_readDebt := by decide +kernel
  have hf90 := hts (.fieldLink RX2 90 "LetsIn$Reader" "value" "I") (by decide +kernel)
  have hf21 := hts (.fieldLink RX2 21 "LetsIn$Reader" "draft" "LLetsIn$Town;") (by decide +kernel)
  refine lv_aload_n hx hb dX2_readDebt_0 rfl (lv_at hl 0 rfl) ?_
  refine lv_iconst (v := 0) hx hb dX2_readDebt_1 (by decide) ?_
  refine lv_bipush (v := 6) hx hb dX2_readDebt_2 (by decide) ?_
  obtain ⟨o_1, hc, hM⟩ := bind_so hM
  refine mr_callVi (As := [.int 0, .int 6]) (rest := []) (wr := []) ⟨hx, hb, hml, hown, hts⟩ (k_Rdr_readNumber l D cI cB cZ cS cT qt qt_draft qt_draft_kind qt_draft_father qt_draft_comes qt_draft_wants qt_draft_cost qt_draft_coins qt_draft_debts qt_tape qt_tape_bytes t_fault t_at t_sort t_start t_value t_lawTold t_countersTold t_draft_people t_draft_law t_draft_counters t_draft_kind t_draft_father t_draft_comes t_draft_wants t_draft_cost t_draft_coins t_draft_debts t_tape_length t_tape_bytes 0 6 _ hc) (cwV 2 hts gX2_readDebt_X2_readNumber rfl rfl rfl (by decide +kernel) ⟨Nat.le_of_ble_eq_true rfl, Nat.le_of_ble_eq_true rfl⟩) hK hP hD hS hA [0, 1, 2, 3, 4, 5, 6, 7, 8, 9, 10] [] [0, 1, 2, 3, 4, 5, 6, 7, 8, 9, 10] (w_Rdr cI cB cZ cS cT qt qt_draft qt_draft_kind qt_draft_father qt_draft_comes qt_draft_wants qt_draft_cost qt_draft_coins qt_draft_debts qt_tape qt_tape_bytes o_1.2.1 o_1.2.2.1 o_1.2.2.2.1 o_1.2.2.2.2.1 o_1.2.2.2.2.2 t_lawTold t_countersTold t_draft_people t_draft_law t_draft_counters t_draft_kind t_draft_father t_draft_comes t_draft_wants t_draft_cost t_draft_coins t_draft_debts t_tape_length t_tape_bytes) rfl rfl rfl rfl (by decide) rfl rfl 2 0 rfl rfl rfl rfl hl.1 rfl (Nat.le_of_ble_eq_true rfl) dX2_readDebt_4 ⟨Nat.zero_le _, Nat.zero_le _⟩ (fun H locs hP hD hS => ?_)
  refine mr_if_ne (tgt := 12) hx hb hM dX2_readDebt_7 (by decide) (fun hM => ?_) (fun hM => ?_)
  · refine lv_aload_n hx hb dX2_readDebt_12 rfl (lv_at hl 0 rfl) ?_
    refine va_get (D := D) (ci := 2) (v := .int o_1.2.2.2.2.2) (C := RX2) (T := TX2) (N := 9) hx hb hts inX2w hown hK hP 0 rfl rfl 6 (by decide) hf90 (fun _ h9 => h9) rfl dX2_readDebt_13 ?_
    refine lv_istore_n (lv' := [(1, .int o_1.2.2.2.2.2), (0, .ref qt)]) hx hb dX2_readDebt_16 rfl hl (by decide) rfl (fun ls hl => ?_)
    refine lv_aload_n hx hb dX2_readDebt_17 rfl (lv_at hl 1 rfl) ?_
    refine lv_iconst (v := 0) hx hb dX2_readDebt_18 (by decide) ?_
    refine lv_bipush (v := 6) hx hb dX2_readDebt_19 (by decide) ?_
    obtain ⟨o_2, hc, hM⟩ := bind_so hM
    refine mr_callVi (As := [.int 0, .int 6]) (rest := []) (wr := []) ⟨hx, hb, hml, hown, hts⟩ (k_Rdr_readNumber l D cI cB cZ cS cT qt qt_draft qt_draft_kind qt_draft_father qt_draft_comes qt_draft_wants qt_draft_cost qt_draft_coins qt_draft_debts qt_tape qt_tape_bytes o_1.2.1 o_1.2.2.1 o_1.2.2.2.1 o_1.2.2.2.2.1 o_1.2.2.2.2.2 t_lawTold t_countersTold t_draft_people t_draft_law t_draft_counters t_draft_kind t_draft_father t_draft_comes t_draft_wants t_draft_cost t_draft_coins t_draft_debts t_tape_length t_tape_bytes 0 6 _ hc) (cwV 2 hts gX2_readDebt_X2_readNumber rfl rfl rfl (by decide +kernel) ⟨Nat.le_of_ble_eq_true rfl, Nat.le_of_ble_eq_true rfl⟩) hK hP hD hS hA [0, 1, 2, 3, 4, 5, 6, 7, 8, 9, 10] [] [0, 1, 2, 3, 4, 5, 6, 7, 8, 9, 10] (w_Rdr cI cB cZ cS cT qt qt_draft qt_draft_kind qt_draft_father qt_draft_comes qt_draft_wants qt_draft_cost qt_draft_coins qt_draft_debts qt_tape qt_tape_bytes o_2.2.1 o_2.2.2.1 o_2.2.2.2.1 o_2.2.2.2.2.1 o_2.2.2.2.2.2 t_lawTold t_countersTold t_draft_people t_draft_law t_draft_counters t_draft_kind t_draft_father t_draft_comes t_draft_wants t_draft_cost t_draft_coins t_draft_debts t_tape_length t_tape_bytes) rfl rfl rfl rfl (by decide) rfl rfl 2 0 rfl rfl rfl rfl hl.1 rfl (Nat.le_of_ble_eq_true rfl) dX2_readDebt_21 ⟨Nat.zero_le _, Nat.zero_le _⟩ (fun H locs hP hD hS => ?_)
    refine mr_if_ne (tgt := 29) hx hb hM dX2_readDebt_24 (by decide) (fun hM => ?_) (fun hM => ?_)
    · refine lv_aload_n hx hb dX2_readDebt_29 rfl (lv_at hl 1 rfl) ?_
      refine va_get (D := D) (ci := 2) (v := .int o_2.2.2.2.2.2) (C := RX2) (T := TX2) (N := 9) hx hb hts inX2w hown hK hP 0 rfl rfl 6 (by decide) hf90 (fun _ h9 => h9) rfl dX2_readDebt_30 ?_
      refine lv_istore_n (lv' := [(2, .int o_2.2.2.2.2.2), (1, .int o_1.2.2.2.2.2), (0, .ref qt)]) hx hb dX2_readDebt_33 rfl hl (by decide) rfl (fun ls hl => ?_)
      refine lv_iload_n hx hb dX2_readDebt_34 rfl (lv_at hl 1 rfl) ?_
      refine lv_iload_n hx hb dX2_readDebt_35 rfl (lv_at hl 0 rfl) ?_
      refine mr_jn hM (fun j51_3 => ∀ _u : Unit, j51_3 _u = some o → ∀ (H : Heap) (locs : List Loc), va_P D vwCl (w_Rdr cI cB cZ cS cT qt qt_draft qt_draft_kind qt_draft_father qt_draft_comes qt_draft_wants qt_draft_cost qt_draft_coins qt_draft_debts qt_tape qt_tape_bytes o_2.2.1 o_2.2.2.1 o_2.2.2.2.1 o_2.2.2.2.2.1 o_2.2.2.2.2.2 t_lawTold t_countersTold t_draft_people t_draft_law t_draft_counters t_draft_kind t_draft_father t_draft_comes t_draft_wants t_draft_cost t_draft_coins t_draft_debts t_tape_length t_tape_bytes) H → va_D A (w_Rdr cI cB cZ cS cT qt qt_draft qt_draft_kind qt_draft_father qt_draft_comes qt_draft_wants qt_draft_cost qt_draft_coins qt_draft_debts qt_tape qt_tape_bytes o_2.2.1 o_2.2.2.1 o_2.2.2.2.1 o_2.2.2.2.2.1 o_2.2.2.2.2.2 t_lawTold t_countersTold t_draft_people t_draft_law t_draft_counters t_draft_kind t_draft_father t_draft_comes t_draft_wants t_draft_cost t_draft_coins t_draft_debts t_tape_length t_tape_bytes) → va_S A s.heap H locs → ∀ ls : Array Slot, lv_has ls 3 [(0, .ref qt)] → W p l e rmX2_readDebt s m av below meth c H locs 0 0 Q (F0 m 51 ls [])) (fun _u hM H locs hP hD hS ls hl => ?_) (fun j51_3 hj51_3 hM => ?_)
      · refine lv_aload_n hx hb dX2_readDebt_51 rfl (lv_at hl 0 rfl) ?_
        refine lv_iconst (v := 4) hx hb dX2_readDebt_52 (by decide) ?_
        obtain ⟨o_4, hc, hM⟩ := bind_so hM
        refine mr_callVi (As := [.int 4]) (rest := []) (wr := []) ⟨hx, hb, hml, hown, hts⟩ (k_Rdr_isFaulty l D cI cB cZ cS cT qt qt_draft qt_draft_kind qt_draft_father qt_draft_comes qt_draft_wants qt_draft_cost qt_draft_coins qt_draft_debts qt_tape qt_tape_bytes o_2.2.1 o_2.2.2.1 o_2.2.2.2.1 o_2.2.2.2.2.1 o_2.2.2.2.2.2 t_lawTold t_countersTold t_draft_people t_draft_law t_draft_counters t_draft_kind t_draft_father t_draft_comes t_draft_wants t_draft_cost t_draft_coins t_draft_debts t_tape_length t_tape_bytes 4 _ hc) (cwV 1 hts gX2_readDebt_X2_isFaulty rfl rfl rfl (by decide +kernel) ⟨Nat.le_of_ble_eq_true rfl, Nat.le_of_ble_eq_true rfl⟩) hK hP hD hS hA [0, 1, 2, 3, 4, 5, 6, 7, 8, 9, 10] [] [0, 1, 2, 3, 4, 5, 6, 7, 8, 9, 10] (w_Rdr cI cB cZ cS cT qt qt_draft qt_draft_kind qt_draft_father qt_draft_comes qt_draft_wants qt_draft_cost qt_draft_coins qt_draft_debts qt_tape qt_tape_bytes o_4.2 o_2.2.2.1 o_2.2.2.2.1 o_2.2.2.2.2.1 o_2.2.2.2.2.2 t_lawTold t_countersTold t_draft_people t_draft_law t_draft_counters t_draft_kind t_draft_father t_draft_comes t_draft_wants t_draft_cost t_draft_coins t_draft_debts t_tape_length t_tape_bytes) rfl rfl rfl rfl (by decide) rfl rfl 2 0 rfl rfl rfl rfl hl.1 rfl (Nat.le_of_ble_eq_true rfl) dX2_readDebt_53 ⟨Nat.zero_le _, Nat.zero_le _⟩ (fun H locs hP hD hS => ?_)
        obtain ⟨hz, hM⟩ := guard_so hM
        have hM := Option.some.inj hM
        subst hM
        exact mr_zret hx hb hr (narrow_z hz) hlocks hQ hP hD hS rfl dX2_readDebt_56
      · refine mr_icmp_eq (tgt := 51) hx hb hM dX2_readDebt_36 (by decide) (fun hM => ?_) (fun hM => ?_)
        · exact hj51_3 () hM _ _ hP hD hS ls (lv_sub hl [2] rfl)
        · refine lv_aload_n hx hb dX2_readDebt_39 rfl (lv_at hl 2 rfl) ?_
          refine va_get (D := D) (ci := 2) (v := .ref qt_draft) (C := RX2) (T := TX2) (N := 9) hx hb hts inX2w hown hK hP 0 rfl rfl 1 (by decide) hf21 (fun _ h9 => h9) rfl dX2_readDebt_40 ?_
          refine lv_iload_n hx hb dX2_readDebt_43 rfl (lv_at hl 1 rfl) ?_
          refine lv_iload_n hx hb dX2_readDebt_44 rfl (lv_at hl 0 rfl) ?_
          obtain ⟨o_5, hc, hM⟩ := bind_so hM
          refine mr_callVi (As := [.int o_1.2.2.2.2.2, .int o_2.2.2.2.2.2]) (rest := []) (wr := [(qt, .inr (2, [.ref qt_tape, .ref qt_draft, .int o_2.2.1, .int o_2.2.2.1, .int o_2.2.2.2.1, .int o_2.2.2.2.2.1, .int o_2.2.2.2.2.2, .int t_lawTold, .int t_countersTold])), (qt_tape, .inr (6, [.ref qt_tape_bytes, .int t_tape_length])), (qt_tape_bytes, .inl (cB, 400, .inl t_tape_bytes))]) ⟨hx, hb, hml, hown, hts⟩ (k_Twn_owed l D cI cB cZ cS cT qt_draft qt_draft_kind qt_draft_father qt_draft_comes qt_draft_wants qt_draft_cost qt_draft_coins qt_draft_debts t_draft_people t_draft_law t_draft_counters t_draft_kind t_draft_father t_draft_comes t_draft_wants t_draft_cost t_draft_coins t_draft_debts o_1.2.2.2.2.2 o_2.2.2.2.2.2 _ hc) (cwV 2 hts gX2_readDebt_X7_owed rfl rfl rfl (by decide +kernel) ⟨Nat.le_of_ble_eq_true rfl, Nat.le_of_ble_eq_true rfl⟩) hK hP hD hS hA [1, 2, 3, 4, 5, 6, 7, 8] [0, 9, 10] [0, 3, 4, 5, 6, 7, 8, 9, 10, 1, 2] (w_Rdr cI cB cZ cS cT qt qt_draft qt_draft_kind qt_draft_father qt_draft_comes qt_draft_wants qt_draft_cost qt_draft_coins qt_draft_debts qt_tape qt_tape_bytes o_2.2.1 o_2.2.2.1 o_2.2.2.2.1 o_2.2.2.2.2.1 o_2.2.2.2.2.2 t_lawTold t_countersTold t_draft_people t_draft_law t_draft_counters t_draft_kind t_draft_father t_draft_comes t_draft_wants t_draft_cost t_draft_coins t_draft_debts t_tape_length t_tape_bytes) rfl rfl rfl rfl (by decide) rfl rfl 7 0 rfl rfl rfl rfl hl.1 rfl (Nat.le_of_ble_eq_true rfl) dX2_readDebt_45 ⟨Nat.zero_le _, Nat.zero_le _⟩ (fun H locs hP hD hS => ?_)
          refine mr_if_le (tgt := 57) hx hb hM dX2_readDebt_48 (by decide) (fun hM => ?_) (fun hM => ?_)
          · refine lv_aload_n hx hb dX2_readDebt_57 rfl (lv_at hl 2 rfl) ?_
            refine lv_iconst (v := 1) hx hb dX2_readDebt_58 (by decide) ?_
            refine lv_bipush (v := 99) hx hb dX2_readDebt_59 (by decide) ?_
            obtain ⟨o_6, hc, hM⟩ := bind_so hM
            refine mr_callVi (As := [.int 1, .int 99]) (rest := []) (wr := []) ⟨hx, hb, hml, hown, hts⟩ (k_Rdr_readNumber l D cI cB cZ cS cT qt qt_draft qt_draft_kind qt_draft_father qt_draft_comes qt_draft_wants qt_draft_cost qt_draft_coins qt_draft_debts qt_tape qt_tape_bytes o_2.2.1 o_2.2.2.1 o_2.2.2.2.1 o_2.2.2.2.2.1 o_2.2.2.2.2.2 t_lawTold t_countersTold t_draft_people t_draft_law t_draft_counters t_draft_kind t_draft_father t_draft_comes t_draft_wants t_draft_cost t_draft_coins t_draft_debts t_tape_length t_tape_bytes 1 99 _ hc) (cwV 2 hts gX2_readDebt_X2_readNumber rfl rfl rfl (by decide +kernel) ⟨Nat.le_of_ble_eq_true rfl, Nat.le_of_ble_eq_true rfl⟩) hK hP hD hS hA [0, 1, 2, 3, 4, 5, 6, 7, 8, 9, 10] [] [0, 1, 2, 3, 4, 5, 6, 7, 8, 9, 10] (w_Rdr cI cB cZ cS cT qt qt_draft qt_draft_kind qt_draft_father qt_draft_comes qt_draft_wants qt_draft_cost qt_draft_coins qt_draft_debts qt_tape qt_tape_bytes o_6.2.1 o_6.2.2.1 o_6.2.2.2.1 o_6.2.2.2.2.1 o_6.2.2.2.2.2 t_lawTold t_countersTold t_draft_people t_draft_law t_draft_counters t_draft_kind t_draft_father t_draft_comes t_draft_wants t_draft_cost t_draft_coins t_draft_debts t_tape_length t_tape_bytes) rfl rfl rfl rfl (by decide) rfl rfl 2 0 rfl rfl rfl rfl hl.1 rfl (Nat.le_of_ble_eq_true rfl) dX2_readDebt_61 ⟨Nat.zero_le _, Nat.zero_le _⟩ (fun H locs hP hD hS => ?_)
            refine mr_if_ne (tgt := 69) hx hb hM dX2_readDebt_64 (by decide) (fun hM => ?_) (fun hM => ?_)
            · refine lv_aload_n hx hb dX2_readDebt_69 rfl (lv_at hl 2 rfl) ?_
              refine va_get (D := D) (ci := 2) (v := .ref qt_draft) (C := RX2) (T := TX2) (N := 9) hx hb hts inX2w hown hK hP 0 rfl rfl 1 (by decide) hf21 (fun _ h9 => h9) rfl dX2_readDebt_70 ?_
              refine lv_iload_n hx hb dX2_readDebt_73 rfl (lv_at hl 1 rfl) ?_
              refine lv_iload_n hx hb dX2_readDebt_74 rfl (lv_at hl 0 rfl) ?_
              refine lv_aload_n hx hb dX2_readDebt_75 rfl (lv_at hl 2 rfl) ?_
              refine va_get (D := D) (ci := 2) (v := .int o_6.2.2.2.2.2) (C := RX2) (T := TX2) (N := 9) hx hb hts inX2w hown hK hP 0 rfl rfl 6 (by decide) hf90 (fun _ h9 => h9) rfl dX2_readDebt_76 ?_
              obtain ⟨o_7, hc, hM⟩ := bind_so hM
              refine mr_callVv (As := [.int o_1.2.2.2.2.2, .int o_2.2.2.2.2.2, .int o_6.2.2.2.2.2]) (rest := []) (wr := [(qt, .inr (2, [.ref qt_tape, .ref qt_draft, .int o_6.2.1, .int o_6.2.2.1, .int o_6.2.2.2.1, .int o_6.2.2.2.2.1, .int o_6.2.2.2.2.2, .int t_lawTold, .int t_countersTold])), (qt_tape, .inr (6, [.ref qt_tape_bytes, .int t_tape_length])), (qt_tape_bytes, .inl (cB, 400, .inl t_tape_bytes))]) ⟨hx, hb, hml, hown, hts⟩ (k_Twn_setDebt l D cI cB cZ cS cT qt_draft qt_draft_kind qt_draft_father qt_draft_comes qt_draft_wants qt_draft_cost qt_draft_coins qt_draft_debts t_draft_people t_draft_law t_draft_counters t_draft_kind t_draft_father t_draft_comes t_draft_wants t_draft_cost t_draft_coins t_draft_debts o_1.2.2.2.2.2 o_2.2.2.2.2.2 o_6.2.2.2.2.2 _ hc) (cwV 3 hts gX2_readDebt_X7_setDebt rfl rfl rfl (by decide +kernel) ⟨Nat.le_of_ble_eq_true rfl, Nat.le_of_ble_eq_true rfl⟩) hK hP hD hS hA [1, 2, 3, 4, 5, 6, 7, 8] [0, 9, 10] [0, 3, 4, 5, 6, 7, 8, 9, 10, 1, 2] (w_Rdr cI cB cZ cS cT qt qt_draft qt_draft_kind qt_draft_father qt_draft_comes qt_draft_wants qt_draft_cost qt_draft_coins qt_draft_debts qt_tape qt_tape_bytes o_6.2.1 o_6.2.2.1 o_6.2.2.2.1 o_6.2.2.2.2.1 o_6.2.2.2.2.2 t_lawTold t_countersTold t_draft_people t_draft_law t_draft_counters t_draft_kind t_draft_father t_draft_comes t_draft_wants t_draft_cost t_draft_coins o_7 t_tape_length t_tape_bytes) rfl rfl rfl rfl (by decide) rfl rfl 7 0 rfl rfl rfl rfl hl.1 rfl (Nat.le_of_ble_eq_true rfl) dX2_readDebt_79 ⟨Nat.zero_le _, Nat.zero_le _⟩ (fun H locs hP hD hS => ?_)
              refine lv_aload_n hx hb dX2_readDebt_82 rfl (lv_at hl 2 rfl) ?_
              obtain ⟨o_8, hc, hM⟩ := bind_so hM
              refine mr_callVi (As := []) (rest := []) (wr := []) ⟨hx, hb, hml, hown, hts⟩ (k_Rdr_readStop l D cI cB cZ cS cT qt qt_draft qt_draft_kind qt_draft_father qt_draft_comes qt_draft_wants qt_draft_cost qt_draft_coins qt_draft_debts qt_tape qt_tape_bytes o_6.2.1 o_6.2.2.1 o_6.2.2.2.1 o_6.2.2.2.2.1 o_6.2.2.2.2.2 t_lawTold t_countersTold t_draft_people t_draft_law t_draft_counters t_draft_kind t_draft_father t_draft_comes t_draft_wants t_draft_cost t_draft_coins o_7 t_tape_length t_tape_bytes  _ hc) (cwV 0 hts gX2_readDebt_X2_readStop rfl rfl rfl (by decide +kernel) ⟨Nat.le_of_ble_eq_true rfl, Nat.le_of_ble_eq_true rfl⟩) hK hP hD hS hA [0, 1, 2, 3, 4, 5, 6, 7, 8, 9, 10] [] [0, 1, 2, 3, 4, 5, 6, 7, 8, 9, 10] (w_Rdr cI cB cZ cS cT qt qt_draft qt_draft_kind qt_draft_father qt_draft_comes qt_draft_wants qt_draft_cost qt_draft_coins qt_draft_debts qt_tape qt_tape_bytes o_8.2.1 o_8.2.2.1 o_8.2.2.2.1 o_8.2.2.2.2.1 o_8.2.2.2.2.2 t_lawTold t_countersTold t_draft_people t_draft_law t_draft_counters t_draft_kind t_draft_father t_draft_comes t_draft_wants t_draft_cost t_draft_coins o_7 t_tape_length t_tape_bytes) rfl rfl rfl rfl (by decide) rfl rfl 2 0 rfl rfl rfl rfl hl.1 rfl (Nat.le_of_ble_eq_true rfl) dX2_readDebt_83 ⟨Nat.zero_le _, Nat.zero_le _⟩ (fun H locs hP hD hS => ?_)
              obtain ⟨hz, hM⟩ := guard_so hM
              have hM := Option.some.inj hM
              subst hM
              exact mr_zret hx hb hr (narrow_z hz) hlocks hQ hP hD hS rfl dX2_readDebt_86
            · refine lv_iconst (v := 0) hx hb dX2_readDebt_67 (by decide) ?_
              have hM := Option.some.inj hM
              subst hM
              exact mr_zret hx hb hr (by decide) hlocks hQ hP hD hS rfl dX2_readDebt_68
          · exact hj51_3 () hM _ _ hP hD hS ls (lv_sub hl [2] rfl)
    · refine lv_iconst (v := 0) hx hb dX2_readDebt_27 (by decide) ?_
      have hM := Option.some.inj hM
      subst hM
      exact mr_zret hx hb hr (by decide) hlocks hQ hP hD hS rfl dX2_readDebt_28
  · refine lv_iconst (v := 0) hx hb dX2_readDebt_10 (by decide) ?_
    have hM := Option.some.inj hM
    subst hM
    exact mr_zret hx hb hr (by decide) hlocks hQ hP hD hS rfl dX2_readDebt_11

abbrev rmX2_allAreThere : Room := { frames := 2, cells := 0, slots := 0, locals := 43 }
set_option maxHeartbeats 40000000 in
set_option maxRecDepth 100000 in
theorem k_Rdr_allAreThere (l : Launch) (D : va_G) (cI cB cZ cS cT : ClassId) (qt qt_draft qt_draft_kind qt_draft_father qt_draft_comes qt_draft_wants qt_draft_cost qt_draft_coins qt_draft_debts qt_tape qt_tape_bytes : Nat) (t_fault t_at t_sort t_start t_value t_lawTold t_countersTold t_draft_people t_draft_law t_draft_counters : Int32) (t_draft_kind t_draft_father t_draft_comes t_draft_wants t_draft_cost t_draft_coins t_draft_debts : Nat → Int32) (t_tape_length : Int32) (t_tape_bytes : Nat → Int32)  (o : Int32 × Int32) (hM : Rdr_allAreThere t_fault t_draft_people t_draft_kind t_draft_father t_draft_debts = some o) : mtI l yX2_allAreThere wsX2_allAreThere rmX2_allAreThere D (tys5 cI cB cZ cS cT) [.ref qt] (w_Rdr cI cB cZ cS cT qt qt_draft qt_draft_kind qt_draft_father qt_draft_comes qt_draft_wants qt_draft_cost qt_draft_coins qt_draft_debts qt_tape qt_tape_bytes t_fault t_at t_sort t_start t_value t_lawTold t_countersTold t_draft_people t_draft_law t_draft_counters t_draft_kind t_draft_father t_draft_comes t_draft_wants t_draft_cost t_draft_coins t_draft_debts t_tape_length t_tape_bytes) (w_Rdr cI cB cZ cS cT qt qt_draft qt_draft_kind qt_draft_father qt_draft_comes qt_draft_wants qt_draft_cost qt_draft_coins qt_draft_debts qt_tape qt_tape_bytes o.2 t_at t_sort t_start t_value t_lawTold t_countersTold t_draft_people t_draft_law t_draft_counters t_draft_kind t_draft_father t_draft_comes t_draft_wants t_draft_cost t_draft_coins t_draft_debts t_tape_length t_tape_bytes) o.1 := by
  refine mtI.of (cc := cX2_allAreThere) (maxL := 3) (ret := (some .boolean)) (by decide) rfl (Nat.le_of_ble_eq_true rfl) ?_
  intro p e s m below meth c A Q av hav hQ hx hb hr hml hown hts hlocks hK hP hD hA hS ls hl
  have hown : s.vm.findClass RX2 = some m.cls := hown
  have hl : lv_has ls 3 [(0, .ref qt)] := hl
  unfold Rdr_allAreThere at hM
  have inX2w : ∀ w ∈ u_ws RX2 TX2 9, w ∈ wsX2_allAreThere := by decide +kernel
  have inX7w : ∀ w ∈ u_ws RX7 TX7 10, w ∈ wsX2_allAreThere := by decide +kernel
  have hf21 := hts (.fieldLink RX2 21 "LetsIn$Reader" "draft" "LLetsIn$Town;") (by decide +kernel)
  have hf123 := hts (.fieldLink RX2 123 "LetsIn$Town" "kind" "[I") (by decide +kernel)
  have hf126 := hts (.fieldLink RX2 126 "LetsIn$Town" "father" "[I") (by decide +kernel)
  refine lv_iconst (v := 0) hx hb dX2_allAreThere_0 (by decide) ?_
  refine lv_istore_n (lv' := [(1, .int 0), (0, .ref qt)]) hx hb dX2_allAreThere_1 rfl hl (by decide) rfl (fun ls hl => ?_)
  have hL2 : ∀ (K51 : Option (Int32 × Int32)) (K90 : Option (Int32 × Int32)) (K109 : Option (Int32 × Int32)), (K51  = some o → ∀ (H : Heap) (locs : List Loc), va_P D vwCl (w_Rdr cI cB cZ cS cT qt qt_draft qt_draft_kind qt_draft_father qt_draft_comes qt_draft_wants qt_draft_cost qt_draft_coins qt_draft_debts qt_tape qt_tape_bytes t_fault t_at t_sort t_start t_value t_lawTold t_countersTold t_draft_people t_draft_law t_draft_counters t_draft_kind t_draft_father t_draft_comes t_draft_wants t_draft_cost t_draft_coins t_draft_debts t_tape_length t_tape_bytes) H → va_D A (w_Rdr cI cB cZ cS cT qt qt_draft qt_draft_kind qt_draft_father qt_draft_comes qt_draft_wants qt_draft_cost qt_draft_coins qt_draft_debts qt_tape qt_tape_bytes t_fault t_at t_sort t_start t_value t_lawTold t_countersTold t_draft_people t_draft_law t_draft_counters t_draft_kind t_draft_father t_draft_comes t_draft_wants t_draft_cost t_draft_coins t_draft_debts t_tape_length t_tape_bytes) → va_S A s.heap H locs → ∀ ls : Array Slot, lv_has ls 3 [(0, .ref qt)] → W p l e rmX2_allAreThere s m av below meth c H locs 0 0 Q (F0 m 51 ls [])) → (K90  = some o → ∀ (H : Heap) (locs : List Loc), va_P D vwCl (w_Rdr cI cB cZ cS cT qt qt_draft qt_draft_kind qt_draft_father qt_draft_comes qt_draft_wants qt_draft_cost qt_draft_coins qt_draft_debts qt_tape qt_tape_bytes t_fault t_at t_sort t_start t_value t_lawTold t_countersTold t_draft_people t_draft_law t_draft_counters t_draft_kind t_draft_father t_draft_comes t_draft_wants t_draft_cost t_draft_coins t_draft_debts t_tape_length t_tape_bytes) H → va_D A (w_Rdr cI cB cZ cS cT qt qt_draft qt_draft_kind qt_draft_father qt_draft_comes qt_draft_wants qt_draft_cost qt_draft_coins qt_draft_debts qt_tape qt_tape_bytes t_fault t_at t_sort t_start t_value t_lawTold t_countersTold t_draft_people t_draft_law t_draft_counters t_draft_kind t_draft_father t_draft_comes t_draft_wants t_draft_cost t_draft_coins t_draft_debts t_tape_length t_tape_bytes) → va_S A s.heap H locs → ∀ ls : Array Slot, lv_has ls 3 [(0, .ref qt)] → W p l e rmX2_allAreThere s m av below meth c H locs 0 0 Q (F0 m 90 ls [])) → (K109  = some o → ∀ (H : Heap) (locs : List Loc), va_P D vwCl (w_Rdr cI cB cZ cS cT qt qt_draft qt_draft_kind qt_draft_father qt_draft_comes qt_draft_wants qt_draft_cost qt_draft_coins qt_draft_debts qt_tape qt_tape_bytes t_fault t_at t_sort t_start t_value t_lawTold t_countersTold t_draft_people t_draft_law t_draft_counters t_draft_kind t_draft_father t_draft_comes t_draft_wants t_draft_cost t_draft_coins t_draft_debts t_tape_length t_tape_bytes) H → va_D A (w_Rdr cI cB cZ cS cT qt qt_draft qt_draft_kind qt_draft_father qt_draft_comes qt_draft_wants qt_draft_cost qt_draft_coins qt_draft_debts qt_tape qt_tape_bytes t_fault t_at t_sort t_start t_value t_lawTold t_countersTold t_draft_people t_draft_law t_draft_counters t_draft_kind t_draft_father t_draft_comes t_draft_wants t_draft_cost t_draft_coins t_draft_debts t_tape_length t_tape_bytes) → va_S A s.heap H locs → ∀ ls : Array Slot, lv_has ls 3 [] → W p l e rmX2_allAreThere s m av below meth c H locs 0 0 Q (F0 m 109 ls [])) → ∀ (n : Nat) (x1_1 : Int32), Rdr_allAreThere_L2 t_draft_people t_draft_kind t_draft_father t_draft_debts K51 K90 K109 n x1_1 = some o → ∀ (H : Heap) (locs : List Loc), va_P D vwCl (w_Rdr cI cB cZ cS cT qt qt_draft qt_draft_kind qt_draft_father qt_draft_comes qt_draft_wants qt_draft_cost qt_draft_coins qt_draft_debts qt_tape qt_tape_bytes t_fault t_at t_sort t_start t_value t_lawTold t_countersTold t_draft_people t_draft_law t_draft_counters t_draft_kind t_draft_father t_draft_comes t_draft_wants t_draft_cost t_draft_coins t_draft_debts t_tape_length t_tape_bytes) H → va_D A (w_Rdr cI cB cZ cS cT qt qt_draft qt_draft_kind qt_draft_father qt_draft_comes qt_draft_wants qt_draft_cost qt_draft_coins qt_draft_debts qt_tape qt_tape_bytes t_fault t_at t_sort t_start t_value t_lawTold t_countersTold t_draft_people t_draft_law t_draft_counters t_draft_kind t_draft_father t_draft_comes t_draft_wants t_draft_cost t_draft_coins t_draft_debts t_tape_length t_tape_bytes) → va_S A s.heap H locs → ∀ ls : Array Slot, lv_has ls 3 [(0, .ref qt), (1, .int x1_1)] → W p l e rmX2_allAreThere s m av below meth c H locs 0 0 Q (F0 m 2 ls []) := by
    intro K51 K90 K109 hK51 hK90 hK109 n
    induction n with
    | zero =>
      intro x1_1 hM
      rw [Rdr_allAreThere_L2] at hM
      cases hM
    | succ n ih =>
      intro x1_1 hM H locs hP hD hS ls hl
      rw [Rdr_allAreThere_L2] at hM
      refine lv_iload_n hx hb dX2_allAreThere_2 rfl (lv_at hl 1 rfl) ?_
      refine lv_bipush (v := 7) hx hb dX2_allAreThere_3 (by decide) ?_
      refine mr_icmp_ge (tgt := 109) hx hb hM dX2_allAreThere_5 (by decide) (fun hM => ?_) (fun hM => ?_)
      · exact hK109  hM _ _ hP hD hS ls (lv_sub hl [] rfl)
      · refine lv_aload_n hx hb dX2_allAreThere_8 rfl (lv_at hl 0 rfl) ?_
        refine va_get (D := D) (ci := 2) (v := .ref qt_draft) (C := RX2) (T := TX2) (N := 9) hx hb hts inX2w hown hK hP 0 rfl rfl 1 (by decide) hf21 (fun _ h9 => h9) rfl dX2_allAreThere_9 ?_
        refine lv_iload_n hx hb dX2_allAreThere_12 rfl (lv_at hl 1 rfl) ?_
        obtain ⟨o_2, hc, hM⟩ := bind_so hM
        refine mr_callVi (As := [.int x1_1]) (rest := []) (wr := [(qt, .inr (2, [.ref qt_tape, .ref qt_draft, .int t_fault, .int t_at, .int t_sort, .int t_start, .int t_value, .int t_lawTold, .int t_countersTold])), (qt_tape, .inr (6, [.ref qt_tape_bytes, .int t_tape_length])), (qt_tape_bytes, .inl (cB, 400, .inl t_tape_bytes))]) ⟨hx, hb, hml, hown, hts⟩ (k_Twn_isOne l D cI cB cZ cS cT qt_draft qt_draft_kind qt_draft_father qt_draft_comes qt_draft_wants qt_draft_cost qt_draft_coins qt_draft_debts t_draft_people t_draft_law t_draft_counters t_draft_kind t_draft_father t_draft_comes t_draft_wants t_draft_cost t_draft_coins t_draft_debts x1_1 _ hc) (cwV 1 hts gX2_allAreThere_X7_isOne rfl rfl rfl (by decide +kernel) ⟨Nat.le_of_ble_eq_true rfl, Nat.le_of_ble_eq_true rfl⟩) hK hP hD hS hA [1, 2, 3, 4, 5, 6, 7, 8] [0, 9, 10] [0, 3, 4, 5, 6, 7, 8, 9, 10, 1, 2] (w_Rdr cI cB cZ cS cT qt qt_draft qt_draft_kind qt_draft_father qt_draft_comes qt_draft_wants qt_draft_cost qt_draft_coins qt_draft_debts qt_tape qt_tape_bytes t_fault t_at t_sort t_start t_value t_lawTold t_countersTold t_draft_people t_draft_law t_draft_counters t_draft_kind t_draft_father t_draft_comes t_draft_wants t_draft_cost t_draft_coins t_draft_debts t_tape_length t_tape_bytes) rfl rfl rfl rfl (by decide) rfl rfl 7 0 rfl rfl rfl rfl hl.1 rfl (Nat.le_of_ble_eq_true rfl) dX2_allAreThere_13 ⟨Nat.zero_le _, Nat.zero_le _⟩ (fun H locs hP hD hS => ?_)
        refine mr_if_eq (tgt := 58) hx hb hM dX2_allAreThere_16 (by decide) (fun hM => ?_) (fun hM => ?_)
        · refine lv_iconst (v := 0) hx hb dX2_allAreThere_58 (by decide) ?_
          refine lv_istore_n (lv' := [(2, .int 0), (0, .ref qt), (1, .int x1_1)]) hx hb dX2_allAreThere_59 rfl hl (by decide) rfl (fun ls hl => ?_)
          have hL60 : ∀ (K90 : Option (Int32 × Int32)) (K103 : Option (Int32 × Int32)), (K90  = some o → ∀ (H : Heap) (locs : List Loc), va_P D vwCl (w_Rdr cI cB cZ cS cT qt qt_draft qt_draft_kind qt_draft_father qt_draft_comes qt_draft_wants qt_draft_cost qt_draft_coins qt_draft_debts qt_tape qt_tape_bytes t_fault t_at t_sort t_start t_value t_lawTold t_countersTold t_draft_people t_draft_law t_draft_counters t_draft_kind t_draft_father t_draft_comes t_draft_wants t_draft_cost t_draft_coins t_draft_debts t_tape_length t_tape_bytes) H → va_D A (w_Rdr cI cB cZ cS cT qt qt_draft qt_draft_kind qt_draft_father qt_draft_comes qt_draft_wants qt_draft_cost qt_draft_coins qt_draft_debts qt_tape qt_tape_bytes t_fault t_at t_sort t_start t_value t_lawTold t_countersTold t_draft_people t_draft_law t_draft_counters t_draft_kind t_draft_father t_draft_comes t_draft_wants t_draft_cost t_draft_coins t_draft_debts t_tape_length t_tape_bytes) → va_S A s.heap H locs → ∀ ls : Array Slot, lv_has ls 3 [(0, .ref qt)] → W p l e rmX2_allAreThere s m av below meth c H locs 0 0 Q (F0 m 90 ls [])) → (K103  = some o → ∀ (H : Heap) (locs : List Loc), va_P D vwCl (w_Rdr cI cB cZ cS cT qt qt_draft qt_draft_kind qt_draft_father qt_draft_comes qt_draft_wants qt_draft_cost qt_draft_coins qt_draft_debts qt_tape qt_tape_bytes t_fault t_at t_sort t_start t_value t_lawTold t_countersTold t_draft_people t_draft_law t_draft_counters t_draft_kind t_draft_father t_draft_comes t_draft_wants t_draft_cost t_draft_coins t_draft_debts t_tape_length t_tape_bytes) H → va_D A (w_Rdr cI cB cZ cS cT qt qt_draft qt_draft_kind qt_draft_father qt_draft_comes qt_draft_wants qt_draft_cost qt_draft_coins qt_draft_debts qt_tape qt_tape_bytes t_fault t_at t_sort t_start t_value t_lawTold t_countersTold t_draft_people t_draft_law t_draft_counters t_draft_kind t_draft_father t_draft_comes t_draft_wants t_draft_cost t_draft_coins t_draft_debts t_tape_length t_tape_bytes) → va_S A s.heap H locs → ∀ ls : Array Slot, lv_has ls 3 [(0, .ref qt), (1, .int x1_1)] → W p l e rmX2_allAreThere s m av below meth c H locs 0 0 Q (F0 m 103 ls [])) → ∀ (n : Nat) (x2_3 : Int32), Rdr_allAreThere_L60 t_draft_people t_draft_debts x1_1 K90 K103 n x2_3 = some o → ∀ (H : Heap) (locs : List Loc), va_P D vwCl (w_Rdr cI cB cZ cS cT qt qt_draft qt_draft_kind qt_draft_father qt_draft_comes qt_draft_wants qt_draft_cost qt_draft_coins qt_draft_debts qt_tape qt_tape_bytes t_fault t_at t_sort t_start t_value t_lawTold t_countersTold t_draft_people t_draft_law t_draft_counters t_draft_kind t_draft_father t_draft_comes t_draft_wants t_draft_cost t_draft_coins t_draft_debts t_tape_length t_tape_bytes) H → va_D A (w_Rdr cI cB cZ cS cT qt qt_draft qt_draft_kind qt_draft_father qt_draft_comes qt_draft_wants qt_draft_cost qt_draft_coins qt_draft_debts qt_tape qt_tape_bytes t_fault t_at t_sort t_start t_value t_lawTold t_countersTold t_draft_people t_draft_law t_draft_counters t_draft_kind t_draft_father t_draft_comes t_draft_wants t_draft_cost t_draft_coins t_draft_debts t_tape_length t_tape_bytes) → va_S A s.heap H locs → ∀ ls : Array Slot, lv_has ls 3 [(0, .ref qt), (1, .int x1_1), (2, .int x2_3)] → W p l e rmX2_allAreThere s m av below meth c H locs 0 0 Q (F0 m 60 ls []) := by
            intro K90 K103 hK90 hK103 n
            induction n with
            | zero =>
              intro x2_3 hM
              rw [Rdr_allAreThere_L60] at hM
              cases hM
            | succ n ih =>
              intro x2_3 hM H locs hP hD hS ls hl
              rw [Rdr_allAreThere_L60] at hM
              refine lv_iload_n hx hb dX2_allAreThere_60 rfl (lv_at hl 2 rfl) ?_
              refine lv_bipush (v := 7) hx hb dX2_allAreThere_61 (by decide) ?_
              refine mr_icmp_ge (tgt := 103) hx hb hM dX2_allAreThere_63 (by decide) (fun hM => ?_) (fun hM => ?_)
              · exact hK103  hM _ _ hP hD hS ls (lv_sub hl [0, 1] rfl)
              · refine lv_aload_n hx hb dX2_allAreThere_66 rfl (lv_at hl 0 rfl) ?_
                refine va_get (D := D) (ci := 2) (v := .ref qt_draft) (C := RX2) (T := TX2) (N := 9) hx hb hts inX2w hown hK hP 0 rfl rfl 1 (by decide) hf21 (fun _ h9 => h9) rfl dX2_allAreThere_67 ?_
                refine lv_iload_n hx hb dX2_allAreThere_70 rfl (lv_at hl 1 rfl) ?_
                refine lv_iload_n hx hb dX2_allAreThere_71 rfl (lv_at hl 2 rfl) ?_
                obtain ⟨o_4, hc, hM⟩ := bind_so hM
                refine mr_callVi (As := [.int x1_1, .int x2_3]) (rest := []) (wr := [(qt, .inr (2, [.ref qt_tape, .ref qt_draft, .int t_fault, .int t_at, .int t_sort, .int t_start, .int t_value, .int t_lawTold, .int t_countersTold])), (qt_tape, .inr (6, [.ref qt_tape_bytes, .int t_tape_length])), (qt_tape_bytes, .inl (cB, 400, .inl t_tape_bytes))]) ⟨hx, hb, hml, hown, hts⟩ (k_Twn_owed l D cI cB cZ cS cT qt_draft qt_draft_kind qt_draft_father qt_draft_comes qt_draft_wants qt_draft_cost qt_draft_coins qt_draft_debts t_draft_people t_draft_law t_draft_counters t_draft_kind t_draft_father t_draft_comes t_draft_wants t_draft_cost t_draft_coins t_draft_debts x1_1 x2_3 _ hc) (cwV 2 hts gX2_allAreThere_X7_owed rfl rfl rfl (by decide +kernel) ⟨Nat.le_of_ble_eq_true rfl, Nat.le_of_ble_eq_true rfl⟩) hK hP hD hS hA [1, 2, 3, 4, 5, 6, 7, 8] [0, 9, 10] [0, 3, 4, 5, 6, 7, 8, 9, 10, 1, 2] (w_Rdr cI cB cZ cS cT qt qt_draft qt_draft_kind qt_draft_father qt_draft_comes qt_draft_wants qt_draft_cost qt_draft_coins qt_draft_debts qt_tape qt_tape_bytes t_fault t_at t_sort t_start t_value t_lawTold t_countersTold t_draft_people t_draft_law t_draft_counters t_draft_kind t_draft_father t_draft_comes t_draft_wants t_draft_cost t_draft_coins t_draft_debts t_tape_length t_tape_bytes) rfl rfl rfl rfl (by decide) rfl rfl 7 0 rfl rfl rfl rfl hl.1 rfl (Nat.le_of_ble_eq_true rfl) dX2_allAreThere_72 ⟨Nat.zero_le _, Nat.zero_le _⟩ (fun H locs hP hD hS => ?_)
                refine mr_if_le (tgt := 97) hx hb hM dX2_allAreThere_75 (by decide) (fun hM => ?_) (fun hM => ?_)
                · refine mr_iinc (k := 2) (d := 1) hx hb (fun x2_5 => [(2, .int x2_5), (0, .ref qt), (1, .int x1_1)]) hM (by decide) dX2_allAreThere_97 hl rfl (by decide) (fun _ => rfl) (fun x2_5 hM ls hl => ?_)
                  refine lv_goto (tgt := 60) hx hb dX2_allAreThere_100 (by decide) ?_
                  exact ih x2_5 hM _ _ hP hD hS ls (lv_sub hl [1, 2, 0] rfl)
                · refine lv_aload_n hx hb dX2_allAreThere_78 rfl (lv_at hl 0 rfl) ?_
                  refine va_get (D := D) (ci := 2) (v := .ref qt_draft) (C := RX2) (T := TX2) (N := 9) hx hb hts inX2w hown hK hP 0 rfl rfl 1 (by decide) hf21 (fun _ h9 => h9) rfl dX2_allAreThere_79 ?_
                  refine lv_iload_n hx hb dX2_allAreThere_82 rfl (lv_at hl 1 rfl) ?_
                  refine lv_iload_n hx hb dX2_allAreThere_83 rfl (lv_at hl 2 rfl) ?_
                  obtain ⟨o_6, hc, hM⟩ := bind_so hM
                  refine mr_callVi (As := [.int x1_1, .int x2_3]) (rest := []) (wr := [(qt, .inr (2, [.ref qt_tape, .ref qt_draft, .int t_fault, .int t_at, .int t_sort, .int t_start, .int t_value, .int t_lawTold, .int t_countersTold])), (qt_tape, .inr (6, [.ref qt_tape_bytes, .int t_tape_length])), (qt_tape_bytes, .inl (cB, 400, .inl t_tape_bytes))]) ⟨hx, hb, hml, hown, hts⟩ (k_Twn_areTwo l D cI cB cZ cS cT qt_draft qt_draft_kind qt_draft_father qt_draft_comes qt_draft_wants qt_draft_cost qt_draft_coins qt_draft_debts t_draft_people t_draft_law t_draft_counters t_draft_kind t_draft_father t_draft_comes t_draft_wants t_draft_cost t_draft_coins t_draft_debts x1_1 x2_3 _ hc) (cwV 2 hts gX2_allAreThere_X7_areTwo rfl rfl rfl (by decide +kernel) ⟨Nat.le_of_ble_eq_true rfl, Nat.le_of_ble_eq_true rfl⟩) hK hP hD hS hA [1, 2, 3, 4, 5, 6, 7, 8] [0, 9, 10] [0, 3, 4, 5, 6, 7, 8, 9, 10, 1, 2] (w_Rdr cI cB cZ cS cT qt qt_draft qt_draft_kind qt_draft_father qt_draft_comes qt_draft_wants qt_draft_cost qt_draft_coins qt_draft_debts qt_tape qt_tape_bytes t_fault t_at t_sort t_start t_value t_lawTold t_countersTold t_draft_people t_draft_law t_draft_counters t_draft_kind t_draft_father t_draft_comes t_draft_wants t_draft_cost t_draft_coins t_draft_debts t_tape_length t_tape_bytes) rfl rfl rfl rfl (by decide) rfl rfl 7 0 rfl rfl rfl rfl hl.1 rfl (Nat.le_of_ble_eq_true rfl) dX2_allAreThere_84 ⟨Nat.zero_le _, Nat.zero_le _⟩ (fun H locs hP hD hS => ?_)
                  refine mr_if_ne (tgt := 97) hx hb hM dX2_allAreThere_87 (by decide) (fun hM => ?_) (fun hM => ?_)
                  · refine mr_iinc (k := 2) (d := 1) hx hb (fun x2_7 => [(2, .int x2_7), (0, .ref qt), (1, .int x1_1)]) hM (by decide) dX2_allAreThere_97 hl rfl (by decide) (fun _ => rfl) (fun x2_7 hM ls hl => ?_)
                    refine lv_goto (tgt := 60) hx hb dX2_allAreThere_100 (by decide) ?_
                    exact ih x2_7 hM _ _ hP hD hS ls (lv_sub hl [1, 2, 0] rfl)
                  · exact hK90  hM _ _ hP hD hS ls (lv_sub hl [0] rfl)
          refine hL60 _ _ (fun  hM H locs hP hD hS ls hl => ?_) (fun  hM H locs hP hD hS ls hl => ?_) _ 0 hM _ _ hP hD hS ls (lv_sub hl [1, 2, 0] rfl)
          · exact hK90  hM _ _ hP hD hS ls (lv_sub hl [0] rfl)
          · refine mr_iinc (k := 1) (d := 1) hx hb (fun x1_8 => [(1, .int x1_8), (0, .ref qt)]) hM (by decide) dX2_allAreThere_103 hl rfl (by decide) (fun _ => rfl) (fun x1_8 hM ls hl => ?_)
            refine lv_goto (tgt := 2) hx hb dX2_allAreThere_106 (by decide) ?_
            exact ih x1_8 hM _ _ hP hD hS ls (lv_sub hl [1, 0] rfl)
        · refine lv_aload_n hx hb dX2_allAreThere_19 rfl (lv_at hl 0 rfl) ?_
          refine va_get (D := D) (ci := 2) (v := .ref qt_draft) (C := RX2) (T := TX2) (N := 9) hx hb hts inX2w hown hK hP 0 rfl rfl 1 (by decide) hf21 (fun _ h9 => h9) rfl dX2_allAreThere_20 ?_
          refine va_get (D := D) (ci := 7) (v := .ref qt_draft_kind) (C := RX7) (T := TX7) (N := 10) hx hb hts inX7w hown hK hP 1 rfl rfl 3 (by decide) hf123 (fun _ h9 => h9) rfl dX2_allAreThere_23 ?_
          refine lv_iload_n hx hb dX2_allAreThere_26 rfl (lv_at hl 1 rfl) ?_
          refine mr_iald hx hb hK hP 2 0 rfl rfl hM dX2_allAreThere_27 (fun v_9 hM => ?_)
          refine lv_iconst (v := 4) hx hb dX2_allAreThere_28 (by decide) ?_
          refine mr_icmp_ne (tgt := 58) hx hb hM dX2_allAreThere_29 (by decide) (fun hM => ?_) (fun hM => ?_)
          · refine lv_iconst (v := 0) hx hb dX2_allAreThere_58 (by decide) ?_
            refine lv_istore_n (lv' := [(2, .int 0), (0, .ref qt), (1, .int x1_1)]) hx hb dX2_allAreThere_59 rfl hl (by decide) rfl (fun ls hl => ?_)
            have hL60 : ∀ (K90 : Option (Int32 × Int32)) (K103 : Option (Int32 × Int32)), (K90  = some o → ∀ (H : Heap) (locs : List Loc), va_P D vwCl (w_Rdr cI cB cZ cS cT qt qt_draft qt_draft_kind qt_draft_father qt_draft_comes qt_draft_wants qt_draft_cost qt_draft_coins qt_draft_debts qt_tape qt_tape_bytes t_fault t_at t_sort t_start t_value t_lawTold t_countersTold t_draft_people t_draft_law t_draft_counters t_draft_kind t_draft_father t_draft_comes t_draft_wants t_draft_cost t_draft_coins t_draft_debts t_tape_length t_tape_bytes) H → va_D A (w_Rdr cI cB cZ cS cT qt qt_draft qt_draft_kind qt_draft_father qt_draft_comes qt_draft_wants qt_draft_cost qt_draft_coins qt_draft_debts qt_tape qt_tape_bytes t_fault t_at t_sort t_start t_value t_lawTold t_countersTold t_draft_people t_draft_law t_draft_counters t_draft_kind t_draft_father t_draft_comes t_draft_wants t_draft_cost t_draft_coins t_draft_debts t_tape_length t_tape_bytes) → va_S A s.heap H locs → ∀ ls : Array Slot, lv_has ls 3 [(0, .ref qt)] → W p l e rmX2_allAreThere s m av below meth c H locs 0 0 Q (F0 m 90 ls [])) → (K103  = some o → ∀ (H : Heap) (locs : List Loc), va_P D vwCl (w_Rdr cI cB cZ cS cT qt qt_draft qt_draft_kind qt_draft_father qt_draft_comes qt_draft_wants qt_draft_cost qt_draft_coins qt_draft_debts qt_tape qt_tape_bytes t_fault t_at t_sort t_start t_value t_lawTold t_countersTold t_draft_people t_draft_law t_draft_counters t_draft_kind t_draft_father t_draft_comes t_draft_wants t_draft_cost t_draft_coins t_draft_debts t_tape_length t_tape_bytes) H → va_D A (w_Rdr cI cB cZ cS cT qt qt_draft qt_draft_kind qt_draft_father qt_draft_comes qt_draft_wants qt_draft_cost qt_draft_coins qt_draft_debts qt_tape qt_tape_bytes t_fault t_at t_sort t_start t_value t_lawTold t_countersTold t_draft_people t_draft_law t_draft_counters t_draft_kind t_draft_father t_draft_comes t_draft_wants t_draft_cost t_draft_coins t_draft_debts t_tape_length t_tape_bytes) → va_S A s.heap H locs → ∀ ls : Array Slot, lv_has ls 3 [(0, .ref qt), (1, .int x1_1)] → W p l e rmX2_allAreThere s m av below meth c H locs 0 0 Q (F0 m 103 ls [])) → ∀ (n : Nat) (x2_10 : Int32), Rdr_allAreThere_L60' t_draft_people t_draft_debts x1_1 K90 K103 n x2_10 = some o → ∀ (H : Heap) (locs : List Loc), va_P D vwCl (w_Rdr cI cB cZ cS cT qt qt_draft qt_draft_kind qt_draft_father qt_draft_comes qt_draft_wants qt_draft_cost qt_draft_coins qt_draft_debts qt_tape qt_tape_bytes t_fault t_at t_sort t_start t_value t_lawTold t_countersTold t_draft_people t_draft_law t_draft_counters t_draft_kind t_draft_father t_draft_comes t_draft_wants t_draft_cost t_draft_coins t_draft_debts t_tape_length t_tape_bytes) H → va_D A (w_Rdr cI cB cZ cS cT qt qt_draft qt_draft_kind qt_draft_father qt_draft_comes qt_draft_wants qt_draft_cost qt_draft_coins qt_draft_debts qt_tape qt_tape_bytes t_fault t_at t_sort t_start t_value t_lawTold t_countersTold t_draft_people t_draft_law t_draft_counters t_draft_kind t_draft_father t_draft_comes t_draft_wants t_draft_cost t_draft_coins t_draft_debts t_tape_length t_tape_bytes) → va_S A s.heap H locs → ∀ ls : Array Slot, lv_has ls 3 [(0, .ref qt), (1, .int x1_1), (2, .int x2_10)] → W p l e rmX2_allAreThere s m av below meth c H locs 0 0 Q (F0 m 60 ls []) := by
              intro K90 K103 hK90 hK103 n
              induction n with
              | zero =>
                intro x2_10 hM
                rw [Rdr_allAreThere_L60'] at hM
                cases hM
              | succ n ih =>
                intro x2_10 hM H locs hP hD hS ls hl
                rw [Rdr_allAreThere_L60'] at hM
                refine lv_iload_n hx hb dX2_allAreThere_60 rfl (lv_at hl 2 rfl) ?_
                refine lv_bipush (v := 7) hx hb dX2_allAreThere_61 (by decide) ?_
                refine mr_icmp_ge (tgt := 103) hx hb hM dX2_allAreThere_63 (by decide) (fun hM => ?_) (fun hM => ?_)
                · exact hK103  hM _ _ hP hD hS ls (lv_sub hl [0, 1] rfl)
                · refine lv_aload_n hx hb dX2_allAreThere_66 rfl (lv_at hl 0 rfl) ?_
                  refine va_get (D := D) (ci := 2) (v := .ref qt_draft) (C := RX2) (T := TX2) (N := 9) hx hb hts inX2w hown hK hP 0 rfl rfl 1 (by decide) hf21 (fun _ h9 => h9) rfl dX2_allAreThere_67 ?_
                  refine lv_iload_n hx hb dX2_allAreThere_70 rfl (lv_at hl 1 rfl) ?_
                  refine lv_iload_n hx hb dX2_allAreThere_71 rfl (lv_at hl 2 rfl) ?_
                  obtain ⟨o_11, hc, hM⟩ := bind_so hM
                  refine mr_callVi (As := [.int x1_1, .int x2_10]) (rest := []) (wr := [(qt, .inr (2, [.ref qt_tape, .ref qt_draft, .int t_fault, .int t_at, .int t_sort, .int t_start, .int t_value, .int t_lawTold, .int t_countersTold])), (qt_tape, .inr (6, [.ref qt_tape_bytes, .int t_tape_length])), (qt_tape_bytes, .inl (cB, 400, .inl t_tape_bytes))]) ⟨hx, hb, hml, hown, hts⟩ (k_Twn_owed l D cI cB cZ cS cT qt_draft qt_draft_kind qt_draft_father qt_draft_comes qt_draft_wants qt_draft_cost qt_draft_coins qt_draft_debts t_draft_people t_draft_law t_draft_counters t_draft_kind t_draft_father t_draft_comes t_draft_wants t_draft_cost t_draft_coins t_draft_debts x1_1 x2_10 _ hc) (cwV 2 hts gX2_allAreThere_X7_owed rfl rfl rfl (by decide +kernel) ⟨Nat.le_of_ble_eq_true rfl, Nat.le_of_ble_eq_true rfl⟩) hK hP hD hS hA [1, 2, 3, 4, 5, 6, 7, 8] [0, 9, 10] [0, 3, 4, 5, 6, 7, 8, 9, 10, 1, 2] (w_Rdr cI cB cZ cS cT qt qt_draft qt_draft_kind qt_draft_father qt_draft_comes qt_draft_wants qt_draft_cost qt_draft_coins qt_draft_debts qt_tape qt_tape_bytes t_fault t_at t_sort t_start t_value t_lawTold t_countersTold t_draft_people t_draft_law t_draft_counters t_draft_kind t_draft_father t_draft_comes t_draft_wants t_draft_cost t_draft_coins t_draft_debts t_tape_length t_tape_bytes) rfl rfl rfl rfl (by decide) rfl rfl 7 0 rfl rfl rfl rfl hl.1 rfl (Nat.le_of_ble_eq_true rfl) dX2_allAreThere_72 ⟨Nat.zero_le _, Nat.zero_le _⟩ (fun H locs hP hD hS => ?_)
                  refine mr_if_le (tgt := 97) hx hb hM dX2_allAreThere_75 (by decide) (fun hM => ?_) (fun hM => ?_)
                  · refine mr_iinc (k := 2) (d := 1) hx hb (fun x2_12 => [(2, .int x2_12), (0, .ref qt), (1, .int x1_1)]) hM (by decide) dX2_allAreThere_97 hl rfl (by decide) (fun _ => rfl) (fun x2_12 hM ls hl => ?_)
                    refine lv_goto (tgt := 60) hx hb dX2_allAreThere_100 (by decide) ?_
                    exact ih x2_12 hM _ _ hP hD hS ls (lv_sub hl [1, 2, 0] rfl)
                  · refine lv_aload_n hx hb dX2_allAreThere_78 rfl (lv_at hl 0 rfl) ?_
                    refine va_get (D := D) (ci := 2) (v := .ref qt_draft) (C := RX2) (T := TX2) (N := 9) hx hb hts inX2w hown hK hP 0 rfl rfl 1 (by decide) hf21 (fun _ h9 => h9) rfl dX2_allAreThere_79 ?_
                    refine lv_iload_n hx hb dX2_allAreThere_82 rfl (lv_at hl 1 rfl) ?_
                    refine lv_iload_n hx hb dX2_allAreThere_83 rfl (lv_at hl 2 rfl) ?_
                    obtain ⟨o_13, hc, hM⟩ := bind_so hM
                    refine mr_callVi (As := [.int x1_1, .int x2_10]) (rest := []) (wr := [(qt, .inr (2, [.ref qt_tape, .ref qt_draft, .int t_fault, .int t_at, .int t_sort, .int t_start, .int t_value, .int t_lawTold, .int t_countersTold])), (qt_tape, .inr (6, [.ref qt_tape_bytes, .int t_tape_length])), (qt_tape_bytes, .inl (cB, 400, .inl t_tape_bytes))]) ⟨hx, hb, hml, hown, hts⟩ (k_Twn_areTwo l D cI cB cZ cS cT qt_draft qt_draft_kind qt_draft_father qt_draft_comes qt_draft_wants qt_draft_cost qt_draft_coins qt_draft_debts t_draft_people t_draft_law t_draft_counters t_draft_kind t_draft_father t_draft_comes t_draft_wants t_draft_cost t_draft_coins t_draft_debts x1_1 x2_10 _ hc) (cwV 2 hts gX2_allAreThere_X7_areTwo rfl rfl rfl (by decide +kernel) ⟨Nat.le_of_ble_eq_true rfl, Nat.le_of_ble_eq_true rfl⟩) hK hP hD hS hA [1, 2, 3, 4, 5, 6, 7, 8] [0, 9, 10] [0, 3, 4, 5, 6, 7, 8, 9, 10, 1, 2] (w_Rdr cI cB cZ cS cT qt qt_draft qt_draft_kind qt_draft_father qt_draft_comes qt_draft_wants qt_draft_cost qt_draft_coins qt_draft_debts qt_tape qt_tape_bytes t_fault t_at t_sort t_start t_value t_lawTold t_countersTold t_draft_people t_draft_law t_draft_counters t_draft_kind t_draft_father t_draft_comes t_draft_wants t_draft_cost t_draft_coins t_draft_debts t_tape_length t_tape_bytes) rfl rfl rfl rfl (by decide) rfl rfl 7 0 rfl rfl rfl rfl hl.1 rfl (Nat.le_of_ble_eq_true rfl) dX2_allAreThere_84 ⟨Nat.zero_le _, Nat.zero_le _⟩ (fun H locs hP hD hS => ?_)
                    refine mr_if_ne (tgt := 97) hx hb hM dX2_allAreThere_87 (by decide) (fun hM => ?_) (fun hM => ?_)
                    · refine mr_iinc (k := 2) (d := 1) hx hb (fun x2_14 => [(2, .int x2_14), (0, .ref qt), (1, .int x1_1)]) hM (by decide) dX2_allAreThere_97 hl rfl (by decide) (fun _ => rfl) (fun x2_14 hM ls hl => ?_)
                      refine lv_goto (tgt := 60) hx hb dX2_allAreThere_100 (by decide) ?_
                      exact ih x2_14 hM _ _ hP hD hS ls (lv_sub hl [1, 2, 0] rfl)
                    · exact hK90  hM _ _ hP hD hS ls (lv_sub hl [0] rfl)
            refine hL60 _ _ (fun  hM H locs hP hD hS ls hl => ?_) (fun  hM H locs hP hD hS ls hl => ?_) _ 0 hM _ _ hP hD hS ls (lv_sub hl [1, 2, 0] rfl)
            · exact hK90  hM _ _ hP hD hS ls (lv_sub hl [0] rfl)
            · refine mr_iinc (k := 1) (d := 1) hx hb (fun x1_15 => [(1, .int x1_15), (0, .ref qt)]) hM (by decide) dX2_allAreThere_103 hl rfl (by decide) (fun _ => rfl) (fun x1_15 hM ls hl => ?_)
              refine lv_goto (tgt := 2) hx hb dX2_allAreThere_106 (by decide) ?_
              exact ih x1_15 hM _ _ hP hD hS ls (lv_sub hl [1, 0] rfl)
          · refine lv_aload_n hx hb dX2_allAreThere_32 rfl (lv_at hl 0 rfl) ?_
            refine va_get (D := D) (ci := 2) (v := .ref qt_draft) (C := RX2) (T := TX2) (N := 9) hx hb hts inX2w hown hK hP 0 rfl rfl 1 (by decide) hf21 (fun _ h9 => h9) rfl dX2_allAreThere_33 ?_
            refine lv_aload_n hx hb dX2_allAreThere_36 rfl (lv_at hl 0 rfl) ?_
            refine va_get (D := D) (ci := 2) (v := .ref qt_draft) (C := RX2) (T := TX2) (N := 9) hx hb hts inX2w hown hK hP 0 rfl rfl 1 (by decide) hf21 (fun _ h9 => h9) rfl dX2_allAreThere_37 ?_
            refine va_get (D := D) (ci := 7) (v := .ref qt_draft_father) (C := RX7) (T := TX7) (N := 10) hx hb hts inX7w hown hK hP 1 rfl rfl 4 (by decide) hf126 (fun _ h9 => h9) rfl dX2_allAreThere_40 ?_
            refine lv_iload_n hx hb dX2_allAreThere_43 rfl (lv_at hl 1 rfl) ?_
            refine mr_iald hx hb hK hP 3 0 rfl rfl hM dX2_allAreThere_44 (fun v_16 hM => ?_)
            obtain ⟨o_17, hc, hM⟩ := bind_so hM
            refine mr_callVi (As := [.int v_16]) (rest := []) (wr := [(qt, .inr (2, [.ref qt_tape, .ref qt_draft, .int t_fault, .int t_at, .int t_sort, .int t_start, .int t_value, .int t_lawTold, .int t_countersTold])), (qt_tape, .inr (6, [.ref qt_tape_bytes, .int t_tape_length])), (qt_tape_bytes, .inl (cB, 400, .inl t_tape_bytes))]) ⟨hx, hb, hml, hown, hts⟩ (k_Twn_isOne l D cI cB cZ cS cT qt_draft qt_draft_kind qt_draft_father qt_draft_comes qt_draft_wants qt_draft_cost qt_draft_coins qt_draft_debts t_draft_people t_draft_law t_draft_counters t_draft_kind t_draft_father t_draft_comes t_draft_wants t_draft_cost t_draft_coins t_draft_debts v_16 _ hc) (cwV 1 hts gX2_allAreThere_X7_isOne rfl rfl rfl (by decide +kernel) ⟨Nat.le_of_ble_eq_true rfl, Nat.le_of_ble_eq_true rfl⟩) hK hP hD hS hA [1, 2, 3, 4, 5, 6, 7, 8] [0, 9, 10] [0, 3, 4, 5, 6, 7, 8, 9, 10, 1, 2] (w_Rdr cI cB cZ cS cT qt qt_draft qt_draft_kind qt_draft_father qt_draft_comes qt_draft_wants qt_draft_cost qt_draft_coins qt_draft_debts qt_tape qt_tape_bytes t_fault t_at t_sort t_start t_value t_lawTold t_countersTold t_draft_people t_draft_law t_draft_counters t_draft_kind t_draft_father t_draft_comes t_draft_wants t_draft_cost t_draft_coins t_draft_debts t_tape_length t_tape_bytes) rfl rfl rfl rfl (by decide) rfl rfl 7 0 rfl rfl rfl rfl hl.1 rfl (Nat.le_of_ble_eq_true rfl) dX2_allAreThere_45 ⟨Nat.zero_le _, Nat.zero_le _⟩ (fun H locs hP hD hS => ?_)
            refine mr_if_ne (tgt := 58) hx hb hM dX2_allAreThere_48 (by decide) (fun hM => ?_) (fun hM => ?_)
            · refine lv_iconst (v := 0) hx hb dX2_allAreThere_58 (by decide) ?_
              refine lv_istore_n (lv' := [(2, .int 0), (0, .ref qt), (1, .int x1_1)]) hx hb dX2_allAreThere_59 rfl hl (by decide) rfl (fun ls hl => ?_)
              have hL60 : ∀ (K90 : Option (Int32 × Int32)) (K103 : Option (Int32 × Int32)), (K90  = some o → ∀ (H : Heap) (locs : List Loc), va_P D vwCl (w_Rdr cI cB cZ cS cT qt qt_draft qt_draft_kind qt_draft_father qt_draft_comes qt_draft_wants qt_draft_cost qt_draft_coins qt_draft_debts qt_tape qt_tape_bytes t_fault t_at t_sort t_start t_value t_lawTold t_countersTold t_draft_people t_draft_law t_draft_counters t_draft_kind t_draft_father t_draft_comes t_draft_wants t_draft_cost t_draft_coins t_draft_debts t_tape_length t_tape_bytes) H → va_D A (w_Rdr cI cB cZ cS cT qt qt_draft qt_draft_kind qt_draft_father qt_draft_comes qt_draft_wants qt_draft_cost qt_draft_coins qt_draft_debts qt_tape qt_tape_bytes t_fault t_at t_sort t_start t_value t_lawTold t_countersTold t_draft_people t_draft_law t_draft_counters t_draft_kind t_draft_father t_draft_comes t_draft_wants t_draft_cost t_draft_coins t_draft_debts t_tape_length t_tape_bytes) → va_S A s.heap H locs → ∀ ls : Array Slot, lv_has ls 3 [(0, .ref qt)] → W p l e rmX2_allAreThere s m av below meth c H locs 0 0 Q (F0 m 90 ls [])) → (K103  = some o → ∀ (H : Heap) (locs : List Loc), va_P D vwCl (w_Rdr cI cB cZ cS cT qt qt_draft qt_draft_kind qt_draft_father qt_draft_comes qt_draft_wants qt_draft_cost qt_draft_coins qt_draft_debts qt_tape qt_tape_bytes t_fault t_at t_sort t_start t_value t_lawTold t_countersTold t_draft_people t_draft_law t_draft_counters t_draft_kind t_draft_father t_draft_comes t_draft_wants t_draft_cost t_draft_coins t_draft_debts t_tape_length t_tape_bytes) H → va_D A (w_Rdr cI cB cZ cS cT qt qt_draft qt_draft_kind qt_draft_father qt_draft_comes qt_draft_wants qt_draft_cost qt_draft_coins qt_draft_debts qt_tape qt_tape_bytes t_fault t_at t_sort t_start t_value t_lawTold t_countersTold t_draft_people t_draft_law t_draft_counters t_draft_kind t_draft_father t_draft_comes t_draft_wants t_draft_cost t_draft_coins t_draft_debts t_tape_length t_tape_bytes) → va_S A s.heap H locs → ∀ ls : Array Slot, lv_has ls 3 [(0, .ref qt), (1, .int x1_1)] → W p l e rmX2_allAreThere s m av below meth c H locs 0 0 Q (F0 m 103 ls [])) → ∀ (n : Nat) (x2_18 : Int32), Rdr_allAreThere_L60'' t_draft_people t_draft_debts x1_1 K90 K103 n x2_18 = some o → ∀ (H : Heap) (locs : List Loc), va_P D vwCl (w_Rdr cI cB cZ cS cT qt qt_draft qt_draft_kind qt_draft_father qt_draft_comes qt_draft_wants qt_draft_cost qt_draft_coins qt_draft_debts qt_tape qt_tape_bytes t_fault t_at t_sort t_start t_value t_lawTold t_countersTold t_draft_people t_draft_law t_draft_counters t_draft_kind t_draft_father t_draft_comes t_draft_wants t_draft_cost t_draft_coins t_draft_debts t_tape_length t_tape_bytes) H → va_D A (w_Rdr cI cB cZ cS cT qt qt_draft qt_draft_kind qt_draft_father qt_draft_comes qt_draft_wants qt_draft_cost qt_draft_coins qt_draft_debts qt_tape qt_tape_bytes t_fault t_at t_sort t_start t_value t_lawTold t_countersTold t_draft_people t_draft_law t_draft_counters t_draft_kind t_draft_father t_draft_comes t_draft_wants t_draft_cost t_draft_coins t_draft_debts t_tape_length t_tape_bytes) → va_S A s.heap H locs → ∀ ls : Array Slot, lv_has ls 3 [(0, .ref qt), (1, .int x1_1), (2, .int x2_18)] → W p l e rmX2_allAreThere s m av below meth c H locs 0 0 Q (F0 m 60 ls []) := by
                intro K90 K103 hK90 hK103 n
                induction n with
                | zero =>
                  intro x2_18 hM
                  rw [Rdr_allAreThere_L60''] at hM
                  cases hM
                | succ n ih =>
                  intro x2_18 hM H locs hP hD hS ls hl
                  rw [Rdr_allAreThere_L60''] at hM
                  refine lv_iload_n hx hb dX2_allAreThere_60 rfl (lv_at hl 2 rfl) ?_
                  refine lv_bipush (v := 7) hx hb dX2_allAreThere_61 (by decide) ?_
                  refine mr_icmp_ge (tgt := 103) hx hb hM dX2_allAreThere_63 (by decide) (fun hM => ?_) (fun hM => ?_)
                  · exact hK103  hM _ _ hP hD hS ls (lv_sub hl [0, 1] rfl)
                  · refine lv_aload_n hx hb dX2_allAreThere_66 rfl (lv_at hl 0 rfl) ?_
                    refine va_get (D := D) (ci := 2) (v := .ref qt_draft) (C := RX2) (T := TX2) (N := 9) hx hb hts inX2w hown hK hP 0 rfl rfl 1 (by decide) hf21 (fun _ h9 => h9) rfl dX2_allAreThere_67 ?_
                    refine lv_iload_n hx hb dX2_allAreThere_70 rfl (lv_at hl 1 rfl) ?_
                    refine lv_iload_n hx hb dX2_allAreThere_71 rfl (lv_at hl 2 rfl) ?_
                    obtain ⟨o_19, hc, hM⟩ := bind_so hM
                    refine mr_callVi (As := [.int x1_1, .int x2_18]) (rest := []) (wr := [(qt, .inr (2, [.ref qt_tape, .ref qt_draft, .int t_fault, .int t_at, .int t_sort, .int t_start, .int t_value, .int t_lawTold, .int t_countersTold])), (qt_tape, .inr (6, [.ref qt_tape_bytes, .int t_tape_length])), (qt_tape_bytes, .inl (cB, 400, .inl t_tape_bytes))]) ⟨hx, hb, hml, hown, hts⟩ (k_Twn_owed l D cI cB cZ cS cT qt_draft qt_draft_kind qt_draft_father qt_draft_comes qt_draft_wants qt_draft_cost qt_draft_coins qt_draft_debts t_draft_people t_draft_law t_draft_counters t_draft_kind t_draft_father t_draft_comes t_draft_wants t_draft_cost t_draft_coins t_draft_debts x1_1 x2_18 _ hc) (cwV 2 hts gX2_allAreThere_X7_owed rfl rfl rfl (by decide +kernel) ⟨Nat.le_of_ble_eq_true rfl, Nat.le_of_ble_eq_true rfl⟩) hK hP hD hS hA [1, 2, 3, 4, 5, 6, 7, 8] [0, 9, 10] [0, 3, 4, 5, 6, 7, 8, 9, 10, 1, 2] (w_Rdr cI cB cZ cS cT qt qt_draft qt_draft_kind qt_draft_father qt_draft_comes qt_draft_wants qt_draft_cost qt_draft_coins qt_draft_debts qt_tape qt_tape_bytes t_fault t_at t_sort t_start t_value t_lawTold t_countersTold t_draft_people t_draft_law t_draft_counters t_draft_kind t_draft_father t_draft_comes t_draft_wants t_draft_cost t_draft_coins t_draft_debts t_tape_length t_tape_bytes) rfl rfl rfl rfl (by decide) rfl rfl 7 0 rfl rfl rfl rfl hl.1 rfl (Nat.le_of_ble_eq_true rfl) dX2_allAreThere_72 ⟨Nat.zero_le _, Nat.zero_le _⟩ (fun H locs hP hD hS => ?_)
                    refine mr_if_le (tgt := 97) hx hb hM dX2_allAreThere_75 (by decide) (fun hM => ?_) (fun hM => ?_)
                    · refine mr_iinc (k := 2) (d := 1) hx hb (fun x2_20 => [(2, .int x2_20), (0, .ref qt), (1, .int x1_1)]) hM (by decide) dX2_allAreThere_97 hl rfl (by decide) (fun _ => rfl) (fun x2_20 hM ls hl => ?_)
                      refine lv_goto (tgt := 60) hx hb dX2_allAreThere_100 (by decide) ?_
                      exact ih x2_20 hM _ _ hP hD hS ls (lv_sub hl [1, 2, 0] rfl)
                    · refine lv_aload_n hx hb dX2_allAreThere_78 rfl (lv_at hl 0 rfl) ?_
                      refine va_get (D := D) (ci := 2) (v := .ref qt_draft) (C := RX2) (T := TX2) (N := 9) hx hb hts inX2w hown hK hP 0 rfl rfl 1 (by decide) hf21 (fun _ h9 => h9) rfl dX2_allAreThere_79 ?_
                      refine lv_iload_n hx hb dX2_allAreThere_82 rfl (lv_at hl 1 rfl) ?_
                      refine lv_iload_n hx hb dX2_allAreThere_83 rfl (lv_at hl 2 rfl) ?_
                      obtain ⟨o_21, hc, hM⟩ := bind_so hM
                      refine mr_callVi (As := [.int x1_1, .int x2_18]) (rest := []) (wr := [(qt, .inr (2, [.ref qt_tape, .ref qt_draft, .int t_fault, .int t_at, .int t_sort, .int t_start, .int t_value, .int t_lawTold, .int t_countersTold])), (qt_tape, .inr (6, [.ref qt_tape_bytes, .int t_tape_length])), (qt_tape_bytes, .inl (cB, 400, .inl t_tape_bytes))]) ⟨hx, hb, hml, hown, hts⟩ (k_Twn_areTwo l D cI cB cZ cS cT qt_draft qt_draft_kind qt_draft_father qt_draft_comes qt_draft_wants qt_draft_cost qt_draft_coins qt_draft_debts t_draft_people t_draft_law t_draft_counters t_draft_kind t_draft_father t_draft_comes t_draft_wants t_draft_cost t_draft_coins t_draft_debts x1_1 x2_18 _ hc) (cwV 2 hts gX2_allAreThere_X7_areTwo rfl rfl rfl (by decide +kernel) ⟨Nat.le_of_ble_eq_true rfl, Nat.le_of_ble_eq_true rfl⟩) hK hP hD hS hA [1, 2, 3, 4, 5, 6, 7, 8] [0, 9, 10] [0, 3, 4, 5, 6, 7, 8, 9, 10, 1, 2] (w_Rdr cI cB cZ cS cT qt qt_draft qt_draft_kind qt_draft_father qt_draft_comes qt_draft_wants qt_draft_cost qt_draft_coins qt_draft_debts qt_tape qt_tape_bytes t_fault t_at t_sort t_start t_value t_lawTold t_countersTold t_draft_people t_draft_law t_draft_counters t_draft_kind t_draft_father t_draft_comes t_draft_wants t_draft_cost t_draft_coins t_draft_debts t_tape_length t_tape_bytes) rfl rfl rfl rfl (by decide) rfl rfl 7 0 rfl rfl rfl rfl hl.1 rfl (Nat.le_of_ble_eq_true rfl) dX2_allAreThere_84 ⟨Nat.zero_le _, Nat.zero_le _⟩ (fun H locs hP hD hS => ?_)
                      refine mr_if_ne (tgt := 97) hx hb hM dX2_allAreThere_87 (by decide) (fun hM => ?_) (fun hM => ?_)
                      · refine mr_iinc (k := 2) (d := 1) hx hb (fun x2_22 => [(2, .int x2_22), (0, .ref qt), (1, .int x1_1)]) hM (by decide) dX2_allAreThere_97 hl rfl (by decide) (fun _ => rfl) (fun x2_22 hM ls hl => ?_)
                        refine lv_goto (tgt := 60) hx hb dX2_allAreThere_100 (by decide) ?_
                        exact ih x2_22 hM _ _ hP hD hS ls (lv_sub hl [1, 2, 0] rfl)
                      · exact hK90  hM _ _ hP hD hS ls (lv_sub hl [0] rfl)
              refine hL60 _ _ (fun  hM H locs hP hD hS ls hl => ?_) (fun  hM H locs hP hD hS ls hl => ?_) _ 0 hM _ _ hP hD hS ls (lv_sub hl [1, 2, 0] rfl)
              · exact hK90  hM _ _ hP hD hS ls (lv_sub hl [0] rfl)
              · refine mr_iinc (k := 1) (d := 1) hx hb (fun x1_23 => [(1, .int x1_23), (0, .ref qt)]) hM (by decide) dX2_allAreThere_103 hl rfl (by decide) (fun _ => rfl) (fun x1_23 hM ls hl => ?_)
                refine lv_goto (tgt := 2) hx hb dX2_allAreThere_106 (by decide) ?_
                exact ih x1_23 hM _ _ hP hD hS ls (lv_sub hl [1, 0] rfl)
            · exact hK51  hM _ _ hP hD hS ls (lv_sub hl [0] rfl)
  refine hL2 _ _ _ (fun  hM H locs hP hD hS ls hl => ?_) (fun  hM H locs hP hD hS ls hl => ?_) (fun  hM H locs hP hD hS ls hl => ?_) _ 0 hM _ _ hP hD hS ls (lv_sub hl [1, 0] rfl)
  · refine lv_aload_n hx hb dX2_allAreThere_51 rfl (lv_at hl 0 rfl) ?_
    refine lv_bipush (v := 6) hx hb dX2_allAreThere_52 (by decide) ?_
    obtain ⟨o_24, hc, hM⟩ := bind_so hM
    refine mr_callVi (As := [.int 6]) (rest := []) (wr := []) ⟨hx, hb, hml, hown, hts⟩ (k_Rdr_isFaulty l D cI cB cZ cS cT qt qt_draft qt_draft_kind qt_draft_father qt_draft_comes qt_draft_wants qt_draft_cost qt_draft_coins qt_draft_debts qt_tape qt_tape_bytes t_fault t_at t_sort t_start t_value t_lawTold t_countersTold t_draft_people t_draft_law t_draft_counters t_draft_kind t_draft_father t_draft_comes t_draft_wants t_draft_cost t_draft_coins t_draft_debts t_tape_length t_tape_bytes 6 _ hc) (cwV 1 hts gX2_allAreThere_X2_isFaulty rfl rfl rfl (by decide +kernel) ⟨Nat.le_of_ble_eq_true rfl, Nat.le_of_ble_eq_true rfl⟩) hK hP hD hS hA [0, 1, 2, 3, 4, 5, 6, 7, 8, 9, 10] [] [0, 1, 2, 3, 4, 5, 6, 7, 8, 9, 10] (w_Rdr cI cB cZ cS cT qt qt_draft qt_draft_kind qt_draft_father qt_draft_comes qt_draft_wants qt_draft_cost qt_draft_coins qt_draft_debts qt_tape qt_tape_bytes o_24.2 t_at t_sort t_start t_value t_lawTold t_countersTold t_draft_people t_draft_law t_draft_counters t_draft_kind t_draft_father t_draft_comes t_draft_wants t_draft_cost t_draft_coins t_draft_debts t_tape_length t_tape_bytes) rfl rfl rfl rfl (by decide) rfl rfl 2 0 rfl rfl rfl rfl hl.1 rfl (Nat.le_of_ble_eq_true rfl) dX2_allAreThere_54 ⟨Nat.zero_le _, Nat.zero_le _⟩ (fun H locs hP hD hS => ?_)
    obtain ⟨hz, hM⟩ := guard_so hM
    have hM := Option.some.inj hM
    subst hM
    exact mr_zret hx hb hr (narrow_z hz) hlocks hQ hP hD hS rfl dX2_allAreThere_57
  · refine lv_aload_n hx hb dX2_allAreThere_90 rfl (lv_at hl 0 rfl) ?_
    refine lv_bipush (v := 6) hx hb dX2_allAreThere_91 (by decide) ?_
    obtain ⟨o_25, hc, hM⟩ := bind_so hM
    refine mr_callVi (As := [.int 6]) (rest := []) (wr := []) ⟨hx, hb, hml, hown, hts⟩ (k_Rdr_isFaulty l D cI cB cZ cS cT qt qt_draft qt_draft_kind qt_draft_father qt_draft_comes qt_draft_wants qt_draft_cost qt_draft_coins qt_draft_debts qt_tape qt_tape_bytes t_fault t_at t_sort t_start t_value t_lawTold t_countersTold t_draft_people t_draft_law t_draft_counters t_draft_kind t_draft_father t_draft_comes t_draft_wants t_draft_cost t_draft_coins t_draft_debts t_tape_length t_tape_bytes 6 _ hc) (cwV 1 hts gX2_allAreThere_X2_isFaulty rfl rfl rfl (by decide +kernel) ⟨Nat.le_of_ble_eq_true rfl, Nat.le_of_ble_eq_true rfl⟩) hK hP hD hS hA [0, 1, 2, 3, 4, 5, 6, 7, 8, 9, 10] [] [0, 1, 2, 3, 4, 5, 6, 7, 8, 9, 10] (w_Rdr cI cB cZ cS cT qt qt_draft qt_draft_kind qt_draft_father qt_draft_comes qt_draft_wants qt_draft_cost qt_draft_coins qt_draft_debts qt_tape qt_tape_bytes o_25.2 t_at t_sort t_start t_value t_lawTold t_countersTold t_draft_people t_draft_law t_draft_counters t_draft_kind t_draft_father t_draft_comes t_draft_wants t_draft_cost t_draft_coins t_draft_debts t_tape_length t_tape_bytes) rfl rfl rfl rfl (by decide) rfl rfl 2 0 rfl rfl rfl rfl hl.1 rfl (Nat.le_of_ble_eq_true rfl) dX2_allAreThere_93 ⟨Nat.zero_le _, Nat.zero_le _⟩ (fun H locs hP hD hS => ?_)
    obtain ⟨hz, hM⟩ := guard_so hM
    have hM := Option.some.inj hM
    subst hM
    exact mr_zret hx hb hr (narrow_z hz) hlocks hQ hP hD hS rfl dX2_allAreThere_96
  · refine lv_iconst (v := 1) hx hb dX2_allAreThere_109 (by decide) ?_
    have hM := Option.some.inj hM
    subst hM
    exact mr_zret hx hb hr (by decide) hlocks hQ hP hD hS rfl dX2_allAreThere_110
