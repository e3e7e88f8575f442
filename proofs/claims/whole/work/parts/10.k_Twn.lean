abbrev rmX7_becomeEmpty : Room := { frames := 0, cells := 0, slots := 0, locals := 0 }
set_option maxHeartbeats 40000000 in
set_option maxRecDepth 100000 in
theorem k_Twn_becomeEmpty (l : Launch) (D : va_G) (cI cB cZ cS cT : ClassId) (qt qt_kind qt_father qt_comes qt_wants qt_cost qt_coins qt_debts : Nat) (t_people t_law t_counters : Int32) (t_kind t_father t_comes t_wants t_cost t_coins t_debts : Nat → Int32)  (o : Int32 × Int32 × Int32 × (Nat → Int32)) (hM : Twn_becomeEmpty t_debts = some o) : mtV l yX7_becomeEmpty wsX7_becomeEmpty rmX7_becomeEmpty D (tys5 cI cB cZ cS cT) [.ref qt] (w_Twn cI cB cZ cS cT qt qt_kind qt_father qt_comes qt_wants qt_cost qt_coins qt_debts t_people t_law t_counters t_kind t_father t_comes t_wants t_cost t_coins t_debts) (w_Twn cI cB cZ cS cT qt qt_kind qt_father qt_comes qt_wants qt_cost qt_coins qt_debts o.1 o.2.1 o.2.2.1 t_kind t_father t_comes t_wants t_cost t_coins o.2.2.2) := by
  refine mtV.of (cc := cX7_becomeEmpty) (maxL := 2) (ret := none) (by decide) rfl (Nat.le_of_ble_eq_true rfl) ?_
  intro p e s m below meth c A Q av hav hQ hx hb hr hml hown hts hlocks hK hP hD hA hS ls hl
  have hown : s.vm.findClass RX7 = some m.cls := hown
  have hl : lv_has ls 2 [(0, .ref qt)] := hl
  unfold Twn_becomeEmpty at hM
  have inX7w : ∀ w ∈ u_ws RX7 TX7 10, w ∈ wsX7_becomeEmpty := by decide +kernel
  have hf37 := hts (.fieldLink RX7 37 "LetsIn$Town" "people" "I") (by decide +kernel)
  have hf40 := hts (.fieldLink RX7 40 "LetsIn$Town" "law" "I") (by decide +kernel)
  have hf9 := hts (.fieldLink RX7 9 "LetsIn$Town" "counters" "I") (by decide +kernel)
  have hf34 := hts (.fieldLink RX7 34 "LetsIn$Town" "debts" "[I") (by decide +kernel)
  refine lv_aload_n hx hb dX7_becomeEmpty_0 rfl (lv_at hl 0 rfl) ?_
  refine lv_iconst (v := 0) hx hb dX7_becomeEmpty_1 (by decide) ?_
  refine mr_put (D := D) (ci := 7) (v := .int 0) (ty := .int) (C := RX7) (T := TX7) (N := 10) hx hb hts inX7w tyX7 tyX7_ok nmX7 hown hK hP hD hS 0 rfl rfl 0 (by decide) hf37 (fun _ h9 => h9) rfl (by decide +kernel) rfl rfl (Nat.le_of_ble_eq_true rfl) dX7_becomeEmpty_2 (w_Twn cI cB cZ cS cT qt qt_kind qt_father qt_comes qt_wants qt_cost qt_coins qt_debts 0 t_law t_counters t_kind t_father t_comes t_wants t_cost t_coins t_debts) rfl (fun H locs hP hD hS => ?_)
  refine lv_aload_n hx hb dX7_becomeEmpty_5 rfl (lv_at hl 0 rfl) ?_
  refine lv_iconst (v := 0) hx hb dX7_becomeEmpty_6 (by decide) ?_
  refine mr_put (D := D) (ci := 7) (v := .int 0) (ty := .int) (C := RX7) (T := TX7) (N := 10) hx hb hts inX7w tyX7 tyX7_ok nmX7 hown hK hP hD hS 0 rfl rfl 1 (by decide) hf40 (fun _ h9 => h9) rfl (by decide +kernel) rfl rfl (Nat.le_of_ble_eq_true rfl) dX7_becomeEmpty_7 (w_Twn cI cB cZ cS cT qt qt_kind qt_father qt_comes qt_wants qt_cost qt_coins qt_debts 0 0 t_counters t_kind t_father t_comes t_wants t_cost t_coins t_debts) rfl (fun H locs hP hD hS => ?_)
  refine lv_aload_n hx hb dX7_becomeEmpty_10 rfl (lv_at hl 0 rfl) ?_
  refine lv_iconst (v := 1) hx hb dX7_becomeEmpty_11 (by decide) ?_
  refine mr_put (D := D) (ci := 7) (v := .int 1) (ty := .int) (C := RX7) (T := TX7) (N := 10) hx hb hts inX7w tyX7 tyX7_ok nmX7 hown hK hP hD hS 0 rfl rfl 2 (by decide) hf9 (fun _ h9 => h9) rfl (by decide +kernel) rfl rfl (Nat.le_of_ble_eq_true rfl) dX7_becomeEmpty_12 (w_Twn cI cB cZ cS cT qt qt_kind qt_father qt_comes qt_wants qt_cost qt_coins qt_debts 0 0 1 t_kind t_father t_comes t_wants t_cost t_coins t_debts) rfl (fun H locs hP hD hS => ?_)
  refine lv_iconst (v := 0) hx hb dX7_becomeEmpty_15 (by decide) ?_
  refine lv_istore_n (lv' := [(1, .int 0), (0, .ref qt)]) hx hb dX7_becomeEmpty_16 rfl hl (by decide) rfl (fun ls hl => ?_)
  have hL17 : ∀ (K36 : (Nat → Int32) → Option (Int32 × Int32 × Int32 × (Nat → Int32))), (∀ (t_debts_5 : Nat → Int32), K36 t_debts_5 = some o → ∀ (H : Heap) (locs : List Loc), va_P D vwCl (w_Twn cI cB cZ cS cT qt qt_kind qt_father qt_comes qt_wants qt_cost qt_coins qt_debts 0 0 1 t_kind t_father t_comes t_wants t_cost t_coins t_debts_5) H → va_D A (w_Twn cI cB cZ cS cT qt qt_kind qt_father qt_comes qt_wants qt_cost qt_coins qt_debts 0 0 1 t_kind t_father t_comes t_wants t_cost t_coins t_debts_5) → va_S A s.heap H locs → ∀ ls : Array Slot, lv_has ls 2 [] → W p l e rmX7_becomeEmpty s m av below meth c H locs 0 0 Q (F0 m 36 ls [])) → ∀ (n : Nat) (x1_1 : Int32) (t_debts_2 : Nat → Int32), Twn_becomeEmpty_L17 K36 n x1_1 t_debts_2 = some o → ∀ (H : Heap) (locs : List Loc), va_P D vwCl (w_Twn cI cB cZ cS cT qt qt_kind qt_father qt_comes qt_wants qt_cost qt_coins qt_debts 0 0 1 t_kind t_father t_comes t_wants t_cost t_coins t_debts_2) H → va_D A (w_Twn cI cB cZ cS cT qt qt_kind qt_father qt_comes qt_wants qt_cost qt_coins qt_debts 0 0 1 t_kind t_father t_comes t_wants t_cost t_coins t_debts_2) → va_S A s.heap H locs → ∀ ls : Array Slot, lv_has ls 2 [(0, .ref qt), (1, .int x1_1)] → W p l e rmX7_becomeEmpty s m av below meth c H locs 0 0 Q (F0 m 17 ls []) := by
    intro K36 hK36 n
    induction n with
    | zero =>
      intro x1_1 t_debts_2 hM
      rw [Twn_becomeEmpty_L17] at hM
      cases hM
    | succ n ih =>
      intro x1_1 t_debts_2 hM H locs hP hD hS ls hl
      rw [Twn_becomeEmpty_L17] at hM
      refine lv_iload_n hx hb dX7_becomeEmpty_17 rfl (lv_at hl 1 rfl) ?_
      refine lv_bipush (v := 49) hx hb dX7_becomeEmpty_18 (by decide) ?_
      refine mr_icmp_ge (tgt := 36) hx hb hM dX7_becomeEmpty_20 (by decide) (fun hM => ?_) (fun hM => ?_)
      · exact hK36 t_debts_2 hM _ _ hP hD hS ls (lv_sub hl [] rfl)
      · refine lv_aload_n hx hb dX7_becomeEmpty_23 rfl (lv_at hl 0 rfl) ?_
        refine va_get (D := D) (ci := 7) (v := .ref qt_debts) (C := RX7) (T := TX7) (N := 10) hx hb hts inX7w hown hK hP 0 rfl rfl 9 (by decide) hf34 (fun _ h9 => h9) rfl dX7_becomeEmpty_24 ?_
        refine lv_iload_n hx hb dX7_becomeEmpty_27 rfl (lv_at hl 1 rfl) ?_
        refine lv_iconst (v := 0) hx hb dX7_becomeEmpty_28 (by decide) ?_
        refine mr_iast hx hb hK hP hD hS 7 0 (fun t_debts_3 => (w_Twn cI cB cZ cS cT qt qt_kind qt_father qt_comes qt_wants qt_cost qt_coins qt_debts 0 0 1 t_kind t_father t_comes t_wants t_cost t_coins t_debts_3)) rfl rfl (fun _ => rfl) hM dX7_becomeEmpty_29 (fun t_debts_3 hM H locs hP hD hS => ?_)
        refine mr_iinc (k := 1) (d := 1) hx hb (fun x1_4 => [(1, .int x1_4), (0, .ref qt)]) hM (by decide) dX7_becomeEmpty_30 hl rfl (by decide) (fun _ => rfl) (fun x1_4 hM ls hl => ?_)
        refine lv_goto (tgt := 17) hx hb dX7_becomeEmpty_33 (by decide) ?_
        exact ih x1_4 t_debts_3 hM _ _ hP hD hS ls (lv_sub hl [1, 0] rfl)
  refine hL17 _ (fun t_debts_5 hM H locs hP hD hS ls hl => ?_) _ 0 t_debts hM _ _ hP hD hS ls (lv_sub hl [1, 0] rfl)
  have hM := Option.some.inj hM
  subst hM
  exact mr_vret hx hb hr hlocks hQ hP hD hS dX7_becomeEmpty_36

abbrev rmX7_owed : Room := { frames := 0, cells := 0, slots := 0, locals := 0 }
set_option maxHeartbeats 40000000 in
set_option maxRecDepth 100000 in
theorem k_Twn_owed (l : Launch) (D : va_G) (cI cB cZ cS cT : ClassId) (qt qt_kind qt_father qt_comes qt_wants qt_cost qt_coins qt_debts : Nat) (t_people t_law t_counters : Int32) (t_kind t_father t_comes t_wants t_cost t_coins t_debts : Nat → Int32) (p1 p2 : Int32) (o : Int32) (hM : Twn_owed p1 p2 t_debts = some o) : mtI l yX7_owed wsX7_owed rmX7_owed D (tys5 cI cB cZ cS cT) [.ref qt, .int p1, .int p2] (w_Twn cI cB cZ cS cT qt qt_kind qt_father qt_comes qt_wants qt_cost qt_coins qt_debts t_people t_law t_counters t_kind t_father t_comes t_wants t_cost t_coins t_debts) (w_Twn cI cB cZ cS cT qt qt_kind qt_father qt_comes qt_wants qt_cost qt_coins qt_debts t_people t_law t_counters t_kind t_father t_comes t_wants t_cost t_coins t_debts) o := by
  refine mtI.of (cc := cX7_owed) (maxL := 3) (ret := (some .int)) (by decide) rfl (Nat.le_of_ble_eq_true rfl) ?_
  intro p e s m below meth c A Q av hav hQ hx hb hr hml hown hts hlocks hK hP hD hA hS ls hl
  have hown : s.vm.findClass RX7 = some m.cls := hown
  have hl : lv_has ls 3 [(0, .ref qt), (1, .int p1), (2, .int p2)] := hl
  unfold Twn_owed at hM
  have inX7w : ∀ w ∈ u_ws RX7 TX7 10, w ∈ wsX7_owed := by decide +kernel
  have hf34 := hts (.fieldLink RX7 34 "LetsIn$Town" "debts" "[I") (by decide +kernel)
  refine lv_aload_n hx hb dX7_owed_0 rfl (lv_at hl 0 rfl) ?_
  refine va_get (D := D) (ci := 7) (v := .ref qt_debts) (C := RX7) (T := TX7) (N := 10) hx hb hts inX7w hown hK hP 0 rfl rfl 9 (by decide) hf34 (fun _ h9 => h9) rfl dX7_owed_1 ?_
  refine lv_iload_n hx hb dX7_owed_4 rfl (lv_at hl 1 rfl) ?_
  refine lv_bipush (v := 7) hx hb dX7_owed_5 (by decide) ?_
  refine lv_imul hx hb dX7_owed_7 ?_
  refine lv_iload_n hx hb dX7_owed_8 rfl (lv_at hl 2 rfl) ?_
  refine lv_iadd hx hb dX7_owed_9 ?_
  refine mr_iald hx hb hK hP 7 0 rfl rfl hM dX7_owed_10 (fun v_1 hM => ?_)
  have hM := Option.some.inj hM
  subst hM
  exact mr_iret hx hb hr hlocks hQ hP hD hS rfl dX7_owed_11

abbrev rmX7_setDebt : Room := { frames := 0, cells := 0, slots := 0, locals := 0 }
set_option maxHeartbeats 40000000 in
set_option maxRecDepth 100000 in
theorem k_Twn_setDebt (l : Launch) (D : va_G) (cI cB cZ cS cT : ClassId) (qt qt_kind qt_father qt_comes qt_wants qt_cost qt_coins qt_debts : Nat) (t_people t_law t_counters : Int32) (t_kind t_father t_comes t_wants t_cost t_coins t_debts : Nat → Int32) (p1 p2 p3 : Int32) (o : (Nat → Int32)) (hM : Twn_setDebt p1 p2 p3 t_debts = some o) : mtV l yX7_setDebt wsX7_setDebt rmX7_setDebt D (tys5 cI cB cZ cS cT) [.ref qt, .int p1, .int p2, .int p3] (w_Twn cI cB cZ cS cT qt qt_kind qt_father qt_comes qt_wants qt_cost qt_coins qt_debts t_people t_law t_counters t_kind t_father t_comes t_wants t_cost t_coins t_debts) (w_Twn cI cB cZ cS cT qt qt_kind qt_father qt_comes qt_wants qt_cost qt_coins qt_debts t_people t_law t_counters t_kind t_father t_comes t_wants t_cost t_coins o) := by
  refine mtV.of (cc := cX7_setDebt) (maxL := 4) (ret := none) (by decide) rfl (Nat.le_of_ble_eq_true rfl) ?_
  intro p e s m below meth c A Q av hav hQ hx hb hr hml hown hts hlocks hK hP hD hA hS ls hl
  have hown : s.vm.findClass RX7 = some m.cls := hown
  have hl : lv_has ls 4 [(0, .ref qt), (1, .int p1), (2, .int p2), (3, .int p3)] := hl
  unfold Twn_setDebt at hM
  have inX7w : ∀ w ∈ u_ws RX7 TX7 10, w ∈ wsX7_setDebt := by decide +kernel
  have hf34 := hts (.fieldLink RX7 34 "LetsIn$Town" "debts" "[I") (by decide +kernel)
  refine lv_aload_n hx hb dX7_setDebt_0 rfl (lv_at hl 0 rfl) ?_
  refine va_get (D := D) (ci := 7) (v := .ref qt_debts) (C := RX7) (T := TX7) (N := 10) hx hb hts inX7w hown hK hP 0 rfl rfl 9 (by decide) hf34 (fun _ h9 => h9) rfl dX7_setDebt_1 ?_
  refine lv_iload_n hx hb dX7_setDebt_4 rfl (lv_at hl 1 rfl) ?_
  refine lv_bipush (v := 7) hx hb dX7_setDebt_5 (by decide) ?_
  refine lv_imul hx hb dX7_setDebt_7 ?_
  refine lv_iload_n hx hb dX7_setDebt_8 rfl (lv_at hl 2 rfl) ?_
  refine lv_iadd hx hb dX7_setDebt_9 ?_
  refine lv_iload_n hx hb dX7_setDebt_10 rfl (lv_at hl 3 rfl) ?_
  refine mr_iast hx hb hK hP hD hS 7 0 (fun t_debts_1 => (w_Twn cI cB cZ cS cT qt qt_kind qt_father qt_comes qt_wants qt_cost qt_coins qt_debts t_people t_law t_counters t_kind t_father t_comes t_wants t_cost t_coins t_debts_1)) rfl rfl (fun _ => rfl) hM dX7_setDebt_11 (fun t_debts_1 hM H locs hP hD hS => ?_)
  have hM := Option.some.inj hM
  subst hM
  exact mr_vret hx hb hr hlocks hQ hP hD hS dX7_setDebt_12

abbrev rmX7_isOne : Room := { frames := 0, cells := 0, slots := 0, locals := 0 }
set_option maxHeartbeats 40000000 in
set_option maxRecDepth 100000 in
theorem k_Twn_isOne (l : Launch) (D : va_G) (cI cB cZ cS cT : ClassId) (qt qt_kind qt_father qt_comes qt_wants qt_cost qt_coins qt_debts : Nat) (t_people t_law t_counters : Int32) (t_kind t_father t_comes t_wants t_cost t_coins t_debts : Nat → Int32) (p1 : Int32) (o : Int32) (hM : Twn_isOne p1 t_people = some o) : mtI l yX7_isOne wsX7_isOne rmX7_isOne D (tys5 cI cB cZ cS cT) [.ref qt, .int p1] (w_Twn cI cB cZ cS cT qt qt_kind qt_father qt_comes qt_wants qt_cost qt_coins qt_debts t_people t_law t_counters t_kind t_father t_comes t_wants t_cost t_coins t_debts) (w_Twn cI cB cZ cS cT qt qt_kind qt_father qt_comes qt_wants qt_cost qt_coins qt_debts t_people t_law t_counters t_kind t_father t_comes t_wants t_cost t_coins t_debts) o := by
  refine mtI.of (cc := cX7_isOne) (maxL := 2) (ret := (some .boolean)) (by decide) rfl (Nat.le_of_ble_eq_true rfl) ?_
  intro p e s m below meth c A Q av hav hQ hx hb hr hml hown hts hlocks hK hP hD hA hS ls hl
  have hown : s.vm.findClass RX7 = some m.cls := hown
  have hl : lv_has ls 2 [(0, .ref qt), (1, .int p1)] := hl
  unfold Twn_isOne at hM
  have inX7w : ∀ w ∈ u_ws RX7 TX7 10, w ∈ wsX7_isOne := by decide +kernel
  have hf37 := hts (.fieldLink RX7 37 "LetsIn$Town" "people" "I") (by decide +kernel)
  refine lv_iload_n hx hb dX7_isOne_0 rfl (lv_at hl 1 rfl) ?_
  refine mr_if_lt (tgt := 16) hx hb hM dX7_isOne_1 (by decide) (fun hM => ?_) (fun hM => ?_)
  · refine lv_iconst (v := 0) hx hb dX7_isOne_16 (by decide) ?_
    have hM := Option.some.inj hM
    subst hM
    exact mr_zret hx hb hr (by decide) hlocks hQ hP hD hS rfl dX7_isOne_17
  · refine lv_iload_n hx hb dX7_isOne_4 rfl (lv_at hl 1 rfl) ?_
    refine lv_aload_n hx hb dX7_isOne_5 rfl (lv_at hl 0 rfl) ?_
    refine va_get (D := D) (ci := 7) (v := .int t_people) (C := RX7) (T := TX7) (N := 10) hx hb hts inX7w hown hK hP 0 rfl rfl 0 (by decide) hf37 (fun _ h9 => h9) rfl dX7_isOne_6 ?_
    refine mr_icmp_ge (tgt := 16) hx hb hM dX7_isOne_9 (by decide) (fun hM => ?_) (fun hM => ?_)
    · refine lv_iconst (v := 0) hx hb dX7_isOne_16 (by decide) ?_
      have hM := Option.some.inj hM
      subst hM
      exact mr_zret hx hb hr (by decide) hlocks hQ hP hD hS rfl dX7_isOne_17
    · refine lv_iconst (v := 1) hx hb dX7_isOne_12 (by decide) ?_
      refine lv_goto (tgt := 17) hx hb dX7_isOne_13 (by decide) ?_
      have hM := Option.some.inj hM
      subst hM
      exact mr_zret hx hb hr (by decide) hlocks hQ hP hD hS rfl dX7_isOne_17

abbrev rmX7_areTwo : Room := { frames := 1, cells := 0, slots := 0, locals := 21 }
set_option maxHeartbeats 40000000 in
set_option maxRecDepth 100000 in
theorem k_Twn_areTwo (l : Launch) (D : va_G) (cI cB cZ cS cT : ClassId) (qt qt_kind qt_father qt_comes qt_wants qt_cost qt_coins qt_debts : Nat) (t_people t_law t_counters : Int32) (t_kind t_father t_comes t_wants t_cost t_coins t_debts : Nat → Int32) (p1 p2 : Int32) (o : Int32) (hM : Twn_areTwo p1 p2 t_people = some o) : mtI l yX7_areTwo wsX7_areTwo rmX7_areTwo D (tys5 cI cB cZ cS cT) [.ref qt, .int p1, .int p2] (w_Twn cI cB cZ cS cT qt qt_kind qt_father qt_comes qt_wants qt_cost qt_coins qt_debts t_people t_law t_counters t_kind t_father t_comes t_wants t_cost t_coins t_debts) (w_Twn cI cB cZ cS cT qt qt_kind qt_father qt_comes qt_wants qt_cost qt_coins qt_debts t_people t_law t_counters t_kind t_father t_comes t_wants t_cost t_coins t_debts) o := by
  refine mtI.of (cc := cX7_areTwo) (maxL := 3) (ret := (some .boolean)) (by decide) rfl (Nat.le_of_ble_eq_true rfl) ?_
  intro p e s m below meth c A Q av hav hQ hx hb hr hml hown hts hlocks hK hP hD hA hS ls hl
  have hown : s.vm.findClass RX7 = some m.cls := hown
  have hl : lv_has ls 3 [(0, .ref qt), (1, .int p1), (2, .int p2)] := hl
  unfold Twn_areTwo at hM
  refine lv_aload_n hx hb dX7_areTwo_0 rfl (lv_at hl 0 rfl) ?_
  refine lv_iload_n hx hb dX7_areTwo_1 rfl (lv_at hl 1 rfl) ?_
  obtain ⟨o_1, hc, hM⟩ := bind_so hM
  refine mr_callVi (As := [.int p1]) (rest := []) (wr := []) ⟨hx, hb, hml, hown, hts⟩ (k_Twn_isOne l D cI cB cZ cS cT qt qt_kind qt_father qt_comes qt_wants qt_cost qt_coins qt_debts t_people t_law t_counters t_kind t_father t_comes t_wants t_cost t_coins t_debts p1 _ hc) (cwV 1 hts gX7_areTwo_X7_isOne rfl rfl rfl (by decide +kernel) ⟨Nat.le_of_ble_eq_true rfl, Nat.le_of_ble_eq_true rfl⟩) hK hP hD hS hA [0, 1, 2, 3, 4, 5, 6, 7] [] [0, 1, 2, 3, 4, 5, 6, 7] (w_Twn cI cB cZ cS cT qt qt_kind qt_father qt_comes qt_wants qt_cost qt_coins qt_debts t_people t_law t_counters t_kind t_father t_comes t_wants t_cost t_coins t_debts) rfl rfl rfl rfl (by decide) rfl rfl 7 0 rfl rfl rfl rfl hl.1 rfl (Nat.le_of_ble_eq_true rfl) dX7_areTwo_2 ⟨Nat.zero_le _, Nat.zero_le _⟩ (fun H locs hP hD hS => ?_)
  refine mr_if_eq (tgt := 25) hx hb hM dX7_areTwo_5 (by decide) (fun hM => ?_) (fun hM => ?_)
  · refine lv_iconst (v := 0) hx hb dX7_areTwo_25 (by decide) ?_
    have hM := Option.some.inj hM
    subst hM
    exact mr_zret hx hb hr (by decide) hlocks hQ hP hD hS rfl dX7_areTwo_26
  · refine lv_aload_n hx hb dX7_areTwo_8 rfl (lv_at hl 0 rfl) ?_
    refine lv_iload_n hx hb dX7_areTwo_9 rfl (lv_at hl 2 rfl) ?_
    obtain ⟨o_2, hc, hM⟩ := bind_so hM
    refine mr_callVi (As := [.int p2]) (rest := []) (wr := []) ⟨hx, hb, hml, hown, hts⟩ (k_Twn_isOne l D cI cB cZ cS cT qt qt_kind qt_father qt_comes qt_wants qt_cost qt_coins qt_debts t_people t_law t_counters t_kind t_father t_comes t_wants t_cost t_coins t_debts p2 _ hc) (cwV 1 hts gX7_areTwo_X7_isOne rfl rfl rfl (by decide +kernel) ⟨Nat.le_of_ble_eq_true rfl, Nat.le_of_ble_eq_true rfl⟩) hK hP hD hS hA [0, 1, 2, 3, 4, 5, 6, 7] [] [0, 1, 2, 3, 4, 5, 6, 7] (w_Twn cI cB cZ cS cT qt qt_kind qt_father qt_comes qt_wants qt_cost qt_coins qt_debts t_people t_law t_counters t_kind t_father t_comes t_wants t_cost t_coins t_debts) rfl rfl rfl rfl (by decide) rfl rfl 7 0 rfl rfl rfl rfl hl.1 rfl (Nat.le_of_ble_eq_true rfl) dX7_areTwo_10 ⟨Nat.zero_le _, Nat.zero_le _⟩ (fun H locs hP hD hS => ?_)
    refine mr_if_eq (tgt := 25) hx hb hM dX7_areTwo_13 (by decide) (fun hM => ?_) (fun hM => ?_)
    · refine lv_iconst (v := 0) hx hb dX7_areTwo_25 (by decide) ?_
      have hM := Option.some.inj hM
      subst hM
      exact mr_zret hx hb hr (by decide) hlocks hQ hP hD hS rfl dX7_areTwo_26
    · refine lv_iload_n hx hb dX7_areTwo_16 rfl (lv_at hl 1 rfl) ?_
      refine lv_iload_n hx hb dX7_areTwo_17 rfl (lv_at hl 2 rfl) ?_
      refine mr_icmp_eq (tgt := 25) hx hb hM dX7_areTwo_18 (by decide) (fun hM => ?_) (fun hM => ?_)
      · refine lv_iconst (v := 0) hx hb dX7_areTwo_25 (by decide) ?_
        have hM := Option.some.inj hM
        subst hM
        exact mr_zret hx hb hr (by decide) hlocks hQ hP hD hS rfl dX7_areTwo_26
      · refine lv_iconst (v := 1) hx hb dX7_areTwo_21 (by decide) ?_
        refine lv_goto (tgt := 26) hx hb dX7_areTwo_22 (by decide) ?_
        have hM := Option.some.inj hM
        subst hM
        exact mr_zret hx hb hr (by decide) hlocks hQ hP hD hS rfl dX7_areTwo_26

abbrev rmX7_copyOf : Room := { frames := 1, cells := 0, slots := 0, locals := 48 }
set_option maxHeartbeats 40000000 in
set_option maxRecDepth 100000 in
theorem k_Twn_copyOf (l : Launch) (D : va_G) (cI cB cZ cS cT : ClassId) (qt qt_kind qt_father qt_comes qt_wants qt_cost qt_coins qt_debts qb1 qb1_kind qb1_father qb1_comes qb1_wants qb1_cost qb1_coins qb1_debts : Nat) (t_people t_law t_counters : Int32) (t_kind t_father t_comes t_wants t_cost t_coins t_debts : Nat → Int32) (b1_people b1_law b1_counters : Int32) (b1_kind b1_father b1_comes b1_wants b1_cost b1_coins b1_debts : Nat → Int32)  (o : Int32 × Int32 × Int32 × (Nat → Int32) × (Nat → Int32) × (Nat → Int32) × (Nat → Int32) × (Nat → Int32) × (Nat → Int32) × (Nat → Int32)) (hM : Twn_copyOf t_kind t_father t_comes t_wants t_cost t_coins t_debts b1_people b1_law b1_counters b1_kind b1_father b1_comes b1_wants b1_cost b1_coins b1_debts = some o) : mtV l yX7_copyOf wsX7_copyOf rmX7_copyOf D (tys5 cI cB cZ cS cT) [.ref qt, .ref qb1] (w_Twn cI cB cZ cS cT qt qt_kind qt_father qt_comes qt_wants qt_cost qt_coins qt_debts t_people t_law t_counters t_kind t_father t_comes t_wants t_cost t_coins t_debts ++ w_Twn cI cB cZ cS cT qb1 qb1_kind qb1_father qb1_comes qb1_wants qb1_cost qb1_coins qb1_debts b1_people b1_law b1_counters b1_kind b1_father b1_comes b1_wants b1_cost b1_coins b1_debts) (w_Twn cI cB cZ cS cT qt qt_kind qt_father qt_comes qt_wants qt_cost qt_coins qt_debts o.1 o.2.1 o.2.2.1 o.2.2.2.1 o.2.2.2.2.1 o.2.2.2.2.2.1 o.2.2.2.2.2.2.1 o.2.2.2.2.2.2.2.1 o.2.2.2.2.2.2.2.2.1 o.2.2.2.2.2.2.2.2.2 ++ w_Twn cI cB cZ cS cT qb1 qb1_kind qb1_father qb1_comes qb1_wants qb1_cost qb1_coins qb1_debts b1_people b1_law b1_counters b1_kind b1_father b1_comes b1_wants b1_cost b1_coins b1_debts) := by
  refine mtV.of (cc := cX7_copyOf) (maxL := 2) (ret := none) (by decide) rfl (Nat.le_of_ble_eq_true rfl) ?_
  intro p e s m below meth c A Q av hav hQ hx hb hr hml hown hts hlocks hK hP hD hA hS ls hl
  have hown : s.vm.findClass RX7 = some m.cls := hown
  have hl : lv_has ls 2 [(0, .ref qt), (1, .ref qb1)] := hl
  unfold Twn_copyOf at hM
  have inX7w : ∀ w ∈ u_ws RX7 TX7 10, w ∈ wsX7_copyOf := by decide +kernel
  have hf37 := hts (.fieldLink RX7 37 "LetsIn$Town" "people" "I") (by decide +kernel)
  have hf40 := hts (.fieldLink RX7 40 "LetsIn$Town" "law" "I") (by decide +kernel)
  have hf9 := hts (.fieldLink RX7 9 "LetsIn$Town" "counters" "I") (by decide +kernel)
  have hf15 := hts (.fieldLink RX7 15 "LetsIn$Town" "kind" "[I") (by decide +kernel)
  have hf19 := hts (.fieldLink RX7 19 "LetsIn$Town" "father" "[I") (by decide +kernel)
  have hf22 := hts (.fieldLink RX7 22 "LetsIn$Town" "comes" "[I") (by decide +kernel)
  have hf25 := hts (.fieldLink RX7 25 "LetsIn$Town" "wants" "[I") (by decide +kernel)
  have hf28 := hts (.fieldLink RX7 28 "LetsIn$Town" "cost" "[I") (by decide +kernel)
  have hf31 := hts (.fieldLink RX7 31 "LetsIn$Town" "coins" "[I") (by decide +kernel)
  have hf34 := hts (.fieldLink RX7 34 "LetsIn$Town" "debts" "[I") (by decide +kernel)
  have hcp1 := hts (.methodLink RX7 43 arraycopyName) (by decide +kernel)
  have hcp2 := hts (.native arraycopyName) (by decide +kernel)
  have hcp3 := hts (.static arraycopyName) (by decide +kernel)
  have hcp4 := hts (.initialized "java/lang/System") (by decide +kernel)
  refine lv_aload_n hx hb dX7_copyOf_0 rfl (lv_at hl 0 rfl) ?_
  refine lv_aload_n hx hb dX7_copyOf_1 rfl (lv_at hl 1 rfl) ?_
  refine va_get (D := D) (ci := 7) (v := .int b1_people) (C := RX7) (T := TX7) (N := 10) hx hb hts inX7w hown hK hP 8 rfl rfl 0 (by decide) hf37 (fun _ h9 => h9) rfl dX7_copyOf_2 ?_
  refine mr_put (D := D) (ci := 7) (v := .int b1_people) (ty := .int) (C := RX7) (T := TX7) (N := 10) hx hb hts inX7w tyX7 tyX7_ok nmX7 hown hK hP hD hS 0 rfl rfl 0 (by decide) hf37 (fun _ h9 => h9) rfl (by decide +kernel) rfl rfl (Nat.le_of_ble_eq_true rfl) dX7_copyOf_5 (w_Twn cI cB cZ cS cT qt qt_kind qt_father qt_comes qt_wants qt_cost qt_coins qt_debts b1_people t_law t_counters t_kind t_father t_comes t_wants t_cost t_coins t_debts ++ w_Twn cI cB cZ cS cT qb1 qb1_kind qb1_father qb1_comes qb1_wants qb1_cost qb1_coins qb1_debts b1_people b1_law b1_counters b1_kind b1_father b1_comes b1_wants b1_cost b1_coins b1_debts) rfl (fun H locs hP hD hS => ?_)
  refine lv_aload_n hx hb dX7_copyOf_8 rfl (lv_at hl 0 rfl) ?_
  refine lv_aload_n hx hb dX7_copyOf_9 rfl (lv_at hl 1 rfl) ?_
  refine va_get (D := D) (ci := 7) (v := .int b1_law) (C := RX7) (T := TX7) (N := 10) hx hb hts inX7w hown hK hP 8 rfl rfl 1 (by decide) hf40 (fun _ h9 => h9) rfl dX7_copyOf_10 ?_
  refine mr_put (D := D) (ci := 7) (v := .int b1_law) (ty := .int) (C := RX7) (T := TX7) (N := 10) hx hb hts inX7w tyX7 tyX7_ok nmX7 hown hK hP hD hS 0 rfl rfl 1 (by decide) hf40 (fun _ h9 => h9) rfl (by decide +kernel) rfl rfl (Nat.le_of_ble_eq_true rfl) dX7_copyOf_13 (w_Twn cI cB cZ cS cT qt qt_kind qt_father qt_comes qt_wants qt_cost qt_coins qt_debts b1_people b1_law t_counters t_kind t_father t_comes t_wants t_cost t_coins t_debts ++ w_Twn cI cB cZ cS cT qb1 qb1_kind qb1_father qb1_comes qb1_wants qb1_cost qb1_coins qb1_debts b1_people b1_law b1_counters b1_kind b1_father b1_comes b1_wants b1_cost b1_coins b1_debts) rfl (fun H locs hP hD hS => ?_)
  refine lv_aload_n hx hb dX7_copyOf_16 rfl (lv_at hl 0 rfl) ?_
  refine lv_aload_n hx hb dX7_copyOf_17 rfl (lv_at hl 1 rfl) ?_
  refine va_get (D := D) (ci := 7) (v := .int b1_counters) (C := RX7) (T := TX7) (N := 10) hx hb hts inX7w hown hK hP 8 rfl rfl 2 (by decide) hf9 (fun _ h9 => h9) rfl dX7_copyOf_18 ?_
  refine mr_put (D := D) (ci := 7) (v := .int b1_counters) (ty := .int) (C := RX7) (T := TX7) (N := 10) hx hb hts inX7w tyX7 tyX7_ok nmX7 hown hK hP hD hS 0 rfl rfl 2 (by decide) hf9 (fun _ h9 => h9) rfl (by decide +kernel) rfl rfl (Nat.le_of_ble_eq_true rfl) dX7_copyOf_21 (w_Twn cI cB cZ cS cT qt qt_kind qt_father qt_comes qt_wants qt_cost qt_coins qt_debts b1_people b1_law b1_counters t_kind t_father t_comes t_wants t_cost t_coins t_debts ++ w_Twn cI cB cZ cS cT qb1 qb1_kind qb1_father qb1_comes qb1_wants qb1_cost qb1_coins qb1_debts b1_people b1_law b1_counters b1_kind b1_father b1_comes b1_wants b1_cost b1_coins b1_debts) rfl (fun H locs hP hD hS => ?_)
  refine lv_aload_n hx hb dX7_copyOf_24 rfl (lv_at hl 1 rfl) ?_
  refine va_get (D := D) (ci := 7) (v := .ref qb1_kind) (C := RX7) (T := TX7) (N := 10) hx hb hts inX7w hown hK hP 8 rfl rfl 3 (by decide) hf15 (fun _ h9 => h9) rfl dX7_copyOf_25 ?_
  refine lv_iconst (v := 0) hx hb dX7_copyOf_28 (by decide) ?_
  refine lv_aload_n hx hb dX7_copyOf_29 rfl (lv_at hl 0 rfl) ?_
  refine va_get (D := D) (ci := 7) (v := .ref qt_kind) (C := RX7) (T := TX7) (N := 10) hx hb hts inX7w hown hK hP 0 rfl rfl 3 (by decide) hf15 (fun _ h9 => h9) rfl dX7_copyOf_30 ?_
  refine lv_iconst (v := 0) hx hb dX7_copyOf_33 (by decide) ?_
  refine lv_bipush (v := 7) hx hb dX7_copyOf_34 (by decide) ?_
  refine mr_copy hx hb (hml.trans hl.1.symm) hown hcp1 hcp2 hcp3 hcp4 hK hP hD hS 9 1 0 (fun t_kind_1 => (w_Twn cI cB cZ cS cT qt qt_kind qt_father qt_comes qt_wants qt_cost qt_coins qt_debts b1_people b1_law b1_counters t_kind_1 t_father t_comes t_wants t_cost t_coins t_debts ++ w_Twn cI cB cZ cS cT qb1 qb1_kind qb1_father qb1_comes qb1_wants qb1_cost qb1_coins qb1_debts b1_people b1_law b1_counters b1_kind b1_father b1_comes b1_wants b1_cost b1_coins b1_debts)) rfl rfl rfl (fun _ => rfl) (by decide) (by decide) (Nat.le_of_ble_eq_true rfl) (Nat.le_of_ble_eq_true rfl) (Nat.le_of_ble_eq_true rfl) (by decide) hM dX7_copyOf_36 (fun t_kind_1 hM H locs hP hD hS => ?_)
  refine lv_aload_n hx hb dX7_copyOf_39 rfl (lv_at hl 1 rfl) ?_
  refine va_get (D := D) (ci := 7) (v := .ref qb1_father) (C := RX7) (T := TX7) (N := 10) hx hb hts inX7w hown hK hP 8 rfl rfl 4 (by decide) hf19 (fun _ h9 => h9) rfl dX7_copyOf_40 ?_
  refine lv_iconst (v := 0) hx hb dX7_copyOf_43 (by decide) ?_
  refine lv_aload_n hx hb dX7_copyOf_44 rfl (lv_at hl 0 rfl) ?_
  refine va_get (D := D) (ci := 7) (v := .ref qt_father) (C := RX7) (T := TX7) (N := 10) hx hb hts inX7w hown hK hP 0 rfl rfl 4 (by decide) hf19 (fun _ h9 => h9) rfl dX7_copyOf_45 ?_
  refine lv_iconst (v := 0) hx hb dX7_copyOf_48 (by decide) ?_
  refine lv_bipush (v := 7) hx hb dX7_copyOf_49 (by decide) ?_
  refine mr_copy hx hb (hml.trans hl.1.symm) hown hcp1 hcp2 hcp3 hcp4 hK hP hD hS 10 2 0 (fun t_father_2 => (w_Twn cI cB cZ cS cT qt qt_kind qt_father qt_comes qt_wants qt_cost qt_coins qt_debts b1_people b1_law b1_counters t_kind_1 t_father_2 t_comes t_wants t_cost t_coins t_debts ++ w_Twn cI cB cZ cS cT qb1 qb1_kind qb1_father qb1_comes qb1_wants qb1_cost qb1_coins qb1_debts b1_people b1_law b1_counters b1_kind b1_father b1_comes b1_wants b1_cost b1_coins b1_debts)) rfl rfl rfl (fun _ => rfl) (by decide) (by decide) (Nat.le_of_ble_eq_true rfl) (Nat.le_of_ble_eq_true rfl) (Nat.le_of_ble_eq_true rfl) (by decide) hM dX7_copyOf_51 (fun t_father_2 hM H locs hP hD hS => ?_)
  refine lv_aload_n hx hb dX7_copyOf_54 rfl (lv_at hl 1 rfl) ?_
  refine va_get (D := D) (ci := 7) (v := .ref qb1_comes) (C := RX7) (T := TX7) (N := 10) hx hb hts inX7w hown hK hP 8 rfl rfl 5 (by decide) hf22 (fun _ h9 => h9) rfl dX7_copyOf_55 ?_
  refine lv_iconst (v := 0) hx hb dX7_copyOf_58 (by decide) ?_
  refine lv_aload_n hx hb dX7_copyOf_59 rfl (lv_at hl 0 rfl) ?_
  refine va_get (D := D) (ci := 7) (v := .ref qt_comes) (C := RX7) (T := TX7) (N := 10) hx hb hts inX7w hown hK hP 0 rfl rfl 5 (by decide) hf22 (fun _ h9 => h9) rfl dX7_copyOf_60 ?_
  refine lv_iconst (v := 0) hx hb dX7_copyOf_63 (by decide) ?_
  refine lv_bipush (v := 7) hx hb dX7_copyOf_64 (by decide) ?_
  refine mr_copy hx hb (hml.trans hl.1.symm) hown hcp1 hcp2 hcp3 hcp4 hK hP hD hS 11 3 0 (fun t_comes_3 => (w_Twn cI cB cZ cS cT qt qt_kind qt_father qt_comes qt_wants qt_cost qt_coins qt_debts b1_people b1_law b1_counters t_kind_1 t_father_2 t_comes_3 t_wants t_cost t_coins t_debts ++ w_Twn cI cB cZ cS cT qb1 qb1_kind qb1_father qb1_comes qb1_wants qb1_cost qb1_coins qb1_debts b1_people b1_law b1_counters b1_kind b1_father b1_comes b1_wants b1_cost b1_coins b1_debts)) rfl rfl rfl (fun _ => rfl) (by decide) (by decide) (Nat.le_of_ble_eq_true rfl) (Nat.le_of_ble_eq_true rfl) (Nat.le_of_ble_eq_true rfl) (by decide) hM dX7_copyOf_66 (fun t_comes_3 hM H locs hP hD hS => ?_)
  refine lv_aload_n hx hb dX7_copyOf_69 rfl (lv_at hl 1 rfl) ?_
  refine va_get (D := D) (ci := 7) (v := .ref qb1_wants) (C := RX7) (T := TX7) (N := 10) hx hb hts inX7w hown hK hP 8 rfl rfl 6 (by decide) hf25 (fun _ h9 => h9) rfl dX7_copyOf_70 ?_
  refine lv_iconst (v := 0) hx hb dX7_copyOf_73 (by decide) ?_
  refine lv_aload_n hx hb dX7_copyOf_74 rfl (lv_at hl 0 rfl) ?_
  refine va_get (D := D) (ci := 7) (v := .ref qt_wants) (C := RX7) (T := TX7) (N := 10) hx hb hts inX7w hown hK hP 0 rfl rfl 6 (by decide) hf25 (fun _ h9 => h9) rfl dX7_copyOf_75 ?_
  refine lv_iconst (v := 0) hx hb dX7_copyOf_78 (by decide) ?_
  refine lv_bipush (v := 7) hx hb dX7_copyOf_79 (by decide) ?_
  refine mr_copy hx hb (hml.trans hl.1.symm) hown hcp1 hcp2 hcp3 hcp4 hK hP hD hS 12 4 0 (fun t_wants_4 => (w_Twn cI cB cZ cS cT qt qt_kind qt_father qt_comes qt_wants qt_cost qt_coins qt_debts b1_people b1_law b1_counters t_kind_1 t_father_2 t_comes_3 t_wants_4 t_cost t_coins t_debts ++ w_Twn cI cB cZ cS cT qb1 qb1_kind qb1_father qb1_comes qb1_wants qb1_cost qb1_coins qb1_debts b1_people b1_law b1_counters b1_kind b1_father b1_comes b1_wants b1_cost b1_coins b1_debts)) rfl rfl rfl (fun _ => rfl) (by decide) (by decide) (Nat.le_of_ble_eq_true rfl) (Nat.le_of_ble_eq_true rfl) (Nat.le_of_ble_eq_true rfl) (by decide) hM dX7_copyOf_81 (fun t_wants_4 hM H locs hP hD hS => ?_)
  refine lv_aload_n hx hb dX7_copyOf_84 rfl (lv_at hl 1 rfl) ?_
  refine va_get (D := D) (ci := 7) (v := .ref qb1_cost) (C := RX7) (T := TX7) (N := 10) hx hb hts inX7w hown hK hP 8 rfl rfl 7 (by decide) hf28 (fun _ h9 => h9) rfl dX7_copyOf_85 ?_
  refine lv_iconst (v := 0) hx hb dX7_copyOf_88 (by decide) ?_
  refine lv_aload_n hx hb dX7_copyOf_89 rfl (lv_at hl 0 rfl) ?_
  refine va_get (D := D) (ci := 7) (v := .ref qt_cost) (C := RX7) (T := TX7) (N := 10) hx hb hts inX7w hown hK hP 0 rfl rfl 7 (by decide) hf28 (fun _ h9 => h9) rfl dX7_copyOf_90 ?_
  refine lv_iconst (v := 0) hx hb dX7_copyOf_93 (by decide) ?_
  refine lv_bipush (v := 7) hx hb dX7_copyOf_94 (by decide) ?_
  refine mr_copy hx hb (hml.trans hl.1.symm) hown hcp1 hcp2 hcp3 hcp4 hK hP hD hS 13 5 0 (fun t_cost_5 => (w_Twn cI cB cZ cS cT qt qt_kind qt_father qt_comes qt_wants qt_cost qt_coins qt_debts b1_people b1_law b1_counters t_kind_1 t_father_2 t_comes_3 t_wants_4 t_cost_5 t_coins t_debts ++ w_Twn cI cB cZ cS cT qb1 qb1_kind qb1_father qb1_comes qb1_wants qb1_cost qb1_coins qb1_debts b1_people b1_law b1_counters b1_kind b1_father b1_comes b1_wants b1_cost b1_coins b1_debts)) rfl rfl rfl (fun _ => rfl) (by decide) (by decide) (Nat.le_of_ble_eq_true rfl) (Nat.le_of_ble_eq_true rfl) (Nat.le_of_ble_eq_true rfl) (by decide) hM dX7_copyOf_96 (fun t_cost_5 hM H locs hP hD hS => ?_)
  refine lv_aload_n hx hb dX7_copyOf_99 rfl (lv_at hl 1 rfl) ?_
  refine va_get (D := D) (ci := 7) (v := .ref qb1_coins) (C := RX7) (T := TX7) (N := 10) hx hb hts inX7w hown hK hP 8 rfl rfl 8 (by decide) hf31 (fun _ h9 => h9) rfl dX7_copyOf_100 ?_
  refine lv_iconst (v := 0) hx hb dX7_copyOf_103 (by decide) ?_
  refine lv_aload_n hx hb dX7_copyOf_104 rfl (lv_at hl 0 rfl) ?_
  refine va_get (D := D) (ci := 7) (v := .ref qt_coins) (C := RX7) (T := TX7) (N := 10) hx hb hts inX7w hown hK hP 0 rfl rfl 8 (by decide) hf31 (fun _ h9 => h9) rfl dX7_copyOf_105 ?_
  refine lv_iconst (v := 0) hx hb dX7_copyOf_108 (by decide) ?_
  refine lv_bipush (v := 7) hx hb dX7_copyOf_109 (by decide) ?_
  refine mr_copy hx hb (hml.trans hl.1.symm) hown hcp1 hcp2 hcp3 hcp4 hK hP hD hS 14 6 0 (fun t_coins_6 => (w_Twn cI cB cZ cS cT qt qt_kind qt_father qt_comes qt_wants qt_cost qt_coins qt_debts b1_people b1_law b1_counters t_kind_1 t_father_2 t_comes_3 t_wants_4 t_cost_5 t_coins_6 t_debts ++ w_Twn cI cB cZ cS cT qb1 qb1_kind qb1_father qb1_comes qb1_wants qb1_cost qb1_coins qb1_debts b1_people b1_law b1_counters b1_kind b1_father b1_comes b1_wants b1_cost b1_coins b1_debts)) rfl rfl rfl (fun _ => rfl) (by decide) (by decide) (Nat.le_of_ble_eq_true rfl) (Nat.le_of_ble_eq_true rfl) (Nat.le_of_ble_eq_true rfl) (by decide) hM dX7_copyOf_111 (fun t_coins_6 hM H locs hP hD hS => ?_)
  refine lv_aload_n hx hb dX7_copyOf_114 rfl (lv_at hl 1 rfl) ?_
  refine va_get (D := D) (ci := 7) (v := .ref qb1_debts) (C := RX7) (T := TX7) (N := 10) hx hb hts inX7w hown hK hP 8 rfl rfl 9 (by decide) hf34 (fun _ h9 => h9) rfl dX7_copyOf_115 ?_
  refine lv_iconst (v := 0) hx hb dX7_copyOf_118 (by decide) ?_
  refine lv_aload_n hx hb dX7_copyOf_119 rfl (lv_at hl 0 rfl) ?_
  refine va_get (D := D) (ci := 7) (v := .ref qt_debts) (C := RX7) (T := TX7) (N := 10) hx hb hts inX7w hown hK hP 0 rfl rfl 9 (by decide) hf34 (fun _ h9 => h9) rfl dX7_copyOf_120 ?_
  refine lv_iconst (v := 0) hx hb dX7_copyOf_123 (by decide) ?_
  refine lv_bipush (v := 49) hx hb dX7_copyOf_124 (by decide) ?_
  refine mr_copy hx hb (hml.trans hl.1.symm) hown hcp1 hcp2 hcp3 hcp4 hK hP hD hS 15 7 0 (fun t_debts_7 => (w_Twn cI cB cZ cS cT qt qt_kind qt_father qt_comes qt_wants qt_cost qt_coins qt_debts b1_people b1_law b1_counters t_kind_1 t_father_2 t_comes_3 t_wants_4 t_cost_5 t_coins_6 t_debts_7 ++ w_Twn cI cB cZ cS cT qb1 qb1_kind qb1_father qb1_comes qb1_wants qb1_cost qb1_coins qb1_debts b1_people b1_law b1_counters b1_kind b1_father b1_comes b1_wants b1_cost b1_coins b1_debts)) rfl rfl rfl (fun _ => rfl) (by decide) (by decide) (Nat.le_of_ble_eq_true rfl) (Nat.le_of_ble_eq_true rfl) (Nat.le_of_ble_eq_true rfl) (by decide) hM dX7_copyOf_126 (fun t_debts_7 hM H locs hP hD hS => ?_)
  have hM := Option.some.inj hM
  subst hM
  exact mr_vret hx hb hr hlocks hQ hP hD hS dX7_copyOf_129

abbrev rmX7_dueOf : Room := { frames := 0, cells := 0, slots := 0, locals := 0 }
set_option maxHeartbeats 40000000 in
set_option maxRecDepth 100000 in
theorem k_Twn_dueOf (l : Launch) (D : va_G) (cI cB cZ cS cT : ClassId) (qt qt_kind qt_father qt_comes qt_wants qt_cost qt_coins qt_debts : Nat) (t_people t_law t_counters : Int32) (t_kind t_father t_comes t_wants t_cost t_coins t_debts : Nat → Int32) (p1 p2 : Int32) (o : Int32) (hM : Twn_dueOf p1 p2 t_kind t_father t_debts = some o) : mtI l yX7_dueOf wsX7_dueOf rmX7_dueOf D (tys5 cI cB cZ cS cT) [.ref qt, .int p1, .int p2] (w_Twn cI cB cZ cS cT qt qt_kind qt_father qt_comes qt_wants qt_cost qt_coins qt_debts t_people t_law t_counters t_kind t_father t_comes t_wants t_cost t_coins t_debts) (w_Twn cI cB cZ cS cT qt qt_kind qt_father qt_comes qt_wants qt_cost qt_coins qt_debts t_people t_law t_counters t_kind t_father t_comes t_wants t_cost t_coins t_debts) o := by
  refine mtI.of (cc := cX7_dueOf) (maxL := 4) (ret := (some .int)) (by decide) rfl (Nat.le_of_ble_eq_true rfl) ?_
  intro p e s m below meth c A Q av hav hQ hx hb hr hml hown hts hlocks hK hP hD hA hS ls hl
  have hown : s.vm.findClass RX7 = some m.cls := hown
  have hl : lv_has ls 4 [(0, .ref qt), (1, .int p1), (2, .int p2)] := hl
  unfold Twn_dueOf at hM
  have inX7w : ∀ w ∈ u_ws RX7 TX7 10, w ∈ wsX7_dueOf := by decide +kernel
  have hf34 := hts (.fieldLink RX7 34 "LetsIn$Town" "debts" "[I") (by decide +kernel)
  have hf15 := hts (.fieldLink RX7 15 "LetsIn$Town" "kind" "[I") (by decide +kernel)
  have hf19 := hts (.fieldLink RX7 19 "LetsIn$Town" "father" "[I") (by decide +kernel)
  refine lv_aload_n hx hb dX7_dueOf_0 rfl (lv_at hl 0 rfl) ?_
  refine va_get (D := D) (ci := 7) (v := .ref qt_debts) (C := RX7) (T := TX7) (N := 10) hx hb hts inX7w hown hK hP 0 rfl rfl 9 (by decide) hf34 (fun _ h9 => h9) rfl dX7_dueOf_1 ?_
  refine lv_iload_n hx hb dX7_dueOf_4 rfl (lv_at hl 1 rfl) ?_
  refine lv_bipush (v := 7) hx hb dX7_dueOf_5 (by decide) ?_
  refine lv_imul hx hb dX7_dueOf_7 ?_
  refine lv_iload_n hx hb dX7_dueOf_8 rfl (lv_at hl 2 rfl) ?_
  refine lv_iadd hx hb dX7_dueOf_9 ?_
  refine mr_iald hx hb hK hP 7 0 rfl rfl hM dX7_dueOf_10 (fun v_1 hM => ?_)
  refine lv_istore_n (lv' := [(3, .int v_1), (0, .ref qt), (1, .int p1), (2, .int p2)]) hx hb dX7_dueOf_11 rfl hl (by decide) rfl (fun ls hl => ?_)
  refine lv_aload_n hx hb dX7_dueOf_12 rfl (lv_at hl 1 rfl) ?_
  refine va_get (D := D) (ci := 7) (v := .ref qt_kind) (C := RX7) (T := TX7) (N := 10) hx hb hts inX7w hown hK hP 0 rfl rfl 3 (by decide) hf15 (fun _ h9 => h9) rfl dX7_dueOf_13 ?_
  refine lv_iload_n hx hb dX7_dueOf_16 rfl (lv_at hl 2 rfl) ?_
  refine mr_iald hx hb hK hP 1 0 rfl rfl hM dX7_dueOf_17 (fun v_2 hM => ?_)
  refine lv_iconst (v := 4) hx hb dX7_dueOf_18 (by decide) ?_
  refine mr_icmp_ne (tgt := 43) hx hb hM dX7_dueOf_19 (by decide) (fun hM => ?_) (fun hM => ?_)
  · refine lv_iload_n hx hb dX7_dueOf_43 rfl (lv_at hl 0 rfl) ?_
    have hM := Option.some.inj hM
    subst hM
    exact mr_iret hx hb hr hlocks hQ hP hD hS rfl dX7_dueOf_44
  · refine lv_iload_n hx hb dX7_dueOf_22 rfl (lv_at hl 0 rfl) ?_
    refine lv_aload_n hx hb dX7_dueOf_23 rfl (lv_at hl 1 rfl) ?_
    refine va_get (D := D) (ci := 7) (v := .ref qt_debts) (C := RX7) (T := TX7) (N := 10) hx hb hts inX7w hown hK hP 0 rfl rfl 9 (by decide) hf34 (fun _ h9 => h9) rfl dX7_dueOf_24 ?_
    refine lv_aload_n hx hb dX7_dueOf_27 rfl (lv_at hl 1 rfl) ?_
    refine va_get (D := D) (ci := 7) (v := .ref qt_father) (C := RX7) (T := TX7) (N := 10) hx hb hts inX7w hown hK hP 0 rfl rfl 4 (by decide) hf19 (fun _ h9 => h9) rfl dX7_dueOf_28 ?_
    refine lv_iload_n hx hb dX7_dueOf_31 rfl (lv_at hl 2 rfl) ?_
    refine mr_iald hx hb hK hP 2 0 rfl rfl hM dX7_dueOf_32 (fun v_3 hM => ?_)
    refine lv_bipush (v := 7) hx hb dX7_dueOf_33 (by decide) ?_
    refine lv_imul hx hb dX7_dueOf_35 ?_
    refine lv_iload_n hx hb dX7_dueOf_36 rfl (lv_at hl 3 rfl) ?_
    refine lv_iadd hx hb dX7_dueOf_37 ?_
    refine mr_iald hx hb hK hP 7 0 rfl rfl hM dX7_dueOf_38 (fun v_4 hM => ?_)
    refine lv_iadd hx hb dX7_dueOf_39 ?_
    refine lv_goto (tgt := 44) hx hb dX7_dueOf_40 (by decide) ?_
    have hM := Option.some.inj hM
    subst hM
    exact mr_iret hx hb hr hlocks hQ hP hD hS rfl dX7_dueOf_44

abbrev rmX7_mustLet : Room := { frames := 1, cells := 0, slots := 0, locals := 23 }
set_option maxHeartbeats 40000000 in
set_option maxRecDepth 100000 in
theorem k_Twn_mustLet (l : Launch) (D : va_G) (cI cB cZ cS cT : ClassId) (qt qt_kind qt_father qt_comes qt_wants qt_cost qt_coins qt_debts : Nat) (t_people t_law t_counters : Int32) (t_kind t_father t_comes t_wants t_cost t_coins t_debts : Nat → Int32) (p1 p2 : Int32) (o : Int32) (hM : Twn_mustLet p1 p2 t_law t_kind t_father t_debts = some o) : mtI l yX7_mustLet wsX7_mustLet rmX7_mustLet D (tys5 cI cB cZ cS cT) [.ref qt, .int p1, .int p2] (w_Twn cI cB cZ cS cT qt qt_kind qt_father qt_comes qt_wants qt_cost qt_coins qt_debts t_people t_law t_counters t_kind t_father t_comes t_wants t_cost t_coins t_debts) (w_Twn cI cB cZ cS cT qt qt_kind qt_father qt_comes qt_wants qt_cost qt_coins qt_debts t_people t_law t_counters t_kind t_father t_comes t_wants t_cost t_coins t_debts) o := by
  refine mtI.of (cc := cX7_mustLet) (maxL := 4) (ret := (some .boolean)) (by decide) rfl (Nat.le_of_ble_eq_true rfl) ?_
  intro p e s m below meth c A Q av hav hQ hx hb hr hml hown hts hlocks hK hP hD hA hS ls hl
  have hown : s.vm.findClass RX7 = some m.cls := hown
  have hl : lv_has ls 4 [(0, .ref qt), (1, .int p1), (2, .int p2)] := hl
  unfold Twn_mustLet at hM
  have inX7w : ∀ w ∈ u_ws RX7 TX7 10, w ∈ wsX7_mustLet := by decide +kernel
  have hf15 := hts (.fieldLink RX7 15 "LetsIn$Town" "kind" "[I") (by decide +kernel)
  have hf40 := hts (.fieldLink RX7 40 "LetsIn$Town" "law" "I") (by decide +kernel)
  refine lv_aload_n hx hb dX7_mustLet_0 rfl (lv_at hl 0 rfl) ?_
  refine va_get (D := D) (ci := 7) (v := .ref qt_kind) (C := RX7) (T := TX7) (N := 10) hx hb hts inX7w hown hK hP 0 rfl rfl 3 (by decide) hf15 (fun _ h9 => h9) rfl dX7_mustLet_1 ?_
  refine lv_iload_n hx hb dX7_mustLet_4 rfl (lv_at hl 2 rfl) ?_
  refine mr_iald hx hb hK hP 1 0 rfl rfl hM dX7_mustLet_5 (fun v_1 hM => ?_)
  refine lv_iconst (v := 3) hx hb dX7_mustLet_6 (by decide) ?_
  refine mr_icmp_ne (tgt := 12) hx hb hM dX7_mustLet_7 (by decide) (fun hM => ?_) (fun hM => ?_)
  · refine lv_aload_n hx hb dX7_mustLet_12 rfl (lv_at hl 0 rfl) ?_
    refine va_get (D := D) (ci := 7) (v := .ref qt_kind) (C := RX7) (T := TX7) (N := 10) hx hb hts inX7w hown hK hP 0 rfl rfl 3 (by decide) hf15 (fun _ h9 => h9) rfl dX7_mustLet_13 ?_
    refine lv_iload_n hx hb dX7_mustLet_16 rfl (lv_at hl 2 rfl) ?_
    refine mr_iald hx hb hK hP 1 0 rfl rfl hM dX7_mustLet_17 (fun v_2 hM => ?_)
    refine lv_iconst (v := 2) hx hb dX7_mustLet_18 (by decide) ?_
    refine mr_icmp_ne (tgt := 24) hx hb hM dX7_mustLet_19 (by decide) (fun hM => ?_) (fun hM => ?_)
    · refine lv_aload_n hx hb dX7_mustLet_24 rfl (lv_at hl 0 rfl) ?_
      refine lv_iload_n hx hb dX7_mustLet_25 rfl (lv_at hl 1 rfl) ?_
      refine lv_iload_n hx hb dX7_mustLet_26 rfl (lv_at hl 2 rfl) ?_
      obtain ⟨o_3, hc, hM⟩ := bind_so hM
      refine mr_callVi (As := [.int p1, .int p2]) (rest := []) (wr := []) ⟨hx, hb, hml, hown, hts⟩ (k_Twn_dueOf l D cI cB cZ cS cT qt qt_kind qt_father qt_comes qt_wants qt_cost qt_coins qt_debts t_people t_law t_counters t_kind t_father t_comes t_wants t_cost t_coins t_debts p1 p2 _ hc) (cwV 2 hts gX7_mustLet_X7_dueOf rfl rfl rfl (by decide +kernel) ⟨Nat.le_of_ble_eq_true rfl, Nat.le_of_ble_eq_true rfl⟩) hK hP hD hS hA [0, 1, 2, 3, 4, 5, 6, 7] [] [0, 1, 2, 3, 4, 5, 6, 7] (w_Twn cI cB cZ cS cT qt qt_kind qt_father qt_comes qt_wants qt_cost qt_coins qt_debts t_people t_law t_counters t_kind t_father t_comes t_wants t_cost t_coins t_debts) rfl rfl rfl rfl (by decide) rfl rfl 7 0 rfl rfl rfl rfl hl.1 rfl (Nat.le_of_ble_eq_true rfl) dX7_mustLet_27 ⟨Nat.zero_le _, Nat.zero_le _⟩ (fun H locs hP hD hS => ?_)
      refine lv_istore_n (lv' := [(3, .int o_3), (0, .ref qt), (1, .int p1), (2, .int p2)]) hx hb dX7_mustLet_30 rfl hl (by decide) rfl (fun ls hl => ?_)
      refine lv_aload_n hx hb dX7_mustLet_31 rfl (lv_at hl 1 rfl) ?_
      refine va_get (D := D) (ci := 7) (v := .int t_law) (C := RX7) (T := TX7) (N := 10) hx hb hts inX7w hown hK hP 0 rfl rfl 1 (by decide) hf40 (fun _ h9 => h9) rfl dX7_mustLet_32 ?_
      refine mr_if_ne (tgt := 50) hx hb hM dX7_mustLet_35 (by decide) (fun hM => ?_) (fun hM => ?_)
      · refine lv_iload_n hx hb dX7_mustLet_50 rfl (lv_at hl 0 rfl) ?_
        refine lv_aload_n hx hb dX7_mustLet_51 rfl (lv_at hl 1 rfl) ?_
        refine lv_iload_n hx hb dX7_mustLet_52 rfl (lv_at hl 3 rfl) ?_
        refine lv_iload_n hx hb dX7_mustLet_53 rfl (lv_at hl 2 rfl) ?_
        obtain ⟨o_4, hc, hM⟩ := bind_so hM
        refine mr_callVi (As := [.int p2, .int p1]) (rest := [.int o_3]) (wr := []) ⟨hx, hb, hml, hown, hts⟩ (k_Twn_dueOf l D cI cB cZ cS cT qt qt_kind qt_father qt_comes qt_wants qt_cost qt_coins qt_debts t_people t_law t_counters t_kind t_father t_comes t_wants t_cost t_coins t_debts p2 p1 _ hc) (cwV 2 hts gX7_mustLet_X7_dueOf rfl rfl rfl (by decide +kernel) ⟨Nat.le_of_ble_eq_true rfl, Nat.le_of_ble_eq_true rfl⟩) hK hP hD hS hA [0, 1, 2, 3, 4, 5, 6, 7] [] [0, 1, 2, 3, 4, 5, 6, 7] (w_Twn cI cB cZ cS cT qt qt_kind qt_father qt_comes qt_wants qt_cost qt_coins qt_debts t_people t_law t_counters t_kind t_father t_comes t_wants t_cost t_coins t_debts) rfl rfl rfl rfl (by decide) rfl rfl 7 0 rfl rfl rfl rfl hl.1 rfl (Nat.le_of_ble_eq_true rfl) dX7_mustLet_54 ⟨Nat.zero_le _, Nat.zero_le _⟩ (fun H locs hP hD hS => ?_)
        refine mr_icmp_le (tgt := 64) hx hb hM dX7_mustLet_57 (by decide) (fun hM => ?_) (fun hM => ?_)
        · refine lv_iconst (v := 0) hx hb dX7_mustLet_64 (by decide) ?_
          have hM := Option.some.inj hM
          subst hM
          exact mr_zret hx hb hr (by decide) hlocks hQ hP hD hS rfl dX7_mustLet_65
        · refine lv_iconst (v := 1) hx hb dX7_mustLet_60 (by decide) ?_
          refine lv_goto (tgt := 65) hx hb dX7_mustLet_61 (by decide) ?_
          have hM := Option.some.inj hM
          subst hM
          exact mr_zret hx hb hr (by decide) hlocks hQ hP hD hS rfl dX7_mustLet_65
      · refine lv_iload_n hx hb dX7_mustLet_38 rfl (lv_at hl 0 rfl) ?_
        refine mr_if_le (tgt := 46) hx hb hM dX7_mustLet_39 (by decide) (fun hM => ?_) (fun hM => ?_)
        · refine lv_iconst (v := 0) hx hb dX7_mustLet_46 (by decide) ?_
          refine lv_goto (tgt := 65) hx hb dX7_mustLet_47 (by decide) ?_
          have hM := Option.some.inj hM
          subst hM
          exact mr_zret hx hb hr (by decide) hlocks hQ hP hD hS rfl dX7_mustLet_65
        · refine lv_iconst (v := 1) hx hb dX7_mustLet_42 (by decide) ?_
          refine lv_goto (tgt := 65) hx hb dX7_mustLet_43 (by decide) ?_
          have hM := Option.some.inj hM
          subst hM
          exact mr_zret hx hb hr (by decide) hlocks hQ hP hD hS rfl dX7_mustLet_65
    · refine lv_iconst (v := 0) hx hb dX7_mustLet_22 (by decide) ?_
      have hM := Option.some.inj hM
      subst hM
      exact mr_zret hx hb hr (by decide) hlocks hQ hP hD hS rfl dX7_mustLet_23
  · refine lv_iconst (v := 1) hx hb dX7_mustLet_10 (by decide) ?_
    have hM := Option.some.inj hM
    subst hM
    exact mr_zret hx hb hr (by decide) hlocks hQ hP hD hS rfl dX7_mustLet_11

abbrev rmX7_canBeDebt : Room := { frames := 2, cells := 0, slots := 0, locals := 43 }
set_option maxHeartbeats 40000000 in
set_option maxRecDepth 100000 in
theorem k_Twn_canBeDebt (l : Launch) (D : va_G) (cI cB cZ cS cT : ClassId) (qt qt_kind qt_father qt_comes qt_wants qt_cost qt_coins qt_debts : Nat) (t_people t_law t_counters : Int32) (t_kind t_father t_comes t_wants t_cost t_coins t_debts : Nat → Int32) (p1 p2 p3 : Int32) (o : Int32) (hM : Twn_canBeDebt p1 p2 p3 t_people = some o) : mtI l yX7_canBeDebt wsX7_canBeDebt rmX7_canBeDebt D (tys5 cI cB cZ cS cT) [.ref qt, .int p1, .int p2, .int p3] (w_Twn cI cB cZ cS cT qt qt_kind qt_father qt_comes qt_wants qt_cost qt_coins qt_debts t_people t_law t_counters t_kind t_father t_comes t_wants t_cost t_coins t_debts) (w_Twn cI cB cZ cS cT qt qt_kind qt_father qt_comes qt_wants qt_cost qt_coins qt_debts t_people t_law t_counters t_kind t_father t_comes t_wants t_cost t_coins t_debts) o := by
  refine mtI.of (cc := cX7_canBeDebt) (maxL := 4) (ret := (some .boolean)) (by decide) rfl (Nat.le_of_ble_eq_true rfl) ?_
  intro p e s m below meth c A Q av hav hQ hx hb hr hml hown hts hlocks hK hP hD hA hS ls hl
  have hown : s.vm.findClass RX7 = some m.cls := hown
  have hl : lv_has ls 4 [(0, .ref qt), (1, .int p1), (2, .int p2), (3, .int p3)] := hl
  unfold Twn_canBeDebt at hM
  refine lv_aload_n hx hb dX7_canBeDebt_0 rfl (lv_at hl 0 rfl) ?_
  refine lv_iload_n hx hb dX7_canBeDebt_1 rfl (lv_at hl 1 rfl) ?_
  refine lv_iload_n hx hb dX7_canBeDebt_2 rfl (lv_at hl 2 rfl) ?_
  obtain ⟨o_1, hc, hM⟩ := bind_so hM
  refine mr_callVi (As := [.int p1, .int p2]) (rest := []) (wr := []) ⟨hx, hb, hml, hown, hts⟩ (k_Twn_areTwo l D cI cB cZ cS cT qt qt_kind qt_father qt_comes qt_wants qt_cost qt_coins qt_debts t_people t_law t_counters t_kind t_father t_comes t_wants t_cost t_coins t_debts p1 p2 _ hc) (cwV 2 hts gX7_canBeDebt_X7_areTwo rfl rfl rfl (by decide +kernel) ⟨Nat.le_of_ble_eq_true rfl, Nat.le_of_ble_eq_true rfl⟩) hK hP hD hS hA [0, 1, 2, 3, 4, 5, 6, 7] [] [0, 1, 2, 3, 4, 5, 6, 7] (w_Twn cI cB cZ cS cT qt qt_kind qt_father qt_comes qt_wants qt_cost qt_coins qt_debts t_people t_law t_counters t_kind t_father t_comes t_wants t_cost t_coins t_debts) rfl rfl rfl rfl (by decide) rfl rfl 7 0 rfl rfl rfl rfl hl.1 rfl (Nat.le_of_ble_eq_true rfl) dX7_canBeDebt_3 ⟨Nat.zero_le _, Nat.zero_le _⟩ (fun H locs hP hD hS => ?_)
  refine mr_if_eq (tgt := 23) hx hb hM dX7_canBeDebt_6 (by decide) (fun hM => ?_) (fun hM => ?_)
  · refine lv_iconst (v := 0) hx hb dX7_canBeDebt_23 (by decide) ?_
    have hM := Option.some.inj hM
    subst hM
    exact mr_zret hx hb hr (by decide) hlocks hQ hP hD hS rfl dX7_canBeDebt_24
  · refine lv_iload_n hx hb dX7_canBeDebt_9 rfl (lv_at hl 3 rfl) ?_
    refine mr_if_lt (tgt := 23) hx hb hM dX7_canBeDebt_10 (by decide) (fun hM => ?_) (fun hM => ?_)
    · refine lv_iconst (v := 0) hx hb dX7_canBeDebt_23 (by decide) ?_
      have hM := Option.some.inj hM
      subst hM
      exact mr_zret hx hb hr (by decide) hlocks hQ hP hD hS rfl dX7_canBeDebt_24
    · refine lv_iload_n hx hb dX7_canBeDebt_13 rfl (lv_at hl 3 rfl) ?_
      refine lv_bipush (v := 99) hx hb dX7_canBeDebt_14 (by decide) ?_
      refine mr_icmp_gt (tgt := 23) hx hb hM dX7_canBeDebt_16 (by decide) (fun hM => ?_) (fun hM => ?_)
      · refine lv_iconst (v := 0) hx hb dX7_canBeDebt_23 (by decide) ?_
        have hM := Option.some.inj hM
        subst hM
        exact mr_zret hx hb hr (by decide) hlocks hQ hP hD hS rfl dX7_canBeDebt_24
      · refine lv_iconst (v := 1) hx hb dX7_canBeDebt_19 (by decide) ?_
        refine lv_goto (tgt := 24) hx hb dX7_canBeDebt_20 (by decide) ?_
        have hM := Option.some.inj hM
        subst hM
        exact mr_zret hx hb hr (by decide) hlocks hQ hP hD hS rfl dX7_canBeDebt_24

abbrev rmX7_payOff : Room := { frames := 1, cells := 0, slots := 0, locals := 23 }
set_option maxHeartbeats 40000000 in
set_option maxRecDepth 100000 in
theorem k_Twn_payOff (l : Launch) (D : va_G) (cI cB cZ cS cT : ClassId) (qt qt_kind qt_father qt_comes qt_wants qt_cost qt_coins qt_debts : Nat) (t_people t_law t_counters : Int32) (t_kind t_father t_comes t_wants t_cost t_coins t_debts : Nat → Int32) (p1 p2 : Int32) (o : Int32 × (Nat → Int32) × (Nat → Int32)) (hM : Twn_payOff p1 p2 t_coins t_debts = some o) : mtI l yX7_payOff wsX7_payOff rmX7_payOff D (tys5 cI cB cZ cS cT) [.ref qt, .int p1, .int p2] (w_Twn cI cB cZ cS cT qt qt_kind qt_father qt_comes qt_wants qt_cost qt_coins qt_debts t_people t_law t_counters t_kind t_father t_comes t_wants t_cost t_coins t_debts) (w_Twn cI cB cZ cS cT qt qt_kind qt_father qt_comes qt_wants qt_cost qt_coins qt_debts t_people t_law t_counters t_kind t_father t_comes t_wants t_cost o.2.1 o.2.2) o.1 := by
  refine mtI.of (cc := cX7_payOff) (maxL := 4) (ret := (some .int)) (by decide) rfl (Nat.le_of_ble_eq_true rfl) ?_
  intro p e s m below meth c A Q av hav hQ hx hb hr hml hown hts hlocks hK hP hD hA hS ls hl
  have hown : s.vm.findClass RX7 = some m.cls := hown
  have hl : lv_has ls 4 [(0, .ref qt), (1, .int p1), (2, .int p2)] := hl
  unfold Twn_payOff at hM
  have inX7w : ∀ w ∈ u_ws RX7 TX7 10, w ∈ wsX7_payOff := by decide +kernel
  have hf31 := hts (.fieldLink RX7 31 "LetsIn$Town" "coins" "[I") (by decide +kernel)
  refine lv_aload_n hx hb dX7_payOff_0 rfl (lv_at hl 0 rfl) ?_
  refine lv_iload_n hx hb dX7_payOff_1 rfl (lv_at hl 1 rfl) ?_
  refine lv_iload_n hx hb dX7_payOff_2 rfl (lv_at hl 2 rfl) ?_
  obtain ⟨o_1, hc, hM⟩ := bind_so hM
  refine mr_callVi (As := [.int p1, .int p2]) (rest := []) (wr := []) ⟨hx, hb, hml, hown, hts⟩ (k_Twn_owed l D cI cB cZ cS cT qt qt_kind qt_father qt_comes qt_wants qt_cost qt_coins qt_debts t_people t_law t_counters t_kind t_father t_comes t_wants t_cost t_coins t_debts p1 p2 _ hc) (cwV 2 hts gX7_payOff_X7_owed rfl rfl rfl (by decide +kernel) ⟨Nat.le_of_ble_eq_true rfl, Nat.le_of_ble_eq_true rfl⟩) hK hP hD hS hA [0, 1, 2, 3, 4, 5, 6, 7] [] [0, 1, 2, 3, 4, 5, 6, 7] (w_Twn cI cB cZ cS cT qt qt_kind qt_father qt_comes qt_wants qt_cost qt_coins qt_debts t_people t_law t_counters t_kind t_father t_comes t_wants t_cost t_coins t_debts) rfl rfl rfl rfl (by decide) rfl rfl 7 0 rfl rfl rfl rfl hl.1 rfl (Nat.le_of_ble_eq_true rfl) dX7_payOff_3 ⟨Nat.zero_le _, Nat.zero_le _⟩ (fun H locs hP hD hS => ?_)
  refine lv_istore_n (lv' := [(3, .int o_1), (0, .ref qt), (1, .int p1), (2, .int p2)]) hx hb dX7_payOff_6 rfl hl (by decide) rfl (fun ls hl => ?_)
  refine lv_aload_n hx hb dX7_payOff_7 rfl (lv_at hl 1 rfl) ?_
  refine va_get (D := D) (ci := 7) (v := .ref qt_coins) (C := RX7) (T := TX7) (N := 10) hx hb hts inX7w hown hK hP 0 rfl rfl 8 (by decide) hf31 (fun _ h9 => h9) rfl dX7_payOff_8 ?_
  refine lv_iload_n hx hb dX7_payOff_11 rfl (lv_at hl 2 rfl) ?_
  refine lv_dup2_11 hx hb dX7_payOff_12 rfl rfl ?_
  refine mr_iald hx hb hK hP 6 0 rfl rfl hM dX7_payOff_13 (fun v_2 hM => ?_)
  refine lv_iload_n hx hb dX7_payOff_14 rfl (lv_at hl 0 rfl) ?_
  refine lv_isub hx hb dX7_payOff_15 ?_
  refine mr_iast hx hb hK hP hD hS 6 0 (fun t_coins_3 => (w_Twn cI cB cZ cS cT qt qt_kind qt_father qt_comes qt_wants qt_cost qt_coins qt_debts t_people t_law t_counters t_kind t_father t_comes t_wants t_cost t_coins_3 t_debts)) rfl rfl (fun _ => rfl) hM dX7_payOff_16 (fun t_coins_3 hM H locs hP hD hS => ?_)
  refine lv_aload_n hx hb dX7_payOff_17 rfl (lv_at hl 1 rfl) ?_
  refine va_get (D := D) (ci := 7) (v := .ref qt_coins) (C := RX7) (T := TX7) (N := 10) hx hb hts inX7w hown hK hP 0 rfl rfl 8 (by decide) hf31 (fun _ h9 => h9) rfl dX7_payOff_18 ?_
  refine lv_iload_n hx hb dX7_payOff_21 rfl (lv_at hl 3 rfl) ?_
  refine lv_dup2_11 hx hb dX7_payOff_22 rfl rfl ?_
  refine mr_iald hx hb hK hP 6 0 rfl rfl hM dX7_payOff_23 (fun v_4 hM => ?_)
  refine lv_iload_n hx hb dX7_payOff_24 rfl (lv_at hl 0 rfl) ?_
  refine lv_iadd hx hb dX7_payOff_25 ?_
  refine mr_iast hx hb hK hP hD hS 6 0 (fun t_coins_5 => (w_Twn cI cB cZ cS cT qt qt_kind qt_father qt_comes qt_wants qt_cost qt_coins qt_debts t_people t_law t_counters t_kind t_father t_comes t_wants t_cost t_coins_5 t_debts)) rfl rfl (fun _ => rfl) hM dX7_payOff_26 (fun t_coins_5 hM H locs hP hD hS => ?_)
  refine lv_aload_n hx hb dX7_payOff_27 rfl (lv_at hl 1 rfl) ?_
  refine lv_iload_n hx hb dX7_payOff_28 rfl (lv_at hl 2 rfl) ?_
  refine lv_iload_n hx hb dX7_payOff_29 rfl (lv_at hl 3 rfl) ?_
  refine lv_iconst (v := 0) hx hb dX7_payOff_30 (by decide) ?_
  obtain ⟨o_6, hc, hM⟩ := bind_so hM
  refine mr_callVv (As := [.int p1, .int p2, .int 0]) (rest := []) (wr := []) ⟨hx, hb, hml, hown, hts⟩ (k_Twn_setDebt l D cI cB cZ cS cT qt qt_kind qt_father qt_comes qt_wants qt_cost qt_coins qt_debts t_people t_law t_counters t_kind t_father t_comes t_wants t_cost t_coins_5 t_debts p1 p2 0 _ hc) (cwV 3 hts gX7_payOff_X7_setDebt rfl rfl rfl (by decide +kernel) ⟨Nat.le_of_ble_eq_true rfl, Nat.le_of_ble_eq_true rfl⟩) hK hP hD hS hA [0, 1, 2, 3, 4, 5, 6, 7] [] [0, 1, 2, 3, 4, 5, 6, 7] (w_Twn cI cB cZ cS cT qt qt_kind qt_father qt_comes qt_wants qt_cost qt_coins qt_debts t_people t_law t_counters t_kind t_father t_comes t_wants t_cost t_coins_5 o_6) rfl rfl rfl rfl (by decide) rfl rfl 7 0 rfl rfl rfl rfl hl.1 rfl (Nat.le_of_ble_eq_true rfl) dX7_payOff_31 ⟨Nat.zero_le _, Nat.zero_le _⟩ (fun H locs hP hD hS => ?_)
  refine lv_iload_n hx hb dX7_payOff_34 rfl (lv_at hl 0 rfl) ?_
  have hM := Option.some.inj hM
  subst hM
  exact mr_iret hx hb hr hlocks hQ hP hD hS rfl dX7_payOff_35

abbrev rmX7_lendCoins : Room := { frames := 1, cells := 0, slots := 0, locals := 23 }
set_option maxHeartbeats 40000000 in
set_option maxRecDepth 100000 in
theorem k_Twn_lendCoins (l : Launch) (D : va_G) (cI cB cZ cS cT : ClassId) (qt qt_kind qt_father qt_comes qt_wants qt_cost qt_coins qt_debts : Nat) (t_people t_law t_counters : Int32) (t_kind t_father t_comes t_wants t_cost t_coins t_debts : Nat → Int32) (p1 p2 p3 : Int32) (o : (Nat → Int32) × (Nat → Int32)) (hM : Twn_lendCoins p1 p2 p3 t_coins t_debts = some o) : mtV l yX7_lendCoins wsX7_lendCoins rmX7_lendCoins D (tys5 cI cB cZ cS cT) [.ref qt, .int p1, .int p2, .int p3] (w_Twn cI cB cZ cS cT qt qt_kind qt_father qt_comes qt_wants qt_cost qt_coins qt_debts t_people t_law t_counters t_kind t_father t_comes t_wants t_cost t_coins t_debts) (w_Twn cI cB cZ cS cT qt qt_kind qt_father qt_comes qt_wants qt_cost qt_coins qt_debts t_people t_law t_counters t_kind t_father t_comes t_wants t_cost o.1 o.2) := by
  refine mtV.of (cc := cX7_lendCoins) (maxL := 4) (ret := none) (by decide) rfl (Nat.le_of_ble_eq_true rfl) ?_
  intro p e s m below meth c A Q av hav hQ hx hb hr hml hown hts hlocks hK hP hD hA hS ls hl
  have hown : s.vm.findClass RX7 = some m.cls := hown
  have hl : lv_has ls 4 [(0, .ref qt), (1, .int p1), (2, .int p2), (3, .int p3)] := hl
  unfold Twn_lendCoins at hM
  have inX7w : ∀ w ∈ u_ws RX7 TX7 10, w ∈ wsX7_lendCoins := by decide +kernel
  have hf31 := hts (.fieldLink RX7 31 "LetsIn$Town" "coins" "[I") (by decide +kernel)
  refine lv_aload_n hx hb dX7_lendCoins_0 rfl (lv_at hl 0 rfl) ?_
  refine va_get (D := D) (ci := 7) (v := .ref qt_coins) (C := RX7) (T := TX7) (N := 10) hx hb hts inX7w hown hK hP 0 rfl rfl 8 (by decide) hf31 (fun _ h9 => h9) rfl dX7_lendCoins_1 ?_
  refine lv_iload_n hx hb dX7_lendCoins_4 rfl (lv_at hl 1 rfl) ?_
  refine lv_dup2_11 hx hb dX7_lendCoins_5 rfl rfl ?_
  refine mr_iald hx hb hK hP 6 0 rfl rfl hM dX7_lendCoins_6 (fun v_1 hM => ?_)
  refine lv_iload_n hx hb dX7_lendCoins_7 rfl (lv_at hl 3 rfl) ?_
  refine lv_isub hx hb dX7_lendCoins_8 ?_
  refine mr_iast hx hb hK hP hD hS 6 0 (fun t_coins_2 => (w_Twn cI cB cZ cS cT qt qt_kind qt_father qt_comes qt_wants qt_cost qt_coins qt_debts t_people t_law t_counters t_kind t_father t_comes t_wants t_cost t_coins_2 t_debts)) rfl rfl (fun _ => rfl) hM dX7_lendCoins_9 (fun t_coins_2 hM H locs hP hD hS => ?_)
  refine lv_aload_n hx hb dX7_lendCoins_10 rfl (lv_at hl 0 rfl) ?_
  refine va_get (D := D) (ci := 7) (v := .ref qt_coins) (C := RX7) (T := TX7) (N := 10) hx hb hts inX7w hown hK hP 0 rfl rfl 8 (by decide) hf31 (fun _ h9 => h9) rfl dX7_lendCoins_11 ?_
  refine lv_iload_n hx hb dX7_lendCoins_14 rfl (lv_at hl 2 rfl) ?_
  refine lv_dup2_11 hx hb dX7_lendCoins_15 rfl rfl ?_
  refine mr_iald hx hb hK hP 6 0 rfl rfl hM dX7_lendCoins_16 (fun v_3 hM => ?_)
  refine lv_iload_n hx hb dX7_lendCoins_17 rfl (lv_at hl 3 rfl) ?_
  refine lv_iadd hx hb dX7_lendCoins_18 ?_
  refine mr_iast hx hb hK hP hD hS 6 0 (fun t_coins_4 => (w_Twn cI cB cZ cS cT qt qt_kind qt_father qt_comes qt_wants qt_cost qt_coins qt_debts t_people t_law t_counters t_kind t_father t_comes t_wants t_cost t_coins_4 t_debts)) rfl rfl (fun _ => rfl) hM dX7_lendCoins_19 (fun t_coins_4 hM H locs hP hD hS => ?_)
  refine lv_aload_n hx hb dX7_lendCoins_20 rfl (lv_at hl 0 rfl) ?_
  refine lv_iload_n hx hb dX7_lendCoins_21 rfl (lv_at hl 2 rfl) ?_
  refine lv_iload_n hx hb dX7_lendCoins_22 rfl (lv_at hl 1 rfl) ?_
  refine lv_aload_n hx hb dX7_lendCoins_23 rfl (lv_at hl 0 rfl) ?_
  refine lv_iload_n hx hb dX7_lendCoins_24 rfl (lv_at hl 2 rfl) ?_
  refine lv_iload_n hx hb dX7_lendCoins_25 rfl (lv_at hl 1 rfl) ?_
  obtain ⟨o_5, hc, hM⟩ := bind_so hM
  refine mr_callVi (As := [.int p2, .int p1]) (rest := [.int p1, .int p2, .ref qt]) (wr := []) ⟨hx, hb, hml, hown, hts⟩ (k_Twn_owed l D cI cB cZ cS cT qt qt_kind qt_father qt_comes qt_wants qt_cost qt_coins qt_debts t_people t_law t_counters t_kind t_father t_comes t_wants t_cost t_coins_4 t_debts p2 p1 _ hc) (cwV 2 hts gX7_lendCoins_X7_owed rfl rfl rfl (by decide +kernel) ⟨Nat.le_of_ble_eq_true rfl, Nat.le_of_ble_eq_true rfl⟩) hK hP hD hS hA [0, 1, 2, 3, 4, 5, 6, 7] [] [0, 1, 2, 3, 4, 5, 6, 7] (w_Twn cI cB cZ cS cT qt qt_kind qt_father qt_comes qt_wants qt_cost qt_coins qt_debts t_people t_law t_counters t_kind t_father t_comes t_wants t_cost t_coins_4 t_debts) rfl rfl rfl rfl (by decide) rfl rfl 7 0 rfl rfl rfl rfl hl.1 rfl (Nat.le_of_ble_eq_true rfl) dX7_lendCoins_26 ⟨Nat.zero_le _, Nat.zero_le _⟩ (fun H locs hP hD hS => ?_)
  refine lv_iload_n hx hb dX7_lendCoins_29 rfl (lv_at hl 3 rfl) ?_
  refine lv_iadd hx hb dX7_lendCoins_30 ?_
  obtain ⟨o_6, hc, hM⟩ := bind_so hM
  refine mr_callVv (As := [.int p2, .int p1, .int (o_5 + p3)]) (rest := []) (wr := []) ⟨hx, hb, hml, hown, hts⟩ (k_Twn_setDebt l D cI cB cZ cS cT qt qt_kind qt_father qt_comes qt_wants qt_cost qt_coins qt_debts t_people t_law t_counters t_kind t_father t_comes t_wants t_cost t_coins_4 t_debts p2 p1 (o_5 + p3) _ hc) (cwV 3 hts gX7_lendCoins_X7_setDebt rfl rfl rfl (by decide +kernel) ⟨Nat.le_of_ble_eq_true rfl, Nat.le_of_ble_eq_true rfl⟩) hK hP hD hS hA [0, 1, 2, 3, 4, 5, 6, 7] [] [0, 1, 2, 3, 4, 5, 6, 7] (w_Twn cI cB cZ cS cT qt qt_kind qt_father qt_comes qt_wants qt_cost qt_coins qt_debts t_people t_law t_counters t_kind t_father t_comes t_wants t_cost t_coins_4 o_6) rfl rfl rfl rfl (by decide) rfl rfl 7 0 rfl rfl rfl rfl hl.1 rfl (Nat.le_of_ble_eq_true rfl) dX7_lendCoins_31 ⟨Nat.zero_le _, Nat.zero_le _⟩ (fun H locs hP hD hS => ?_)
  have hM := Option.some.inj hM
  subst hM
  exact mr_vret hx hb hr hlocks hQ hP hD hS dX7_lendCoins_34

abbrev rmX7_ratherPays : Room := { frames := 1, cells := 0, slots := 0, locals := 22 }
set_option maxHeartbeats 40000000 in
set_option maxRecDepth 100000 in
theorem k_Twn_ratherPays (l : Launch) (D : va_G) (cI cB cZ cS cT : ClassId) (qt qt_kind qt_father qt_comes qt_wants qt_cost qt_coins qt_debts : Nat) (t_people t_law t_counters : Int32) (t_kind t_father t_comes t_wants t_cost t_coins t_debts : Nat → Int32) (p1 p2 : Int32) (o : Int32) (hM : Twn_ratherPays p1 p2 t_kind t_coins t_debts = some o) : mtI l yX7_ratherPays wsX7_ratherPays rmX7_ratherPays D (tys5 cI cB cZ cS cT) [.ref qt, .int p1, .int p2] (w_Twn cI cB cZ cS cT qt qt_kind qt_father qt_comes qt_wants qt_cost qt_coins qt_debts t_people t_law t_counters t_kind t_father t_comes t_wants t_cost t_coins t_debts) (w_Twn cI cB cZ cS cT qt qt_kind qt_father qt_comes qt_wants qt_cost qt_coins qt_debts t_people t_law t_counters t_kind t_father t_comes t_wants t_cost t_coins t_debts) o := by
  refine mtI.of (cc := cX7_ratherPays) (maxL := 4) (ret := (some .boolean)) (by decide) rfl (Nat.le_of_ble_eq_true rfl) ?_
  intro p e s m below meth c A Q av hav hQ hx hb hr hml hown hts hlocks hK hP hD hA hS ls hl
  have hown : s.vm.findClass RX7 = some m.cls := hown
  have hl : lv_has ls 4 [(0, .ref qt), (1, .int p1), (2, .int p2)] := hl
  unfold Twn_ratherPays at hM
  have inX7w : ∀ w ∈ u_ws RX7 TX7 10, w ∈ wsX7_ratherPays := by decide +kernel
  have hf15 := hts (.fieldLink RX7 15 "LetsIn$Town" "kind" "[I") (by decide +kernel)
  have hf31 := hts (.fieldLink RX7 31 "LetsIn$Town" "coins" "[I") (by decide +kernel)
  refine lv_aload_n hx hb dX7_ratherPays_0 rfl (lv_at hl 0 rfl) ?_
  refine lv_iload_n hx hb dX7_ratherPays_1 rfl (lv_at hl 1 rfl) ?_
  refine lv_iload_n hx hb dX7_ratherPays_2 rfl (lv_at hl 2 rfl) ?_
  obtain ⟨o_1, hc, hM⟩ := bind_so hM
  refine mr_callVi (As := [.int p1, .int p2]) (rest := []) (wr := []) ⟨hx, hb, hml, hown, hts⟩ (k_Twn_owed l D cI cB cZ cS cT qt qt_kind qt_father qt_comes qt_wants qt_cost qt_coins qt_debts t_people t_law t_counters t_kind t_father t_comes t_wants t_cost t_coins t_debts p1 p2 _ hc) (cwV 2 hts gX7_ratherPays_X7_owed rfl rfl rfl (by decide +kernel) ⟨Nat.le_of_ble_eq_true rfl, Nat.le_of_ble_eq_true rfl⟩) hK hP hD hS hA [0, 1, 2, 3, 4, 5, 6, 7] [] [0, 1, 2, 3, 4, 5, 6, 7] (w_Twn cI cB cZ cS cT qt qt_kind qt_father qt_comes qt_wants qt_cost qt_coins qt_debts t_people t_law t_counters t_kind t_father t_comes t_wants t_cost t_coins t_debts) rfl rfl rfl rfl (by decide) rfl rfl 7 0 rfl rfl rfl rfl hl.1 rfl (Nat.le_of_ble_eq_true rfl) dX7_ratherPays_3 ⟨Nat.zero_le _, Nat.zero_le _⟩ (fun H locs hP hD hS => ?_)
  refine lv_istore_n (lv' := [(3, .int o_1), (0, .ref qt), (1, .int p1), (2, .int p2)]) hx hb dX7_ratherPays_6 rfl hl (by decide) rfl (fun ls hl => ?_)
  refine lv_aload_n hx hb dX7_ratherPays_7 rfl (lv_at hl 1 rfl) ?_
  refine va_get (D := D) (ci := 7) (v := .ref qt_kind) (C := RX7) (T := TX7) (N := 10) hx hb hts inX7w hown hK hP 0 rfl rfl 3 (by decide) hf15 (fun _ h9 => h9) rfl dX7_ratherPays_8 ?_
  refine lv_iload_n hx hb dX7_ratherPays_11 rfl (lv_at hl 2 rfl) ?_
  refine mr_iald hx hb hK hP 1 0 rfl rfl hM dX7_ratherPays_12 (fun v_2 hM => ?_)
  refine lv_iconst (v := 1) hx hb dX7_ratherPays_13 (by decide) ?_
  refine mr_icmp_ne (tgt := 45) hx hb hM dX7_ratherPays_14 (by decide) (fun hM => ?_) (fun hM => ?_)
  · refine lv_iconst (v := 0) hx hb dX7_ratherPays_45 (by decide) ?_
    have hM := Option.some.inj hM
    subst hM
    exact mr_zret hx hb hr (by decide) hlocks hQ hP hD hS rfl dX7_ratherPays_46
  · refine lv_aload_n hx hb dX7_ratherPays_17 rfl (lv_at hl 1 rfl) ?_
    refine va_get (D := D) (ci := 7) (v := .ref qt_kind) (C := RX7) (T := TX7) (N := 10) hx hb hts inX7w hown hK hP 0 rfl rfl 3 (by decide) hf15 (fun _ h9 => h9) rfl dX7_ratherPays_18 ?_
    refine lv_iload_n hx hb dX7_ratherPays_21 rfl (lv_at hl 3 rfl) ?_
    refine mr_iald hx hb hK hP 1 0 rfl rfl hM dX7_ratherPays_22 (fun v_3 hM => ?_)
    refine lv_iconst (v := 3) hx hb dX7_ratherPays_23 (by decide) ?_
    refine mr_icmp_eq (tgt := 45) hx hb hM dX7_ratherPays_24 (by decide) (fun hM => ?_) (fun hM => ?_)
    · refine lv_iconst (v := 0) hx hb dX7_ratherPays_45 (by decide) ?_
      have hM := Option.some.inj hM
      subst hM
      exact mr_zret hx hb hr (by decide) hlocks hQ hP hD hS rfl dX7_ratherPays_46
    · refine lv_iload_n hx hb dX7_ratherPays_27 rfl (lv_at hl 0 rfl) ?_
      refine mr_if_le (tgt := 45) hx hb hM dX7_ratherPays_28 (by decide) (fun hM => ?_) (fun hM => ?_)
      · refine lv_iconst (v := 0) hx hb dX7_ratherPays_45 (by decide) ?_
        have hM := Option.some.inj hM
        subst hM
        exact mr_zret hx hb hr (by decide) hlocks hQ hP hD hS rfl dX7_ratherPays_46
      · refine lv_aload_n hx hb dX7_ratherPays_31 rfl (lv_at hl 1 rfl) ?_
        refine va_get (D := D) (ci := 7) (v := .ref qt_coins) (C := RX7) (T := TX7) (N := 10) hx hb hts inX7w hown hK hP 0 rfl rfl 8 (by decide) hf31 (fun _ h9 => h9) rfl dX7_ratherPays_32 ?_
        refine lv_iload_n hx hb dX7_ratherPays_35 rfl (lv_at hl 2 rfl) ?_
        refine mr_iald hx hb hK hP 6 0 rfl rfl hM dX7_ratherPays_36 (fun v_4 hM => ?_)
        refine lv_iload_n hx hb dX7_ratherPays_37 rfl (lv_at hl 0 rfl) ?_
        refine mr_icmp_lt (tgt := 45) hx hb hM dX7_ratherPays_38 (by decide) (fun hM => ?_) (fun hM => ?_)
        · refine lv_iconst (v := 0) hx hb dX7_ratherPays_45 (by decide) ?_
          have hM := Option.some.inj hM
          subst hM
          exact mr_zret hx hb hr (by decide) hlocks hQ hP hD hS rfl dX7_ratherPays_46
        · refine lv_iconst (v := 1) hx hb dX7_ratherPays_41 (by decide) ?_
          refine lv_goto (tgt := 46) hx hb dX7_ratherPays_42 (by decide) ?_
          have hM := Option.some.inj hM
          subst hM
          exact mr_zret hx hb hr (by decide) hlocks hQ hP hD hS rfl dX7_ratherPays_46

abbrev rmX7_firstToCome : Room := { frames := 0, cells := 0, slots := 0, locals := 0 }
set_option maxHeartbeats 40000000 in
set_option maxRecDepth 100000 in
theorem k_Twn_firstToCome (l : Launch) (D : va_G) (cI cB cZ cS cT : ClassId) (qt qt_kind qt_father qt_comes qt_wants qt_cost qt_coins qt_debts : Nat) (t_people t_law t_counters : Int32) (t_kind t_father t_comes t_wants t_cost t_coins t_debts : Nat → Int32) (p1 : Int32) (o : Int32) (hM : Twn_firstToCome p1 t_people t_comes = some o) : mtI l yX7_firstToCome wsX7_firstToCome rmX7_firstToCome D (tys5 cI cB cZ cS cT) [.ref qt, .int p1] (w_Twn cI cB cZ cS cT qt qt_kind qt_father qt_comes qt_wants qt_cost qt_coins qt_debts t_people t_law t_counters t_kind t_father t_comes t_wants t_cost t_coins t_debts) (w_Twn cI cB cZ cS cT qt qt_kind qt_father qt_comes qt_wants qt_cost qt_coins qt_debts t_people t_law t_counters t_kind t_father t_comes t_wants t_cost t_coins t_debts) o := by
  refine mtI.of (cc := cX7_firstToCome) (maxL := 4) (ret := (some .int)) (by decide) rfl (Nat.le_of_ble_eq_true rfl) ?_
  intro p e s m below meth c A Q av hav hQ hx hb hr hml hown hts hlocks hK hP hD hA hS ls hl
  have hown : s.vm.findClass RX7 = some m.cls := hown
  have hl : lv_has ls 4 [(0, .ref qt), (1, .int p1)] := hl
  unfold Twn_firstToCome at hM
  have inX7w : ∀ w ∈ u_ws RX7 TX7 10, w ∈ wsX7_firstToCome := by decide +kernel
  have hf37 := hts (.fieldLink RX7 37 "LetsIn$Town" "people" "I") (by decide +kernel)
  have hf22 := hts (.fieldLink RX7 22 "LetsIn$Town" "comes" "[I") (by decide +kernel)
  refine lv_bipush (v := (-4)) hx hb dX7_firstToCome_0 (by decide) ?_
  refine lv_istore_n (lv' := [(2, .int (-4)), (0, .ref qt), (1, .int p1)]) hx hb dX7_firstToCome_2 rfl hl (by decide) rfl (fun ls hl => ?_)
  refine lv_iconst (v := 0) hx hb dX7_firstToCome_3 (by decide) ?_
  refine lv_istore_n (lv' := [(3, .int 0), (2, .int (-4)), (0, .ref qt), (1, .int p1)]) hx hb dX7_firstToCome_4 rfl hl (by decide) rfl (fun ls hl => ?_)
  have hL5 : ∀ (K48 : Int32 → Option (Int32)), (∀ (x2_9 : Int32), K48 x2_9 = some o → ∀ (H : Heap) (locs : List Loc), va_P D vwCl (w_Twn cI cB cZ cS cT qt qt_kind qt_father qt_comes qt_wants qt_cost qt_coins qt_debts t_people t_law t_counters t_kind t_father t_comes t_wants t_cost t_coins t_debts) H → va_D A (w_Twn cI cB cZ cS cT qt qt_kind qt_father qt_comes qt_wants qt_cost qt_coins qt_debts t_people t_law t_counters t_kind t_father t_comes t_wants t_cost t_coins t_debts) → va_S A s.heap H locs → ∀ ls : Array Slot, lv_has ls 4 [(2, .int x2_9)] → W p l e rmX7_firstToCome s m av below meth c H locs 0 0 Q (F0 m 48 ls [])) → ∀ (n : Nat) (x2_1 x3_2 : Int32), Twn_firstToCome_L5 t_people t_comes p1 K48 n x2_1 x3_2 = some o → ∀ (H : Heap) (locs : List Loc), va_P D vwCl (w_Twn cI cB cZ cS cT qt qt_kind qt_father qt_comes qt_wants qt_cost qt_coins qt_debts t_people t_law t_counters t_kind t_father t_comes t_wants t_cost t_coins t_debts) H → va_D A (w_Twn cI cB cZ cS cT qt qt_kind qt_father qt_comes qt_wants qt_cost qt_coins qt_debts t_people t_law t_counters t_kind t_father t_comes t_wants t_cost t_coins t_debts) → va_S A s.heap H locs → ∀ ls : Array Slot, lv_has ls 4 [(0, .ref qt), (1, .int p1), (2, .int x2_1), (3, .int x3_2)] → W p l e rmX7_firstToCome s m av below meth c H locs 0 0 Q (F0 m 5 ls []) := by
    intro K48 hK48 n
    induction n with
    | zero =>
      intro x2_1 x3_2 hM
      rw [Twn_firstToCome_L5] at hM
      cases hM
    | succ n ih =>
      intro x2_1 x3_2 hM H locs hP hD hS ls hl
      rw [Twn_firstToCome_L5] at hM
      refine lv_iload_n hx hb dX7_firstToCome_5 rfl (lv_at hl 3 rfl) ?_
      refine lv_aload_n hx hb dX7_firstToCome_6 rfl (lv_at hl 0 rfl) ?_
      refine va_get (D := D) (ci := 7) (v := .int t_people) (C := RX7) (T := TX7) (N := 10) hx hb hts inX7w hown hK hP 0 rfl rfl 0 (by decide) hf37 (fun _ h9 => h9) rfl dX7_firstToCome_7 ?_
      refine mr_icmp_ge (tgt := 48) hx hb hM dX7_firstToCome_10 (by decide) (fun hM => ?_) (fun hM => ?_)
      · exact hK48 x2_1 hM _ _ hP hD hS ls (lv_sub hl [2] rfl)
      · refine lv_iload_n hx hb dX7_firstToCome_13 rfl (lv_at hl 1 rfl) ?_
        refine lv_iload_n hx hb dX7_firstToCome_14 rfl (lv_at hl 3 rfl) ?_
        refine lv_ishr hx hb dX7_firstToCome_15 ?_
        refine lv_iconst (v := 1) hx hb dX7_firstToCome_16 (by decide) ?_
        refine lv_iand hx hb dX7_firstToCome_17 ?_
        refine mr_if_eq (tgt := 42) hx hb hM dX7_firstToCome_18 (by decide) (fun hM => ?_) (fun hM => ?_)
        · refine mr_iinc (k := 3) (d := 1) hx hb (fun x3_3 => [(3, .int x3_3), (0, .ref qt), (1, .int p1), (2, .int x2_1)]) hM (by decide) dX7_firstToCome_42 hl rfl (by decide) (fun _ => rfl) (fun x3_3 hM ls hl => ?_)
          refine lv_goto (tgt := 5) hx hb dX7_firstToCome_45 (by decide) ?_
          exact ih x2_1 x3_3 hM _ _ hP hD hS ls (lv_sub hl [1, 2, 3, 0] rfl)
        · refine lv_iload_n hx hb dX7_firstToCome_21 rfl (lv_at hl 2 rfl) ?_
          refine mr_jn hM (fun j40_4 => ∀ _u : Unit, j40_4 _u = some o → ∀ (H : Heap) (locs : List Loc), va_P D vwCl (w_Twn cI cB cZ cS cT qt qt_kind qt_father qt_comes qt_wants qt_cost qt_coins qt_debts t_people t_law t_counters t_kind t_father t_comes t_wants t_cost t_coins t_debts) H → va_D A (w_Twn cI cB cZ cS cT qt qt_kind qt_father qt_comes qt_wants qt_cost qt_coins qt_debts t_people t_law t_counters t_kind t_father t_comes t_wants t_cost t_coins t_debts) → va_S A s.heap H locs → ∀ ls : Array Slot, lv_has ls 4 [(0, .ref qt), (1, .int p1), (3, .int x3_2)] → W p l e rmX7_firstToCome s m av below meth c H locs 0 0 Q (F0 m 40 ls [])) (fun _u hM H locs hP hD hS ls hl => ?_) (fun j40_4 hj40_4 hM => ?_)
          · refine lv_iload_n hx hb dX7_firstToCome_40 rfl (lv_at hl 2 rfl) ?_
            refine lv_istore_n (lv' := [(2, .int x3_2), (0, .ref qt), (1, .int p1), (3, .int x3_2)]) hx hb dX7_firstToCome_41 rfl hl (by decide) rfl (fun ls hl => ?_)
            refine mr_iinc (k := 3) (d := 1) hx hb (fun x3_5 => [(3, .int x3_5), (2, .int x3_2), (0, .ref qt), (1, .int p1)]) hM (by decide) dX7_firstToCome_42 hl rfl (by decide) (fun _ => rfl) (fun x3_5 hM ls hl => ?_)
            refine lv_goto (tgt := 5) hx hb dX7_firstToCome_45 (by decide) ?_
            exact ih x3_2 x3_5 hM _ _ hP hD hS ls (lv_sub hl [2, 3, 1, 0] rfl)
          · refine mr_if_lt (tgt := 40) hx hb hM dX7_firstToCome_22 (by decide) (fun hM => ?_) (fun hM => ?_)
            · exact hj40_4 () hM _ _ hP hD hS ls (lv_sub hl [0, 1, 3] rfl)
            · refine lv_aload_n hx hb dX7_firstToCome_25 rfl (lv_at hl 0 rfl) ?_
              refine va_get (D := D) (ci := 7) (v := .ref qt_comes) (C := RX7) (T := TX7) (N := 10) hx hb hts inX7w hown hK hP 0 rfl rfl 5 (by decide) hf22 (fun _ h9 => h9) rfl dX7_firstToCome_26 ?_
              refine lv_iload_n hx hb dX7_firstToCome_29 rfl (lv_at hl 3 rfl) ?_
              refine mr_iald hx hb hK hP 3 0 rfl rfl hM dX7_firstToCome_30 (fun v_6 hM => ?_)
              refine lv_aload_n hx hb dX7_firstToCome_31 rfl (lv_at hl 0 rfl) ?_
              refine va_get (D := D) (ci := 7) (v := .ref qt_comes) (C := RX7) (T := TX7) (N := 10) hx hb hts inX7w hown hK hP 0 rfl rfl 5 (by decide) hf22 (fun _ h9 => h9) rfl dX7_firstToCome_32 ?_
              refine lv_iload_n hx hb dX7_firstToCome_35 rfl (lv_at hl 2 rfl) ?_
              refine mr_iald hx hb hK hP 3 0 rfl rfl hM dX7_firstToCome_36 (fun v_7 hM => ?_)
              refine mr_icmp_ge (tgt := 42) hx hb hM dX7_firstToCome_37 (by decide) (fun hM => ?_) (fun hM => ?_)
              · refine mr_iinc (k := 3) (d := 1) hx hb (fun x3_8 => [(3, .int x3_8), (0, .ref qt), (1, .int p1), (2, .int x2_1)]) hM (by decide) dX7_firstToCome_42 hl rfl (by decide) (fun _ => rfl) (fun x3_8 hM ls hl => ?_)
                refine lv_goto (tgt := 5) hx hb dX7_firstToCome_45 (by decide) ?_
                exact ih x2_1 x3_8 hM _ _ hP hD hS ls (lv_sub hl [1, 2, 3, 0] rfl)
              · exact hj40_4 () hM _ _ hP hD hS ls (lv_sub hl [0, 1, 3] rfl)
  refine hL5 _ (fun x2_9 hM H locs hP hD hS ls hl => ?_) _ (-4) 0 hM _ _ hP hD hS ls (lv_sub hl [2, 3, 1, 0] rfl)
  refine lv_iload_n hx hb dX7_firstToCome_48 rfl (lv_at hl 0 rfl) ?_
  have hM := Option.some.inj hM
  subst hM
  exact mr_iret hx hb hr hlocks hQ hP hD hS rfl dX7_firstToCome_49

abbrev rmX7_buyDebt : Room := { frames := 1, cells := 0, slots := 0, locals := 23 }
set_option maxHeartbeats 40000000 in
set_option maxRecDepth 100000 in
theorem k_Twn_buyDebt (l : Launch) (D : va_G) (cI cB cZ cS cT : ClassId) (qt qt_kind qt_father qt_comes qt_wants qt_cost qt_coins qt_debts : Nat) (t_people t_law t_counters : Int32) (t_kind t_father t_comes t_wants t_cost t_coins t_debts : Nat → Int32) (p1 p2 p3 : Int32) (o : (Nat → Int32) × (Nat → Int32)) (hM : Twn_buyDebt p1 p2 p3 t_coins t_debts = some o) : mtV l yX7_buyDebt wsX7_buyDebt rmX7_buyDebt D (tys5 cI cB cZ cS cT) [.ref qt, .int p1, .int p2, .int p3] (w_Twn cI cB cZ cS cT qt qt_kind qt_father qt_comes qt_wants qt_cost qt_coins qt_debts t_people t_law t_counters t_kind t_father t_comes t_wants t_cost t_coins t_debts) (w_Twn cI cB cZ cS cT qt qt_kind qt_father qt_comes qt_wants qt_cost qt_coins qt_debts t_people t_law t_counters t_kind t_father t_comes t_wants t_cost o.1 o.2) := by
  refine mtV.of (cc := cX7_buyDebt) (maxL := 5) (ret := none) (by decide) rfl (Nat.le_of_ble_eq_true rfl) ?_
  intro p e s m below meth c A Q av hav hQ hx hb hr hml hown hts hlocks hK hP hD hA hS ls hl
  have hown : s.vm.findClass RX7 = some m.cls := hown
  have hl : lv_has ls 5 [(0, .ref qt), (1, .int p1), (2, .int p2), (3, .int p3)] := hl
  unfold Twn_buyDebt at hM
  have inX7w : ∀ w ∈ u_ws RX7 TX7 10, w ∈ wsX7_buyDebt := by decide +kernel
  have hf31 := hts (.fieldLink RX7 31 "LetsIn$Town" "coins" "[I") (by decide +kernel)
  refine lv_aload_n hx hb dX7_buyDebt_0 rfl (lv_at hl 0 rfl) ?_
  refine lv_iload_n hx hb dX7_buyDebt_1 rfl (lv_at hl 2 rfl) ?_
  refine lv_iload_n hx hb dX7_buyDebt_2 rfl (lv_at hl 3 rfl) ?_
  obtain ⟨o_1, hc, hM⟩ := bind_so hM
  refine mr_callVi (As := [.int p2, .int p3]) (rest := []) (wr := []) ⟨hx, hb, hml, hown, hts⟩ (k_Twn_owed l D cI cB cZ cS cT qt qt_kind qt_father qt_comes qt_wants qt_cost qt_coins qt_debts t_people t_law t_counters t_kind t_father t_comes t_wants t_cost t_coins t_debts p2 p3 _ hc) (cwV 2 hts gX7_buyDebt_X7_owed rfl rfl rfl (by decide +kernel) ⟨Nat.le_of_ble_eq_true rfl, Nat.le_of_ble_eq_true rfl⟩) hK hP hD hS hA [0, 1, 2, 3, 4, 5, 6, 7] [] [0, 1, 2, 3, 4, 5, 6, 7] (w_Twn cI cB cZ cS cT qt qt_kind qt_father qt_comes qt_wants qt_cost qt_coins qt_debts t_people t_law t_counters t_kind t_father t_comes t_wants t_cost t_coins t_debts) rfl rfl rfl rfl (by decide) rfl rfl 7 0 rfl rfl rfl rfl hl.1 rfl (Nat.le_of_ble_eq_true rfl) dX7_buyDebt_3 ⟨Nat.zero_le _, Nat.zero_le _⟩ (fun H locs hP hD hS => ?_)
  refine lv_istore (lv' := [(4, .int o_1), (0, .ref qt), (1, .int p1), (2, .int p2), (3, .int p3)]) hx hb dX7_buyDebt_6 hl (by decide) rfl (fun ls hl => ?_)
  refine lv_aload_n hx hb dX7_buyDebt_8 rfl (lv_at hl 1 rfl) ?_
  refine va_get (D := D) (ci := 7) (v := .ref qt_coins) (C := RX7) (T := TX7) (N := 10) hx hb hts inX7w hown hK hP 0 rfl rfl 8 (by decide) hf31 (fun _ h9 => h9) rfl dX7_buyDebt_9 ?_
  refine lv_iload_n hx hb dX7_buyDebt_12 rfl (lv_at hl 2 rfl) ?_
  refine lv_dup2_11 hx hb dX7_buyDebt_13 rfl rfl ?_
  refine mr_iald hx hb hK hP 6 0 rfl rfl hM dX7_buyDebt_14 (fun v_2 hM => ?_)
  refine lv_iload hx hb dX7_buyDebt_15 (lv_at hl 0 rfl) ?_
  refine lv_isub hx hb dX7_buyDebt_17 ?_
  refine mr_iast hx hb hK hP hD hS 6 0 (fun t_coins_3 => (w_Twn cI cB cZ cS cT qt qt_kind qt_father qt_comes qt_wants qt_cost qt_coins qt_debts t_people t_law t_counters t_kind t_father t_comes t_wants t_cost t_coins_3 t_debts)) rfl rfl (fun _ => rfl) hM dX7_buyDebt_18 (fun t_coins_3 hM H locs hP hD hS => ?_)
  refine lv_aload_n hx hb dX7_buyDebt_19 rfl (lv_at hl 1 rfl) ?_
  refine va_get (D := D) (ci := 7) (v := .ref qt_coins) (C := RX7) (T := TX7) (N := 10) hx hb hts inX7w hown hK hP 0 rfl rfl 8 (by decide) hf31 (fun _ h9 => h9) rfl dX7_buyDebt_20 ?_
  refine lv_iload_n hx hb dX7_buyDebt_23 rfl (lv_at hl 4 rfl) ?_
  refine lv_dup2_11 hx hb dX7_buyDebt_24 rfl rfl ?_
  refine mr_iald hx hb hK hP 6 0 rfl rfl hM dX7_buyDebt_25 (fun v_4 hM => ?_)
  refine lv_iload hx hb dX7_buyDebt_26 (lv_at hl 0 rfl) ?_
  refine lv_iadd hx hb dX7_buyDebt_28 ?_
  refine mr_iast hx hb hK hP hD hS 6 0 (fun t_coins_5 => (w_Twn cI cB cZ cS cT qt qt_kind qt_father qt_comes qt_wants qt_cost qt_coins qt_debts t_people t_law t_counters t_kind t_father t_comes t_wants t_cost t_coins_5 t_debts)) rfl rfl (fun _ => rfl) hM dX7_buyDebt_29 (fun t_coins_5 hM H locs hP hD hS => ?_)
  refine lv_aload_n hx hb dX7_buyDebt_30 rfl (lv_at hl 1 rfl) ?_
  refine lv_iload_n hx hb dX7_buyDebt_31 rfl (lv_at hl 3 rfl) ?_
  refine lv_iload_n hx hb dX7_buyDebt_32 rfl (lv_at hl 4 rfl) ?_
  refine lv_iconst (v := 0) hx hb dX7_buyDebt_33 (by decide) ?_
  obtain ⟨o_6, hc, hM⟩ := bind_so hM
  refine mr_callVv (As := [.int p2, .int p3, .int 0]) (rest := []) (wr := []) ⟨hx, hb, hml, hown, hts⟩ (k_Twn_setDebt l D cI cB cZ cS cT qt qt_kind qt_father qt_comes qt_wants qt_cost qt_coins qt_debts t_people t_law t_counters t_kind t_father t_comes t_wants t_cost t_coins_5 t_debts p2 p3 0 _ hc) (cwV 3 hts gX7_buyDebt_X7_setDebt rfl rfl rfl (by decide +kernel) ⟨Nat.le_of_ble_eq_true rfl, Nat.le_of_ble_eq_true rfl⟩) hK hP hD hS hA [0, 1, 2, 3, 4, 5, 6, 7] [] [0, 1, 2, 3, 4, 5, 6, 7] (w_Twn cI cB cZ cS cT qt qt_kind qt_father qt_comes qt_wants qt_cost qt_coins qt_debts t_people t_law t_counters t_kind t_father t_comes t_wants t_cost t_coins_5 o_6) rfl rfl rfl rfl (by decide) rfl rfl 7 0 rfl rfl rfl rfl hl.1 rfl (Nat.le_of_ble_eq_true rfl) dX7_buyDebt_34 ⟨Nat.zero_le _, Nat.zero_le _⟩ (fun H locs hP hD hS => ?_)
  refine lv_aload_n hx hb dX7_buyDebt_37 rfl (lv_at hl 1 rfl) ?_
  refine lv_iload_n hx hb dX7_buyDebt_38 rfl (lv_at hl 3 rfl) ?_
  refine lv_iload_n hx hb dX7_buyDebt_39 rfl (lv_at hl 2 rfl) ?_
  refine lv_aload_n hx hb dX7_buyDebt_40 rfl (lv_at hl 1 rfl) ?_
  refine lv_iload_n hx hb dX7_buyDebt_41 rfl (lv_at hl 3 rfl) ?_
  refine lv_iload_n hx hb dX7_buyDebt_42 rfl (lv_at hl 2 rfl) ?_
  obtain ⟨o_7, hc, hM⟩ := bind_so hM
  refine mr_callVi (As := [.int p2, .int p1]) (rest := [.int p1, .int p2, .ref qt]) (wr := []) ⟨hx, hb, hml, hown, hts⟩ (k_Twn_owed l D cI cB cZ cS cT qt qt_kind qt_father qt_comes qt_wants qt_cost qt_coins qt_debts t_people t_law t_counters t_kind t_father t_comes t_wants t_cost t_coins_5 o_6 p2 p1 _ hc) (cwV 2 hts gX7_buyDebt_X7_owed rfl rfl rfl (by decide +kernel) ⟨Nat.le_of_ble_eq_true rfl, Nat.le_of_ble_eq_true rfl⟩) hK hP hD hS hA [0, 1, 2, 3, 4, 5, 6, 7] [] [0, 1, 2, 3, 4, 5, 6, 7] (w_Twn cI cB cZ cS cT qt qt_kind qt_father qt_comes qt_wants qt_cost qt_coins qt_debts t_people t_law t_counters t_kind t_father t_comes t_wants t_cost t_coins_5 o_6) rfl rfl rfl rfl (by decide) rfl rfl 7 0 rfl rfl rfl rfl hl.1 rfl (Nat.le_of_ble_eq_true rfl) dX7_buyDebt_43 ⟨Nat.zero_le _, Nat.zero_le _⟩ (fun H locs hP hD hS => ?_)
  refine lv_iload hx hb dX7_buyDebt_46 (lv_at hl 0 rfl) ?_
  refine lv_iadd hx hb dX7_buyDebt_48 ?_
  obtain ⟨o_8, hc, hM⟩ := bind_so hM
  refine mr_callVv (As := [.int p2, .int p1, .int (o_7 + o_1)]) (rest := []) (wr := []) ⟨hx, hb, hml, hown, hts⟩ (k_Twn_setDebt l D cI cB cZ cS cT qt qt_kind qt_father qt_comes qt_wants qt_cost qt_coins qt_debts t_people t_law t_counters t_kind t_father t_comes t_wants t_cost t_coins_5 o_6 p2 p1 (o_7 + o_1) _ hc) (cwV 3 hts gX7_buyDebt_X7_setDebt rfl rfl rfl (by decide +kernel) ⟨Nat.le_of_ble_eq_true rfl, Nat.le_of_ble_eq_true rfl⟩) hK hP hD hS hA [0, 1, 2, 3, 4, 5, 6, 7] [] [0, 1, 2, 3, 4, 5, 6, 7] (w_Twn cI cB cZ cS cT qt qt_kind qt_father qt_comes qt_wants qt_cost qt_coins qt_debts t_people t_law t_counters t_kind t_father t_comes t_wants t_cost t_coins_5 o_8) rfl rfl rfl rfl (by decide) rfl rfl 7 0 rfl rfl rfl rfl hl.1 rfl (Nat.le_of_ble_eq_true rfl) dX7_buyDebt_49 ⟨Nat.zero_le _, Nat.zero_le _⟩ (fun H locs hP hD hS => ?_)
  have hM := Option.some.inj hM
  subst hM
  exact mr_vret hx hb hr hlocks hQ hP hD hS dX7_buyDebt_52

abbrev rmX7_comesAhead : Room := { frames := 0, cells := 0, slots := 0, locals := 0 }
set_option maxHeartbeats 40000000 in
set_option maxRecDepth 100000 in
theorem k_Twn_comesAhead (l : Launch) (D : va_G) (cI cB cZ cS cT : ClassId) (qt qt_kind qt_father qt_comes qt_wants qt_cost qt_coins qt_debts : Nat) (t_people t_law t_counters : Int32) (t_kind t_father t_comes t_wants t_cost t_coins t_debts : Nat → Int32) (p1 p2 : Int32) (o : Int32) (hM : Twn_comesAhead p1 p2 t_comes = some o) : mtI l yX7_comesAhead wsX7_comesAhead rmX7_comesAhead D (tys5 cI cB cZ cS cT) [.ref qt, .int p1, .int p2] (w_Twn cI cB cZ cS cT qt qt_kind qt_father qt_comes qt_wants qt_cost qt_coins qt_debts t_people t_law t_counters t_kind t_father t_comes t_wants t_cost t_coins t_debts) (w_Twn cI cB cZ cS cT qt qt_kind qt_father qt_comes qt_wants qt_cost qt_coins qt_debts t_people t_law t_counters t_kind t_father t_comes t_wants t_cost t_coins t_debts) o := by
  refine mtI.of (cc := cX7_comesAhead) (maxL := 3) (ret := (some .boolean)) (by decide) rfl (Nat.le_of_ble_eq_true rfl) ?_
  intro p e s m below meth c A Q av hav hQ hx hb hr hml hown hts hlocks hK hP hD hA hS ls hl
  have hown : s.vm.findClass RX7 = some m.cls := hown
  have hl : lv_has ls 3 [(0, .ref qt), (1, .int p1), (2, .int p2)] := hl
  unfold Twn_comesAhead at hM
  have inX7w : ∀ w ∈ u_ws RX7 TX7 10, w ∈ wsX7_comesAhead := by decide +kernel
  have hf22 := hts (.fieldLink RX7 22 "LetsIn$Town" "comes" "[I") (by decide +kernel)
  refine lv_aload_n hx hb dX7_comesAhead_0 rfl (lv_at hl 0 rfl) ?_
  refine va_get (D := D) (ci := 7) (v := .ref qt_comes) (C := RX7) (T := TX7) (N := 10) hx hb hts inX7w hown hK hP 0 rfl rfl 5 (by decide) hf22 (fun _ h9 => h9) rfl dX7_comesAhead_1 ?_
  refine lv_iload_n hx hb dX7_comesAhead_4 rfl (lv_at hl 1 rfl) ?_
  refine mr_iald hx hb hK hP 3 0 rfl rfl hM dX7_comesAhead_5 (fun v_1 hM => ?_)
  refine lv_aload_n hx hb dX7_comesAhead_6 rfl (lv_at hl 0 rfl) ?_
  refine va_get (D := D) (ci := 7) (v := .ref qt_comes) (C := RX7) (T := TX7) (N := 10) hx hb hts inX7w hown hK hP 0 rfl rfl 5 (by decide) hf22 (fun _ h9 => h9) rfl dX7_comesAhead_7 ?_
  refine lv_iload_n hx hb dX7_comesAhead_10 rfl (lv_at hl 2 rfl) ?_
  refine mr_iald hx hb hK hP 3 0 rfl rfl hM dX7_comesAhead_11 (fun v_2 hM => ?_)
  refine mr_icmp_lt (tgt := 35) hx hb hM dX7_comesAhead_12 (by decide) (fun hM => ?_) (fun hM => ?_)
  · refine lv_iconst (v := 1) hx hb dX7_comesAhead_35 (by decide) ?_
    refine lv_goto (tgt := 40) hx hb dX7_comesAhead_36 (by decide) ?_
    have hM := Option.some.inj hM
    subst hM
    exact mr_zret hx hb hr (by decide) hlocks hQ hP hD hS rfl dX7_comesAhead_40
  · refine lv_aload_n hx hb dX7_comesAhead_15 rfl (lv_at hl 0 rfl) ?_
    refine va_get (D := D) (ci := 7) (v := .ref qt_comes) (C := RX7) (T := TX7) (N := 10) hx hb hts inX7w hown hK hP 0 rfl rfl 5 (by decide) hf22 (fun _ h9 => h9) rfl dX7_comesAhead_16 ?_
    refine lv_iload_n hx hb dX7_comesAhead_19 rfl (lv_at hl 1 rfl) ?_
    refine mr_iald hx hb hK hP 3 0 rfl rfl hM dX7_comesAhead_20 (fun v_3 hM => ?_)
    refine lv_aload_n hx hb dX7_comesAhead_21 rfl (lv_at hl 0 rfl) ?_
    refine va_get (D := D) (ci := 7) (v := .ref qt_comes) (C := RX7) (T := TX7) (N := 10) hx hb hts inX7w hown hK hP 0 rfl rfl 5 (by decide) hf22 (fun _ h9 => h9) rfl dX7_comesAhead_22 ?_
    refine lv_iload_n hx hb dX7_comesAhead_25 rfl (lv_at hl 2 rfl) ?_
    refine mr_iald hx hb hK hP 3 0 rfl rfl hM dX7_comesAhead_26 (fun v_4 hM => ?_)
    refine mr_icmp_ne (tgt := 39) hx hb hM dX7_comesAhead_27 (by decide) (fun hM => ?_) (fun hM => ?_)
    · refine lv_iconst (v := 0) hx hb dX7_comesAhead_39 (by decide) ?_
      have hM := Option.some.inj hM
      subst hM
      exact mr_zret hx hb hr (by decide) hlocks hQ hP hD hS rfl dX7_comesAhead_40
    · refine lv_iload_n hx hb dX7_comesAhead_30 rfl (lv_at hl 1 rfl) ?_
      refine lv_iload_n hx hb dX7_comesAhead_31 rfl (lv_at hl 2 rfl) ?_
      refine mr_icmp_ge (tgt := 39) hx hb hM dX7_comesAhead_32 (by decide) (fun hM => ?_) (fun hM => ?_)
      · refine lv_iconst (v := 0) hx hb dX7_comesAhead_39 (by decide) ?_
        have hM := Option.some.inj hM
        subst hM
        exact mr_zret hx hb hr (by decide) hlocks hQ hP hD hS rfl dX7_comesAhead_40
      · refine lv_iconst (v := 1) hx hb dX7_comesAhead_35 (by decide) ?_
        refine lv_goto (tgt := 40) hx hb dX7_comesAhead_36 (by decide) ?_
        have hM := Option.some.inj hM
        subst hM
        exact mr_zret hx hb hr (by decide) hlocks hQ hP hD hS rfl dX7_comesAhead_40

abbrev rmX7_debtsAboveNothing : Room := { frames := 0, cells := 0, slots := 0, locals := 0 }
set_option maxHeartbeats 40000000 in
set_option maxRecDepth 100000 in
theorem k_Twn_debtsAboveNothing (l : Launch) (D : va_G) (cI cB cZ cS cT : ClassId) (qt qt_kind qt_father qt_comes qt_wants qt_cost qt_coins qt_debts : Nat) (t_people t_law t_counters : Int32) (t_kind t_father t_comes t_wants t_cost t_coins t_debts : Nat → Int32)  (o : Int32) (hM : Twn_debtsAboveNothing t_debts = some o) : mtI l yX7_debtsAboveNothing wsX7_debtsAboveNothing rmX7_debtsAboveNothing D (tys5 cI cB cZ cS cT) [.ref qt] (w_Twn cI cB cZ cS cT qt qt_kind qt_father qt_comes qt_wants qt_cost qt_coins qt_debts t_people t_law t_counters t_kind t_father t_comes t_wants t_cost t_coins t_debts) (w_Twn cI cB cZ cS cT qt qt_kind qt_father qt_comes qt_wants qt_cost qt_coins qt_debts t_people t_law t_counters t_kind t_father t_comes t_wants t_cost t_coins t_debts) o := by
  refine mtI.of (cc := cX7_debtsAboveNothing) (maxL := 3) (ret := (some .int)) (by decide) rfl (Nat.le_of_ble_eq_true rfl) ?_
  intro p e s m below meth c A Q av hav hQ hx hb hr hml hown hts hlocks hK hP hD hA hS ls hl
  have hown : s.vm.findClass RX7 = some m.cls := hown
  have hl : lv_has ls 3 [(0, .ref qt)] := hl
  unfold Twn_debtsAboveNothing at hM
  have inX7w : ∀ w ∈ u_ws RX7 TX7 10, w ∈ wsX7_debtsAboveNothing := by decide +kernel
  have hf34 := hts (.fieldLink RX7 34 "LetsIn$Town" "debts" "[I") (by decide +kernel)
  refine lv_iconst (v := 0) hx hb dX7_debtsAboveNothing_0 (by decide) ?_
  refine lv_istore_n (lv' := [(1, .int 0), (0, .ref qt)]) hx hb dX7_debtsAboveNothing_1 rfl hl (by decide) rfl (fun ls hl => ?_)
  refine lv_iconst (v := 0) hx hb dX7_debtsAboveNothing_2 (by decide) ?_
  refine lv_istore_n (lv' := [(2, .int 0), (1, .int 0), (0, .ref qt)]) hx hb dX7_debtsAboveNothing_3 rfl hl (by decide) rfl (fun ls hl => ?_)
  have hL4 : ∀ (K28 : Int32 → Option (Int32)), (∀ (x1_7 : Int32), K28 x1_7 = some o → ∀ (H : Heap) (locs : List Loc), va_P D vwCl (w_Twn cI cB cZ cS cT qt qt_kind qt_father qt_comes qt_wants qt_cost qt_coins qt_debts t_people t_law t_counters t_kind t_father t_comes t_wants t_cost t_coins t_debts) H → va_D A (w_Twn cI cB cZ cS cT qt qt_kind qt_father qt_comes qt_wants qt_cost qt_coins qt_debts t_people t_law t_counters t_kind t_father t_comes t_wants t_cost t_coins t_debts) → va_S A s.heap H locs → ∀ ls : Array Slot, lv_has ls 3 [(1, .int x1_7)] → W p l e rmX7_debtsAboveNothing s m av below meth c H locs 0 0 Q (F0 m 28 ls [])) → ∀ (n : Nat) (x1_1 x2_2 : Int32), Twn_debtsAboveNothing_L4 t_debts K28 n x1_1 x2_2 = some o → ∀ (H : Heap) (locs : List Loc), va_P D vwCl (w_Twn cI cB cZ cS cT qt qt_kind qt_father qt_comes qt_wants qt_cost qt_coins qt_debts t_people t_law t_counters t_kind t_father t_comes t_wants t_cost t_coins t_debts) H → va_D A (w_Twn cI cB cZ cS cT qt qt_kind qt_father qt_comes qt_wants qt_cost qt_coins qt_debts t_people t_law t_counters t_kind t_father t_comes t_wants t_cost t_coins t_debts) → va_S A s.heap H locs → ∀ ls : Array Slot, lv_has ls 3 [(0, .ref qt), (1, .int x1_1), (2, .int x2_2)] → W p l e rmX7_debtsAboveNothing s m av below meth c H locs 0 0 Q (F0 m 4 ls []) := by
    intro K28 hK28 n
    induction n with
    | zero =>
      intro x1_1 x2_2 hM
      rw [Twn_debtsAboveNothing_L4] at hM
      cases hM
    | succ n ih =>
      intro x1_1 x2_2 hM H locs hP hD hS ls hl
      rw [Twn_debtsAboveNothing_L4] at hM
      refine lv_iload_n hx hb dX7_debtsAboveNothing_4 rfl (lv_at hl 2 rfl) ?_
      refine lv_bipush (v := 49) hx hb dX7_debtsAboveNothing_5 (by decide) ?_
      refine mr_icmp_ge (tgt := 28) hx hb hM dX7_debtsAboveNothing_7 (by decide) (fun hM => ?_) (fun hM => ?_)
      · exact hK28 x1_1 hM _ _ hP hD hS ls (lv_sub hl [1] rfl)
      · refine lv_aload_n hx hb dX7_debtsAboveNothing_10 rfl (lv_at hl 0 rfl) ?_
        refine va_get (D := D) (ci := 7) (v := .ref qt_debts) (C := RX7) (T := TX7) (N := 10) hx hb hts inX7w hown hK hP 0 rfl rfl 9 (by decide) hf34 (fun _ h9 => h9) rfl dX7_debtsAboveNothing_11 ?_
        refine lv_iload_n hx hb dX7_debtsAboveNothing_14 rfl (lv_at hl 2 rfl) ?_
        refine mr_iald hx hb hK hP 7 0 rfl rfl hM dX7_debtsAboveNothing_15 (fun v_3 hM => ?_)
        refine mr_if_le (tgt := 22) hx hb hM dX7_debtsAboveNothing_16 (by decide) (fun hM => ?_) (fun hM => ?_)
        · refine mr_iinc (k := 2) (d := 1) hx hb (fun x2_4 => [(2, .int x2_4), (0, .ref qt), (1, .int x1_1)]) hM (by decide) dX7_debtsAboveNothing_22 hl rfl (by decide) (fun _ => rfl) (fun x2_4 hM ls hl => ?_)
          refine lv_goto (tgt := 4) hx hb dX7_debtsAboveNothing_25 (by decide) ?_
          exact ih x1_1 x2_4 hM _ _ hP hD hS ls (lv_sub hl [1, 2, 0] rfl)
        · refine mr_iinc (k := 1) (d := 1) hx hb (fun x1_5 => [(1, .int x1_5), (0, .ref qt), (2, .int x2_2)]) hM (by decide) dX7_debtsAboveNothing_19 hl rfl (by decide) (fun _ => rfl) (fun x1_5 hM ls hl => ?_)
          refine mr_iinc (k := 2) (d := 1) hx hb (fun x2_6 => [(2, .int x2_6), (1, .int x1_5), (0, .ref qt)]) hM (by decide) dX7_debtsAboveNothing_22 hl rfl (by decide) (fun _ => rfl) (fun x2_6 hM ls hl => ?_)
          refine lv_goto (tgt := 4) hx hb dX7_debtsAboveNothing_25 (by decide) ?_
          exact ih x1_5 x2_6 hM _ _ hP hD hS ls (lv_sub hl [2, 1, 0] rfl)
  refine hL4 _ (fun x1_7 hM H locs hP hD hS ls hl => ?_) _ 0 0 hM _ _ hP hD hS ls (lv_sub hl [2, 1, 0] rfl)
  refine lv_iload_n hx hb dX7_debtsAboveNothing_28 rfl (lv_at hl 0 rfl) ?_
  have hM := Option.some.inj hM
  subst hM
  exact mr_iret hx hb hr hlocks hQ hP hD hS rfl dX7_debtsAboveNothing_29

abbrev rmX7_debtsSummed : Room := { frames := 0, cells := 0, slots := 0, locals := 0 }
set_option maxHeartbeats 40000000 in
set_option maxRecDepth 100000 in
theorem k_Twn_debtsSummed (l : Launch) (D : va_G) (cI cB cZ cS cT : ClassId) (qt qt_kind qt_father qt_comes qt_wants qt_cost qt_coins qt_debts : Nat) (t_people t_law t_counters : Int32) (t_kind t_father t_comes t_wants t_cost t_coins t_debts : Nat → Int32)  (o : Int32) (hM : Twn_debtsSummed t_debts = some o) : mtI l yX7_debtsSummed wsX7_debtsSummed rmX7_debtsSummed D (tys5 cI cB cZ cS cT) [.ref qt] (w_Twn cI cB cZ cS cT qt qt_kind qt_father qt_comes qt_wants qt_cost qt_coins qt_debts t_people t_law t_counters t_kind t_father t_comes t_wants t_cost t_coins t_debts) (w_Twn cI cB cZ cS cT qt qt_kind qt_father qt_comes qt_wants qt_cost qt_coins qt_debts t_people t_law t_counters t_kind t_father t_comes t_wants t_cost t_coins t_debts) o := by
  refine mtI.of (cc := cX7_debtsSummed) (maxL := 3) (ret := (some .int)) (by decide) rfl (Nat.le_of_ble_eq_true rfl) ?_
  intro p e s m below meth c A Q av hav hQ hx hb hr hml hown hts hlocks hK hP hD hA hS ls hl
  have hown : s.vm.findClass RX7 = some m.cls := hown
  have hl : lv_has ls 3 [(0, .ref qt)] := hl
  unfold Twn_debtsSummed at hM
  have inX7w : ∀ w ∈ u_ws RX7 TX7 10, w ∈ wsX7_debtsSummed := by decide +kernel
  have hf34 := hts (.fieldLink RX7 34 "LetsIn$Town" "debts" "[I") (by decide +kernel)
  refine lv_iconst (v := 0) hx hb dX7_debtsSummed_0 (by decide) ?_
  refine lv_istore_n (lv' := [(1, .int 0), (0, .ref qt)]) hx hb dX7_debtsSummed_1 rfl hl (by decide) rfl (fun ls hl => ?_)
  refine lv_iconst (v := 0) hx hb dX7_debtsSummed_2 (by decide) ?_
  refine lv_istore_n (lv' := [(2, .int 0), (1, .int 0), (0, .ref qt)]) hx hb dX7_debtsSummed_3 rfl hl (by decide) rfl (fun ls hl => ?_)
  have hL4 : ∀ (K25 : Int32 → Option (Int32)), (∀ (x1_6 : Int32), K25 x1_6 = some o → ∀ (H : Heap) (locs : List Loc), va_P D vwCl (w_Twn cI cB cZ cS cT qt qt_kind qt_father qt_comes qt_wants qt_cost qt_coins qt_debts t_people t_law t_counters t_kind t_father t_comes t_wants t_cost t_coins t_debts) H → va_D A (w_Twn cI cB cZ cS cT qt qt_kind qt_father qt_comes qt_wants qt_cost qt_coins qt_debts t_people t_law t_counters t_kind t_father t_comes t_wants t_cost t_coins t_debts) → va_S A s.heap H locs → ∀ ls : Array Slot, lv_has ls 3 [(1, .int x1_6)] → W p l e rmX7_debtsSummed s m av below meth c H locs 0 0 Q (F0 m 25 ls [])) → ∀ (n : Nat) (x1_1 x2_2 : Int32), Twn_debtsSummed_L4 t_debts K25 n x1_1 x2_2 = some o → ∀ (H : Heap) (locs : List Loc), va_P D vwCl (w_Twn cI cB cZ cS cT qt qt_kind qt_father qt_comes qt_wants qt_cost qt_coins qt_debts t_people t_law t_counters t_kind t_father t_comes t_wants t_cost t_coins t_debts) H → va_D A (w_Twn cI cB cZ cS cT qt qt_kind qt_father qt_comes qt_wants qt_cost qt_coins qt_debts t_people t_law t_counters t_kind t_father t_comes t_wants t_cost t_coins t_debts) → va_S A s.heap H locs → ∀ ls : Array Slot, lv_has ls 3 [(0, .ref qt), (1, .int x1_1), (2, .int x2_2)] → W p l e rmX7_debtsSummed s m av below meth c H locs 0 0 Q (F0 m 4 ls []) := by
    intro K25 hK25 n
    induction n with
    | zero =>
      intro x1_1 x2_2 hM
      rw [Twn_debtsSummed_L4] at hM
      cases hM
    | succ n ih =>
      intro x1_1 x2_2 hM H locs hP hD hS ls hl
      rw [Twn_debtsSummed_L4] at hM
      refine lv_iload_n hx hb dX7_debtsSummed_4 rfl (lv_at hl 2 rfl) ?_
      refine lv_bipush (v := 49) hx hb dX7_debtsSummed_5 (by decide) ?_
      refine mr_icmp_ge (tgt := 25) hx hb hM dX7_debtsSummed_7 (by decide) (fun hM => ?_) (fun hM => ?_)
      · exact hK25 x1_1 hM _ _ hP hD hS ls (lv_sub hl [1] rfl)
      · refine lv_iload_n hx hb dX7_debtsSummed_10 rfl (lv_at hl 1 rfl) ?_
        refine lv_aload_n hx hb dX7_debtsSummed_11 rfl (lv_at hl 0 rfl) ?_
        refine va_get (D := D) (ci := 7) (v := .ref qt_debts) (C := RX7) (T := TX7) (N := 10) hx hb hts inX7w hown hK hP 0 rfl rfl 9 (by decide) hf34 (fun _ h9 => h9) rfl dX7_debtsSummed_12 ?_
        refine lv_iload_n hx hb dX7_debtsSummed_15 rfl (lv_at hl 2 rfl) ?_
        refine mr_iald hx hb hK hP 7 0 rfl rfl hM dX7_debtsSummed_16 (fun v_3 hM => ?_)
        refine lv_iadd hx hb dX7_debtsSummed_17 ?_
        refine mr_nmI hM (fun x1_4 hM => ?_)
        refine lv_istore_n (lv' := [(1, .int x1_4), (0, .ref qt), (2, .int x2_2)]) hx hb dX7_debtsSummed_18 rfl hl (by decide) rfl (fun ls hl => ?_)
        refine mr_iinc (k := 2) (d := 1) hx hb (fun x2_5 => [(2, .int x2_5), (1, .int x1_4), (0, .ref qt)]) hM (by decide) dX7_debtsSummed_19 hl rfl (by decide) (fun _ => rfl) (fun x2_5 hM ls hl => ?_)
        refine lv_goto (tgt := 4) hx hb dX7_debtsSummed_22 (by decide) ?_
        exact ih x1_4 x2_5 hM _ _ hP hD hS ls (lv_sub hl [2, 1, 0] rfl)
  refine hL4 _ (fun x1_6 hM H locs hP hD hS ls hl => ?_) _ 0 0 hM _ _ hP hD hS ls (lv_sub hl [2, 1, 0] rfl)
  refine lv_iload_n hx hb dX7_debtsSummed_25 rfl (lv_at hl 0 rfl) ?_
  have hM := Option.some.inj hM
  subst hM
  exact mr_iret hx hb hr hlocks hQ hP hD hS rfl dX7_debtsSummed_26
