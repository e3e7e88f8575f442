abbrev rmX5_renew : Room := { frames := 0, cells := 0, slots := 0, locals := 0 }
set_option maxHeartbeats 40000000 in
set_option maxRecDepth 100000 in
theorem k_Sht_renew (l : Launch) (D : va_G) (cI cB cZ cS cT : ClassId) (qt qt_cells : Nat) (t_lane t_size : Int32) (t_cells : Nat → Int32) (p1 p2 : Int32) (o : Int32 × Int32 × (Nat → Int32)) (hM : Sht_renew p1 p2 t_cells = some o) : mtV l yX5_renew wsX5_renew rmX5_renew D (tys5 cI cB cZ cS cT) [.ref qt, .int p1, .int p2] (w_Sht cI cB cZ cS cT qt qt_cells t_lane t_size t_cells) (w_Sht cI cB cZ cS cT qt qt_cells o.1 o.2.1 o.2.2) := by
  refine mtV.of (cc := cX5_renew) (maxL := 4) (ret := none) (by decide) rfl (Nat.le_of_ble_eq_true rfl) ?_
  intro p e s m below meth c A Q av hav hQ hx hb hr hml hown hts hlocks hK hP hD hA hS ls hl
  have hown : s.vm.findClass RX5 = some m.cls := hown
  have hl : lv_has ls 4 [(0, .ref qt), (1, .int p1), (2, .int p2)] := hl
  unfold Sht_renew at hM
  have inX5w : ∀ w ∈ u_ws RX5 TX5 3, w ∈ wsX5_renew := by decide +kernel
  have hf19 := hts (.fieldLink RX5 19 "LetsIn$Sheet" "lane" "I") (by decide +kernel)
  have hf15 := hts (.fieldLink RX5 15 "LetsIn$Sheet" "size" "I") (by decide +kernel)
  have hf9 := hts (.fieldLink RX5 9 "LetsIn$Sheet" "cells" "[I") (by decide +kernel)
  refine lv_aload_n hx hb dX5_renew_0 rfl (lv_at hl 0 rfl) ?_
  refine lv_iload_n hx hb dX5_renew_1 rfl (lv_at hl 1 rfl) ?_
  refine mr_put (D := D) (ci := 5) (v := .int p1) (ty := .int) (C := RX5) (T := TX5) (N := 3) hx hb hts inX5w tyX5 tyX5_ok nmX5 hown hK hP hD hS 0 rfl rfl 1 (by decide) hf19 (fun _ h9 => h9) rfl (by decide +kernel) rfl rfl (Nat.le_of_ble_eq_true rfl) dX5_renew_2 (w_Sht cI cB cZ cS cT qt qt_cells p1 t_size t_cells) rfl (fun H locs hP hD hS => ?_)
  refine lv_aload_n hx hb dX5_renew_5 rfl (lv_at hl 0 rfl) ?_
  refine lv_iload_n hx hb dX5_renew_6 rfl (lv_at hl 2 rfl) ?_
  refine mr_put (D := D) (ci := 5) (v := .int p2) (ty := .int) (C := RX5) (T := TX5) (N := 3) hx hb hts inX5w tyX5 tyX5_ok nmX5 hown hK hP hD hS 0 rfl rfl 2 (by decide) hf15 (fun _ h9 => h9) rfl (by decide +kernel) rfl rfl (Nat.le_of_ble_eq_true rfl) dX5_renew_7 (w_Sht cI cB cZ cS cT qt qt_cells p1 p2 t_cells) rfl (fun H locs hP hD hS => ?_)
  refine lv_iconst (v := 0) hx hb dX5_renew_10 (by decide) ?_
  refine lv_istore_n (lv' := [(3, .int 0), (0, .ref qt), (1, .int p1), (2, .int p2)]) hx hb dX5_renew_11 rfl hl (by decide) rfl (fun ls hl => ?_)
  have hL12 : ∀ (K31 : (Nat → Int32) → Option (Int32 × Int32 × (Nat → Int32))), (∀ (t_cells_5 : Nat → Int32), K31 t_cells_5 = some o → ∀ (H : Heap) (locs : List Loc), va_P D vwCl (w_Sht cI cB cZ cS cT qt qt_cells p1 p2 t_cells_5) H → va_D A (w_Sht cI cB cZ cS cT qt qt_cells p1 p2 t_cells_5) → va_S A s.heap H locs → ∀ ls : Array Slot, lv_has ls 4 [] → W p l e rmX5_renew s m av below meth c H locs 0 0 Q (F0 m 31 ls [])) → ∀ (n : Nat) (x3_1 : Int32) (t_cells_2 : Nat → Int32), Sht_renew_L12 K31 n x3_1 t_cells_2 = some o → ∀ (H : Heap) (locs : List Loc), va_P D vwCl (w_Sht cI cB cZ cS cT qt qt_cells p1 p2 t_cells_2) H → va_D A (w_Sht cI cB cZ cS cT qt qt_cells p1 p2 t_cells_2) → va_S A s.heap H locs → ∀ ls : Array Slot, lv_has ls 4 [(0, .ref qt), (3, .int x3_1)] → W p l e rmX5_renew s m av below meth c H locs 0 0 Q (F0 m 12 ls []) := by
    intro K31 hK31 n
    induction n with
    | zero =>
      intro x3_1 t_cells_2 hM
      rw [Sht_renew_L12] at hM
      cases hM
    | succ n ih =>
      intro x3_1 t_cells_2 hM H locs hP hD hS ls hl
      rw [Sht_renew_L12] at hM
      refine lv_iload_n hx hb dX5_renew_12 rfl (lv_at hl 1 rfl) ?_
      refine lv_bipush (v := 40) hx hb dX5_renew_13 (by decide) ?_
      refine mr_icmp_ge (tgt := 31) hx hb hM dX5_renew_15 (by decide) (fun hM => ?_) (fun hM => ?_)
      · exact hK31 t_cells_2 hM _ _ hP hD hS ls (lv_sub hl [] rfl)
      · refine lv_aload_n hx hb dX5_renew_18 rfl (lv_at hl 0 rfl) ?_
        refine va_get (D := D) (ci := 5) (v := .ref qt_cells) (C := RX5) (T := TX5) (N := 3) hx hb hts inX5w hown hK hP 0 rfl rfl 0 (by decide) hf9 (fun _ h9 => h9) rfl dX5_renew_19 ?_
        refine lv_iload_n hx hb dX5_renew_22 rfl (lv_at hl 1 rfl) ?_
        refine lv_iconst (v := 0) hx hb dX5_renew_23 (by decide) ?_
        refine mr_iast hx hb hK hP hD hS 1 0 (fun t_cells_3 => (w_Sht cI cB cZ cS cT qt qt_cells p1 p2 t_cells_3)) rfl rfl (fun _ => rfl) hM dX5_renew_24 (fun t_cells_3 hM H locs hP hD hS => ?_)
        refine mr_iinc (k := 1) (d := 1) hx hb (fun x3_4 => [(3, .int x3_4), (0, .ref qt)]) hM (by decide) dX5_renew_25 hl rfl (by decide) (fun _ => rfl) (fun x3_4 hM ls hl => ?_)
        refine lv_goto (tgt := 12) hx hb dX5_renew_28 (by decide) ?_
        exact ih x3_4 t_cells_3 hM _ _ hP hD hS ls (lv_sub hl [1, 0] rfl)
  refine hL12 _ (fun t_cells_5 hM H locs hP hD hS ls hl => ?_) _ 0 t_cells hM _ _ hP hD hS ls (lv_sub hl [1, 0] rfl)
  have hM := Option.some.inj hM
  subst hM
  exact mr_vret hx hb hr hlocks hQ hP hD hS dX5_renew_31

abbrev rmX5_isThere : Room := { frames := 0, cells := 0, slots := 0, locals := 0 }
set_option maxHeartbeats 40000000 in
set_option maxRecDepth 100000 in
theorem k_Sht_isThere (l : Launch) (D : va_G) (cI cB cZ cS cT : ClassId) (qt qt_cells : Nat) (t_lane t_size : Int32) (t_cells : Nat → Int32)  (o : Int32) (hM : Sht_isThere t_size = some o) : mtI l yX5_isThere wsX5_isThere rmX5_isThere D (tys5 cI cB cZ cS cT) [.ref qt] (w_Sht cI cB cZ cS cT qt qt_cells t_lane t_size t_cells) (w_Sht cI cB cZ cS cT qt qt_cells t_lane t_size t_cells) o := by
  refine mtI.of (cc := cX5_isThere) (maxL := 1) (ret := (some .boolean)) (by decide) rfl (Nat.le_of_ble_eq_true rfl) ?_
  intro p e s m below meth c A Q av hav hQ hx hb hr hml hown hts hlocks hK hP hD hA hS ls hl
  have hown : s.vm.findClass RX5 = some m.cls := hown
  have hl : lv_has ls 1 [(0, .ref qt)] := hl
  unfold Sht_isThere at hM
  have inX5w : ∀ w ∈ u_ws RX5 TX5 3, w ∈ wsX5_isThere := by decide +kernel
  have hf15 := hts (.fieldLink RX5 15 "LetsIn$Sheet" "size" "I") (by decide +kernel)
  refine lv_aload_n hx hb dX5_isThere_0 rfl (lv_at hl 0 rfl) ?_
  refine va_get (D := D) (ci := 5) (v := .int t_size) (C := RX5) (T := TX5) (N := 3) hx hb hts inX5w hown hK hP 0 rfl rfl 2 (by decide) hf15 (fun _ h9 => h9) rfl dX5_isThere_1 ?_
  refine lv_iconst (v := (-1)) hx hb dX5_isThere_4 (by decide) ?_
  refine mr_icmp_eq (tgt := 12) hx hb hM dX5_isThere_5 (by decide) (fun hM => ?_) (fun hM => ?_)
  · refine lv_iconst (v := 0) hx hb dX5_isThere_12 (by decide) ?_
    have hM := Option.some.inj hM
    subst hM
    exact mr_zret hx hb hr (by decide) hlocks hQ hP hD hS rfl dX5_isThere_13
  · refine lv_iconst (v := 1) hx hb dX5_isThere_8 (by decide) ?_
    refine lv_goto (tgt := 13) hx hb dX5_isThere_9 (by decide) ?_
    have hM := Option.some.inj hM
    subst hM
    exact mr_zret hx hb hr (by decide) hlocks hQ hP hD hS rfl dX5_isThere_13

abbrev rmX5_faultOfCells : Room := { frames := 1, cells := 0, slots := 0, locals := 20 }
set_option maxHeartbeats 40000000 in
set_option maxRecDepth 100000 in
theorem k_Sht_faultOfCells (l : Launch) (D : va_G) (cI cB cZ cS cT : ClassId) (qt qt_cells : Nat) (t_lane t_size : Int32) (t_cells : Nat → Int32) (p1 p2 : Int32) (o : Int32) (hM : Sht_faultOfCells p1 p2 t_size = some o) : mtI l yX5_faultOfCells wsX5_faultOfCells rmX5_faultOfCells D (tys5 cI cB cZ cS cT) [.ref qt, .int p1, .int p2] (w_Sht cI cB cZ cS cT qt qt_cells t_lane t_size t_cells) (w_Sht cI cB cZ cS cT qt qt_cells t_lane t_size t_cells) o := by
  refine mtI.of (cc := cX5_faultOfCells) (maxL := 3) (ret := (some .int)) (by decide) rfl (Nat.le_of_ble_eq_true rfl) ?_
  intro p e s m below meth c A Q av hav hQ hx hb hr hml hown hts hlocks hK hP hD hA hS ls hl
  have hown : s.vm.findClass RX5 = some m.cls := hown
  have hl : lv_has ls 3 [(0, .ref qt), (1, .int p1), (2, .int p2)] := hl
  unfold Sht_faultOfCells at hM
  have inX5w : ∀ w ∈ u_ws RX5 TX5 3, w ∈ wsX5_faultOfCells := by decide +kernel
  have hf15 := hts (.fieldLink RX5 15 "LetsIn$Sheet" "size" "I") (by decide +kernel)
  refine lv_aload_n hx hb dX5_faultOfCells_0 rfl (lv_at hl 0 rfl) ?_
  obtain ⟨o_1, hc, hM⟩ := bind_so hM
  refine mr_callVi (As := []) (rest := []) (wr := []) ⟨hx, hb, hml, hown, hts⟩ (k_Sht_isThere l D cI cB cZ cS cT qt qt_cells t_lane t_size t_cells  _ hc) (cwV 0 hts gX5_faultOfCells_X5_isThere rfl rfl rfl (by decide +kernel) ⟨Nat.le_of_ble_eq_true rfl, Nat.le_of_ble_eq_true rfl⟩) hK hP hD hS hA [0, 1] [] [0, 1] (w_Sht cI cB cZ cS cT qt qt_cells t_lane t_size t_cells) rfl rfl rfl rfl (by decide) rfl rfl 5 0 rfl rfl rfl rfl hl.1 rfl (Nat.le_of_ble_eq_true rfl) dX5_faultOfCells_1 ⟨Nat.zero_le _, Nat.zero_le _⟩ (fun H locs hP hD hS => ?_)
  refine mr_if_ne (tgt := 9) hx hb hM dX5_faultOfCells_4 (by decide) (fun hM => ?_) (fun hM => ?_)
  · refine lv_iload_n hx hb dX5_faultOfCells_9 rfl (lv_at hl 1 rfl) ?_
    refine mr_if_lt (tgt := 23) hx hb hM dX5_faultOfCells_10 (by decide) (fun hM => ?_) (fun hM => ?_)
    · refine lv_iconst (v := 2) hx hb dX5_faultOfCells_23 (by decide) ?_
      refine lv_goto (tgt := 28) hx hb dX5_faultOfCells_24 (by decide) ?_
      have hM := Option.some.inj hM
      subst hM
      exact mr_iret hx hb hr hlocks hQ hP hD hS rfl dX5_faultOfCells_28
    · refine lv_iload_n hx hb dX5_faultOfCells_13 rfl (lv_at hl 1 rfl) ?_
      refine lv_aload_n hx hb dX5_faultOfCells_14 rfl (lv_at hl 0 rfl) ?_
      refine va_get (D := D) (ci := 5) (v := .int t_size) (C := RX5) (T := TX5) (N := 3) hx hb hts inX5w hown hK hP 0 rfl rfl 2 (by decide) hf15 (fun _ h9 => h9) rfl dX5_faultOfCells_15 ?_
      refine lv_iload_n hx hb dX5_faultOfCells_18 rfl (lv_at hl 2 rfl) ?_
      refine lv_isub hx hb dX5_faultOfCells_19 ?_
      refine mr_icmp_le (tgt := 27) hx hb hM dX5_faultOfCells_20 (by decide) (fun hM => ?_) (fun hM => ?_)
      · refine lv_iconst (v := 0) hx hb dX5_faultOfCells_27 (by decide) ?_
        have hM := Option.some.inj hM
        subst hM
        exact mr_iret hx hb hr hlocks hQ hP hD hS rfl dX5_faultOfCells_28
      · refine lv_iconst (v := 2) hx hb dX5_faultOfCells_23 (by decide) ?_
        refine lv_goto (tgt := 28) hx hb dX5_faultOfCells_24 (by decide) ?_
        have hM := Option.some.inj hM
        subst hM
        exact mr_iret hx hb hr hlocks hQ hP hD hS rfl dX5_faultOfCells_28
  · refine lv_iconst (v := 1) hx hb dX5_faultOfCells_7 (by decide) ?_
    have hM := Option.some.inj hM
    subst hM
    exact mr_iret hx hb hr hlocks hQ hP hD hS rfl dX5_faultOfCells_8

abbrev rmX5_put : Room := { frames := 0, cells := 0, slots := 0, locals := 0 }
set_option maxHeartbeats 40000000 in
set_option maxRecDepth 100000 in
theorem k_Sht_put (l : Launch) (D : va_G) (cI cB cZ cS cT : ClassId) (qt qt_cells : Nat) (t_lane t_size : Int32) (t_cells : Nat → Int32) (p1 p2 : Int32) (o : (Nat → Int32)) (hM : Sht_put p1 p2 t_lane t_cells = some o) : mtV l yX5_put wsX5_put rmX5_put D (tys5 cI cB cZ cS cT) [.ref qt, .int p1, .int p2] (w_Sht cI cB cZ cS cT qt qt_cells t_lane t_size t_cells) (w_Sht cI cB cZ cS cT qt qt_cells t_lane t_size o) := by
  refine mtV.of (cc := cX5_put) (maxL := 3) (ret := none) (by decide) rfl (Nat.le_of_ble_eq_true rfl) ?_
  intro p e s m below meth c A Q av hav hQ hx hb hr hml hown hts hlocks hK hP hD hA hS ls hl
  have hown : s.vm.findClass RX5 = some m.cls := hown
  have hl : lv_has ls 3 [(0, .ref qt), (1, .int p1), (2, .int p2)] := hl
  unfold Sht_put at hM
  have inX5w : ∀ w ∈ u_ws RX5 TX5 3, w ∈ wsX5_put := by decide +kernel
  have hf19 := hts (.fieldLink RX5 19 "LetsIn$Sheet" "lane" "I") (by decide +kernel)
  have hf9 := hts (.fieldLink RX5 9 "LetsIn$Sheet" "cells" "[I") (by decide +kernel)
  refine lv_aload_n hx hb dX5_put_0 rfl (lv_at hl 0 rfl) ?_
  refine va_get (D := D) (ci := 5) (v := .int t_lane) (C := RX5) (T := TX5) (N := 3) hx hb hts inX5w hown hK hP 0 rfl rfl 1 (by decide) hf19 (fun _ h9 => h9) rfl dX5_put_1 ?_
  refine mr_if_ne (tgt := 18) hx hb hM dX5_put_4 (by decide) (fun hM => ?_) (fun hM => ?_)
  · refine lv_aload_n hx hb dX5_put_18 rfl (lv_at hl 0 rfl) ?_
    refine va_get (D := D) (ci := 5) (v := .int t_lane) (C := RX5) (T := TX5) (N := 3) hx hb hts inX5w hown hK hP 0 rfl rfl 1 (by decide) hf19 (fun _ h9 => h9) rfl dX5_put_19 ?_
    refine lv_iconst (v := 1) hx hb dX5_put_22 (by decide) ?_
    refine mr_icmp_ne (tgt := 37) hx hb hM dX5_put_23 (by decide) (fun hM => ?_) (fun hM => ?_)
    · refine lv_aload_n hx hb dX5_put_37 rfl (lv_at hl 0 rfl) ?_
      refine va_get (D := D) (ci := 5) (v := .ref qt_cells) (C := RX5) (T := TX5) (N := 3) hx hb hts inX5w hown hK hP 0 rfl rfl 0 (by decide) hf9 (fun _ h9 => h9) rfl dX5_put_38 ?_
      refine lv_iload_n hx hb dX5_put_41 rfl (lv_at hl 1 rfl) ?_
      refine lv_iload_n hx hb dX5_put_42 rfl (lv_at hl 2 rfl) ?_
      refine mr_iast hx hb hK hP hD hS 1 0 (fun t_cells_1 => (w_Sht cI cB cZ cS cT qt qt_cells t_lane t_size t_cells_1)) rfl rfl (fun _ => rfl) hM dX5_put_43 (fun t_cells_1 hM H locs hP hD hS => ?_)
      have hM := Option.some.inj hM
      subst hM
      exact mr_vret hx hb hr hlocks hQ hP hD hS dX5_put_44
    · refine lv_aload_n hx hb dX5_put_26 rfl (lv_at hl 0 rfl) ?_
      refine va_get (D := D) (ci := 5) (v := .ref qt_cells) (C := RX5) (T := TX5) (N := 3) hx hb hts inX5w hown hK hP 0 rfl rfl 0 (by decide) hf9 (fun _ h9 => h9) rfl dX5_put_27 ?_
      refine lv_iload_n hx hb dX5_put_30 rfl (lv_at hl 1 rfl) ?_
      refine lv_iload_n hx hb dX5_put_31 rfl (lv_at hl 2 rfl) ?_
      refine lv_i2s hx hb dX5_put_32 rfl ?_
      refine mr_iast hx hb hK hP hD hS 1 0 (fun t_cells_2 => (w_Sht cI cB cZ cS cT qt qt_cells t_lane t_size t_cells_2)) rfl rfl (fun _ => rfl) hM dX5_put_33 (fun t_cells_2 hM H locs hP hD hS => ?_)
      refine lv_goto (tgt := 44) hx hb dX5_put_34 (by decide) ?_
      have hM := Option.some.inj hM
      subst hM
      exact mr_vret hx hb hr hlocks hQ hP hD hS dX5_put_44
  · refine lv_aload_n hx hb dX5_put_7 rfl (lv_at hl 0 rfl) ?_
    refine va_get (D := D) (ci := 5) (v := .ref qt_cells) (C := RX5) (T := TX5) (N := 3) hx hb hts inX5w hown hK hP 0 rfl rfl 0 (by decide) hf9 (fun _ h9 => h9) rfl dX5_put_8 ?_
    refine lv_iload_n hx hb dX5_put_11 rfl (lv_at hl 1 rfl) ?_
    refine lv_iload_n hx hb dX5_put_12 rfl (lv_at hl 2 rfl) ?_
    refine lv_i2b hx hb dX5_put_13 rfl ?_
    refine mr_iast hx hb hK hP hD hS 1 0 (fun t_cells_3 => (w_Sht cI cB cZ cS cT qt qt_cells t_lane t_size t_cells_3)) rfl rfl (fun _ => rfl) hM dX5_put_14 (fun t_cells_3 hM H locs hP hD hS => ?_)
    refine lv_goto (tgt := 44) hx hb dX5_put_15 (by decide) ?_
    have hM := Option.some.inj hM
    subst hM
    exact mr_vret hx hb hr hlocks hQ hP hD hS dX5_put_44

abbrev rmX5_faultAsOf : Room := { frames := 2, cells := 0, slots := 0, locals := 42 }
set_option maxHeartbeats 40000000 in
set_option maxRecDepth 100000 in
theorem k_Sht_faultAsOf (l : Launch) (D : va_G) (cI cB cZ cS cT : ClassId) (qt qt_cells : Nat) (t_lane t_size : Int32) (t_cells : Nat → Int32) (p1 p2 p3 : Int32) (o : Int32) (hM : Sht_faultAsOf p1 p2 p3 t_lane t_size = some o) : mtI l yX5_faultAsOf wsX5_faultAsOf rmX5_faultAsOf D (tys5 cI cB cZ cS cT) [.ref qt, .int p1, .int p2, .int p3] (w_Sht cI cB cZ cS cT qt qt_cells t_lane t_size t_cells) (w_Sht cI cB cZ cS cT qt qt_cells t_lane t_size t_cells) o := by
  refine mtI.of (cc := cX5_faultAsOf) (maxL := 4) (ret := (some .int)) (by decide) rfl (Nat.le_of_ble_eq_true rfl) ?_
  intro p e s m below meth c A Q av hav hQ hx hb hr hml hown hts hlocks hK hP hD hA hS ls hl
  have hown : s.vm.findClass RX5 = some m.cls := hown
  have hl : lv_has ls 4 [(0, .ref qt), (1, .int p1), (2, .int p2), (3, .int p3)] := hl
  unfold Sht_faultAsOf at hM
  have inX5w : ∀ w ∈ u_ws RX5 TX5 3, w ∈ wsX5_faultAsOf := by decide +kernel
  have hf19 := hts (.fieldLink RX5 19 "LetsIn$Sheet" "lane" "I") (by decide +kernel)
  refine lv_aload_n hx hb dX5_faultAsOf_0 rfl (lv_at hl 0 rfl) ?_
  obtain ⟨o_1, hc, hM⟩ := bind_so hM
  refine mr_callVi (As := []) (rest := []) (wr := []) ⟨hx, hb, hml, hown, hts⟩ (k_Sht_isThere l D cI cB cZ cS cT qt qt_cells t_lane t_size t_cells  _ hc) (cwV 0 hts gX5_faultAsOf_X5_isThere rfl rfl rfl (by decide +kernel) ⟨Nat.le_of_ble_eq_true rfl, Nat.le_of_ble_eq_true rfl⟩) hK hP hD hS hA [0, 1] [] [0, 1] (w_Sht cI cB cZ cS cT qt qt_cells t_lane t_size t_cells) rfl rfl rfl rfl (by decide) rfl rfl 5 0 rfl rfl rfl rfl hl.1 rfl (Nat.le_of_ble_eq_true rfl) dX5_faultAsOf_1 ⟨Nat.zero_le _, Nat.zero_le _⟩ (fun H locs hP hD hS => ?_)
  refine mr_jn hM (fun j19_2 => ∀ _u : Unit, j19_2 _u = some o → ∀ (H : Heap) (locs : List Loc), va_P D vwCl (w_Sht cI cB cZ cS cT qt qt_cells t_lane t_size t_cells) H → va_D A (w_Sht cI cB cZ cS cT qt qt_cells t_lane t_size t_cells) → va_S A s.heap H locs → ∀ ls : Array Slot, lv_has ls 4 [(0, .ref qt), (2, .int p2), (3, .int p3)] → W p l e rmX5_faultAsOf s m av below meth c H locs 0 0 Q (F0 m 19 ls [])) (fun _u hM H locs hP hD hS ls hl => ?_) (fun j19_2 hj19_2 hM => ?_)
  · refine lv_aload_n hx hb dX5_faultAsOf_19 rfl (lv_at hl 0 rfl) ?_
    refine lv_iload_n hx hb dX5_faultAsOf_20 rfl (lv_at hl 1 rfl) ?_
    refine lv_iload_n hx hb dX5_faultAsOf_21 rfl (lv_at hl 2 rfl) ?_
    obtain ⟨o_3, hc, hM⟩ := bind_so hM
    refine mr_callVi (As := [.int p2, .int p3]) (rest := []) (wr := []) ⟨hx, hb, hml, hown, hts⟩ (k_Sht_faultOfCells l D cI cB cZ cS cT qt qt_cells t_lane t_size t_cells p2 p3 _ hc) (cwV 2 hts gX5_faultAsOf_X5_faultOfCells rfl rfl rfl (by decide +kernel) ⟨Nat.le_of_ble_eq_true rfl, Nat.le_of_ble_eq_true rfl⟩) hK hP hD hS hA [0, 1] [] [0, 1] (w_Sht cI cB cZ cS cT qt qt_cells t_lane t_size t_cells) rfl rfl rfl rfl (by decide) rfl rfl 5 0 rfl rfl rfl rfl hl.1 rfl (Nat.le_of_ble_eq_true rfl) dX5_faultAsOf_22 ⟨Nat.zero_le _, Nat.zero_le _⟩ (fun H locs hP hD hS => ?_)
    have hM := Option.some.inj hM
    subst hM
    exact mr_iret hx hb hr hlocks hQ hP hD hS rfl dX5_faultAsOf_25
  · refine mr_if_eq (tgt := 19) hx hb hM dX5_faultAsOf_4 (by decide) (fun hM => ?_) (fun hM => ?_)
    · exact hj19_2 () hM _ _ hP hD hS ls (lv_sub hl [0, 2, 3] rfl)
    · refine lv_aload_n hx hb dX5_faultAsOf_7 rfl (lv_at hl 0 rfl) ?_
      refine va_get (D := D) (ci := 5) (v := .int t_lane) (C := RX5) (T := TX5) (N := 3) hx hb hts inX5w hown hK hP 0 rfl rfl 1 (by decide) hf19 (fun _ h9 => h9) rfl dX5_faultAsOf_8 ?_
      refine lv_iload_n hx hb dX5_faultAsOf_11 rfl (lv_at hl 1 rfl) ?_
      refine mr_icmp_eq (tgt := 19) hx hb hM dX5_faultAsOf_12 (by decide) (fun hM => ?_) (fun hM => ?_)
      · exact hj19_2 () hM _ _ hP hD hS ls (lv_sub hl [0, 2, 3] rfl)
      · refine lv_iconst (v := 3) hx hb dX5_faultAsOf_15 (by decide) ?_
        refine lv_goto (tgt := 25) hx hb dX5_faultAsOf_16 (by decide) ?_
        have hM := Option.some.inj hM
        subst hM
        exact mr_iret hx hb hr hlocks hQ hP hD hS rfl dX5_faultAsOf_25
