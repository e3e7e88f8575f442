abbrev rmX6_append : Room := { frames := 0, cells := 0, slots := 0, locals := 0 }
set_option maxHeartbeats 40000000 in
set_option maxRecDepth 100000 in
theorem k_Tap_append (l : Launch) (D : va_G) (cI cB cZ cS cT : ClassId) (qt qt_bytes : Nat) (t_length : Int32) (t_bytes : Nat → Int32) (p1 : Int64) (o : Int32 × Int32 × (Nat → Int32)) (hM : Tap_append p1 t_length t_bytes = some o) : mtI l yX6_append wsX6_append rmX6_append D (tys5 cI cB cZ cS cT) [.ref qt, .long p1] (w_Tap cI cB cZ cS cT qt qt_bytes t_length t_bytes) (w_Tap cI cB cZ cS cT qt qt_bytes o.2.1 o.2.2) o.1 := by
  refine mtI.of (cc := cX6_append) (maxL := 4) (ret := (some .boolean)) (by decide) rfl (Nat.le_of_ble_eq_true rfl) ?_
  intro p e s m below meth c A Q av hav hQ hx hb hr hml hown hts hlocks hK hP hD hA hS ls hl
  have hown : s.vm.findClass RX6 = some m.cls := hown
  have hl : lv_has ls 4 [(0, .ref qt), (1, .long p1)] := hl
  unfold Tap_append at hM
  have inX6w : ∀ w ∈ u_ws RX6 TX6 2, w ∈ wsX6_append := by decide +kernel
  have hf15 := hts (.fieldLink RX6 15 "LetsIn$Tape" "length" "I") (by decide +kernel)
  have hf9 := hts (.fieldLink RX6 9 "LetsIn$Tape" "bytes" "[B") (by decide +kernel)
  refine lv_aload_n hx hb dX6_append_0 rfl (lv_at hl 0 rfl) ?_
  refine va_get (D := D) (ci := 6) (v := .int t_length) (C := RX6) (T := TX6) (N := 2) hx hb hts inX6w hown hK hP 0 rfl rfl 1 (by decide) hf15 (fun _ h9 => h9) rfl dX6_append_1 ?_
  refine lv_sipush (v := 392) hx hb dX6_append_4 (by decide) ?_
  refine mr_icmp_le (tgt := 12) hx hb hM dX6_append_7 (by decide) (fun hM => ?_) (fun hM => ?_)
  · refine lv_iconst (v := 0) hx hb dX6_append_12 (by decide) ?_
    refine lv_istore_n (lv' := [(3, .int 0), (0, .ref qt), (1, .long p1)]) hx hb dX6_append_13 rfl hl (by decide) rfl (fun ls hl => ?_)
    have hL14 : ∀ (K48 : (Nat → Int32) → Option (Int32 × Int32 × (Nat → Int32))), (∀ (t_bytes_5 : Nat → Int32), K48 t_bytes_5 = some o → ∀ (H : Heap) (locs : List Loc), va_P D vwCl (w_Tap cI cB cZ cS cT qt qt_bytes t_length t_bytes_5) H → va_D A (w_Tap cI cB cZ cS cT qt qt_bytes t_length t_bytes_5) → va_S A s.heap H locs → ∀ ls : Array Slot, lv_has ls 4 [(0, .ref qt)] → W p l e rmX6_append s m av below meth c H locs 0 0 Q (F0 m 48 ls [])) → ∀ (n : Nat) (x3_1 : Int32) (t_bytes_2 : Nat → Int32), Tap_append_L14 t_length p1 K48 n x3_1 t_bytes_2 = some o → ∀ (H : Heap) (locs : List Loc), va_P D vwCl (w_Tap cI cB cZ cS cT qt qt_bytes t_length t_bytes_2) H → va_D A (w_Tap cI cB cZ cS cT qt qt_bytes t_length t_bytes_2) → va_S A s.heap H locs → ∀ ls : Array Slot, lv_has ls 4 [(0, .ref qt), (1, .long p1), (3, .int x3_1)] → W p l e rmX6_append s m av below meth c H locs 0 0 Q (F0 m 14 ls []) := by
      intro K48 hK48 n
      induction n with
      | zero =>
        intro x3_1 t_bytes_2 hM
        rw [Tap_append_L14] at hM
        cases hM
      | succ n ih =>
        intro x3_1 t_bytes_2 hM H locs hP hD hS ls hl
        rw [Tap_append_L14] at hM
        refine lv_iload_n hx hb dX6_append_14 rfl (lv_at hl 2 rfl) ?_
        refine lv_bipush (v := 8) hx hb dX6_append_15 (by decide) ?_
        refine mr_icmp_ge (tgt := 48) hx hb hM dX6_append_17 (by decide) (fun hM => ?_) (fun hM => ?_)
        · exact hK48 t_bytes_2 hM _ _ hP hD hS ls (lv_sub hl [0] rfl)
        · refine lv_aload_n hx hb dX6_append_20 rfl (lv_at hl 0 rfl) ?_
          refine va_get (D := D) (ci := 6) (v := .ref qt_bytes) (C := RX6) (T := TX6) (N := 2) hx hb hts inX6w hown hK hP 0 rfl rfl 0 (by decide) hf9 (fun _ h9 => h9) rfl dX6_append_21 ?_
          refine lv_aload_n hx hb dX6_append_24 rfl (lv_at hl 0 rfl) ?_
          refine va_get (D := D) (ci := 6) (v := .int t_length) (C := RX6) (T := TX6) (N := 2) hx hb hts inX6w hown hK hP 0 rfl rfl 1 (by decide) hf15 (fun _ h9 => h9) rfl dX6_append_25 ?_
          refine lv_iload_n hx hb dX6_append_28 rfl (lv_at hl 2 rfl) ?_
          refine lv_iadd hx hb dX6_append_29 ?_
          refine lv_lload_n hx hb dX6_append_30 rfl (lv_at hl 1 rfl) ?_
          refine lv_bipush (v := 56) hx hb dX6_append_31 (by decide) ?_
          refine lv_bipush (v := 8) hx hb dX6_append_33 (by decide) ?_
          refine lv_iload_n hx hb dX6_append_35 rfl (lv_at hl 2 rfl) ?_
          refine lv_imul hx hb dX6_append_36 ?_
          refine lv_isub hx hb dX6_append_37 ?_
          refine lv_lushr hx hb dX6_append_38 rfl ?_
          refine lv_l2i hx hb dX6_append_39 rfl ?_
          refine lv_i2b hx hb dX6_append_40 rfl ?_
          refine mr_bast hx hb hK hP hD hS 1 1 (fun t_bytes_3 => (w_Tap cI cB cZ cS cT qt qt_bytes t_length t_bytes_3)) rfl rfl (fun _ => rfl) hM dX6_append_41 (fun t_bytes_3 hM H locs hP hD hS => ?_)
          refine mr_iinc (k := 2) (d := 1) hx hb (fun x3_4 => [(3, .int x3_4), (0, .ref qt), (1, .long p1)]) hM (by decide) dX6_append_42 hl rfl (by decide) (fun _ => rfl) (fun x3_4 hM ls hl => ?_)
          refine lv_goto (tgt := 14) hx hb dX6_append_45 (by decide) ?_
          exact ih x3_4 t_bytes_3 hM _ _ hP hD hS ls (lv_sub hl [1, 2, 0] rfl)
    refine hL14 _ (fun t_bytes_5 hM H locs hP hD hS ls hl => ?_) _ 0 t_bytes hM _ _ hP hD hS ls (lv_sub hl [1, 2, 0] rfl)
    refine lv_aload_n hx hb dX6_append_48 rfl (lv_at hl 0 rfl) ?_
    refine lv_dup hx hb dX6_append_49 rfl ?_
    refine va_get (D := D) (ci := 6) (v := .int t_length) (C := RX6) (T := TX6) (N := 2) hx hb hts inX6w hown hK hP 0 rfl rfl 1 (by decide) hf15 (fun _ h9 => h9) rfl dX6_append_50 ?_
    refine lv_bipush (v := 8) hx hb dX6_append_53 (by decide) ?_
    refine lv_iadd hx hb dX6_append_55 ?_
    refine mr_nmI hM (fun t_length_6 hM => ?_)
    refine mr_put (D := D) (ci := 6) (v := .int t_length_6) (ty := .int) (C := RX6) (T := TX6) (N := 2) hx hb hts inX6w tyX6 tyX6_ok nmX6 hown hK hP hD hS 0 rfl rfl 1 (by decide) hf15 (fun _ h9 => h9) rfl (by decide +kernel) rfl rfl (Nat.le_of_ble_eq_true rfl) dX6_append_56 (w_Tap cI cB cZ cS cT qt qt_bytes t_length_6 t_bytes_5) rfl (fun H locs hP hD hS => ?_)
    refine lv_iconst (v := 1) hx hb dX6_append_59 (by decide) ?_
    have hM := Option.some.inj hM
    subst hM
    exact mr_zret hx hb hr (by decide) hlocks hQ hP hD hS rfl dX6_append_60
  · refine lv_iconst (v := 0) hx hb dX6_append_10 (by decide) ?_
    have hM := Option.some.inj hM
    subst hM
    exact mr_zret hx hb hr (by decide) hlocks hQ hP hD hS rfl dX6_append_11

abbrev rmX6_isBlank : Room := { frames := 0, cells := 0, slots := 0, locals := 0 }
set_option maxHeartbeats 40000000 in
set_option maxRecDepth 100000 in
theorem k_Tap_isBlank (l : Launch) (D : va_G) (cI cB cZ cS cT : ClassId) (qt qt_bytes : Nat) (t_length : Int32) (t_bytes : Nat → Int32) (p1 : Int32) (o : Int32) (hM : Tap_isBlank p1 t_bytes = some o) : mtI l yX6_isBlank wsX6_isBlank rmX6_isBlank D (tys5 cI cB cZ cS cT) [.ref qt, .int p1] (w_Tap cI cB cZ cS cT qt qt_bytes t_length t_bytes) (w_Tap cI cB cZ cS cT qt qt_bytes t_length t_bytes) o := by
  refine mtI.of (cc := cX6_isBlank) (maxL := 2) (ret := (some .boolean)) (by decide) rfl (Nat.le_of_ble_eq_true rfl) ?_
  intro p e s m below meth c A Q av hav hQ hx hb hr hml hown hts hlocks hK hP hD hA hS ls hl
  have hown : s.vm.findClass RX6 = some m.cls := hown
  have hl : lv_has ls 2 [(0, .ref qt), (1, .int p1)] := hl
  unfold Tap_isBlank at hM
  have inX6w : ∀ w ∈ u_ws RX6 TX6 2, w ∈ wsX6_isBlank := by decide +kernel
  have hf9 := hts (.fieldLink RX6 9 "LetsIn$Tape" "bytes" "[B") (by decide +kernel)
  refine lv_aload_n hx hb dX6_isBlank_0 rfl (lv_at hl 0 rfl) ?_
  refine va_get (D := D) (ci := 6) (v := .ref qt_bytes) (C := RX6) (T := TX6) (N := 2) hx hb hts inX6w hown hK hP 0 rfl rfl 0 (by decide) hf9 (fun _ h9 => h9) rfl dX6_isBlank_1 ?_
  refine lv_iload_n hx hb dX6_isBlank_4 rfl (lv_at hl 1 rfl) ?_
  refine mr_bald hx hb hK hP 1 1 rfl rfl hM dX6_isBlank_5 (fun v_1 hM => ?_)
  refine lv_bipush (v := 32) hx hb dX6_isBlank_6 (by decide) ?_
  refine mr_icmp_ne (tgt := 15) hx hb hM dX6_isBlank_8 (by decide) (fun hM => ?_) (fun hM => ?_)
  · refine lv_iconst (v := 0) hx hb dX6_isBlank_15 (by decide) ?_
    have hM := Option.some.inj hM
    subst hM
    exact mr_zret hx hb hr (by decide) hlocks hQ hP hD hS rfl dX6_isBlank_16
  · refine lv_iconst (v := 1) hx hb dX6_isBlank_11 (by decide) ?_
    refine lv_goto (tgt := 16) hx hb dX6_isBlank_12 (by decide) ?_
    have hM := Option.some.inj hM
    subst hM
    exact mr_zret hx hb hr (by decide) hlocks hQ hP hD hS rfl dX6_isBlank_16

abbrev rmX6_isLetter : Room := { frames := 0, cells := 0, slots := 0, locals := 0 }
set_option maxHeartbeats 40000000 in
set_option maxRecDepth 100000 in
theorem k_Tap_isLetter (l : Launch) (D : va_G) (cI cB cZ cS cT : ClassId) (qt qt_bytes : Nat) (t_length : Int32) (t_bytes : Nat → Int32) (p1 : Int32) (o : Int32) (hM : Tap_isLetter p1 t_bytes = some o) : mtI l yX6_isLetter wsX6_isLetter rmX6_isLetter D (tys5 cI cB cZ cS cT) [.ref qt, .int p1] (w_Tap cI cB cZ cS cT qt qt_bytes t_length t_bytes) (w_Tap cI cB cZ cS cT qt qt_bytes t_length t_bytes) o := by
  refine mtI.of (cc := cX6_isLetter) (maxL := 2) (ret := (some .boolean)) (by decide) rfl (Nat.le_of_ble_eq_true rfl) ?_
  intro p e s m below meth c A Q av hav hQ hx hb hr hml hown hts hlocks hK hP hD hA hS ls hl
  have hown : s.vm.findClass RX6 = some m.cls := hown
  have hl : lv_has ls 2 [(0, .ref qt), (1, .int p1)] := hl
  unfold Tap_isLetter at hM
  have inX6w : ∀ w ∈ u_ws RX6 TX6 2, w ∈ wsX6_isLetter := by decide +kernel
  have hf9 := hts (.fieldLink RX6 9 "LetsIn$Tape" "bytes" "[B") (by decide +kernel)
  refine lv_aload_n hx hb dX6_isLetter_0 rfl (lv_at hl 0 rfl) ?_
  refine va_get (D := D) (ci := 6) (v := .ref qt_bytes) (C := RX6) (T := TX6) (N := 2) hx hb hts inX6w hown hK hP 0 rfl rfl 0 (by decide) hf9 (fun _ h9 => h9) rfl dX6_isLetter_1 ?_
  refine lv_iload_n hx hb dX6_isLetter_4 rfl (lv_at hl 1 rfl) ?_
  refine mr_bald hx hb hK hP 1 1 rfl rfl hM dX6_isLetter_5 (fun v_1 hM => ?_)
  refine lv_bipush (v := 97) hx hb dX6_isLetter_6 (by decide) ?_
  refine mr_icmp_lt (tgt := 26) hx hb hM dX6_isLetter_8 (by decide) (fun hM => ?_) (fun hM => ?_)
  · refine lv_iconst (v := 0) hx hb dX6_isLetter_26 (by decide) ?_
    have hM := Option.some.inj hM
    subst hM
    exact mr_zret hx hb hr (by decide) hlocks hQ hP hD hS rfl dX6_isLetter_27
  · refine lv_aload_n hx hb dX6_isLetter_11 rfl (lv_at hl 0 rfl) ?_
    refine va_get (D := D) (ci := 6) (v := .ref qt_bytes) (C := RX6) (T := TX6) (N := 2) hx hb hts inX6w hown hK hP 0 rfl rfl 0 (by decide) hf9 (fun _ h9 => h9) rfl dX6_isLetter_12 ?_
    refine lv_iload_n hx hb dX6_isLetter_15 rfl (lv_at hl 1 rfl) ?_
    refine mr_bald hx hb hK hP 1 1 rfl rfl hM dX6_isLetter_16 (fun v_2 hM => ?_)
    refine lv_bipush (v := 122) hx hb dX6_isLetter_17 (by decide) ?_
    refine mr_icmp_gt (tgt := 26) hx hb hM dX6_isLetter_19 (by decide) (fun hM => ?_) (fun hM => ?_)
    · refine lv_iconst (v := 0) hx hb dX6_isLetter_26 (by decide) ?_
      have hM := Option.some.inj hM
      subst hM
      exact mr_zret hx hb hr (by decide) hlocks hQ hP hD hS rfl dX6_isLetter_27
    · refine lv_iconst (v := 1) hx hb dX6_isLetter_22 (by decide) ?_
      refine lv_goto (tgt := 27) hx hb dX6_isLetter_23 (by decide) ?_
      have hM := Option.some.inj hM
      subst hM
      exact mr_zret hx hb hr (by decide) hlocks hQ hP hD hS rfl dX6_isLetter_27

abbrev rmX6_isFigure : Room := { frames := 0, cells := 0, slots := 0, locals := 0 }
set_option maxHeartbeats 40000000 in
set_option maxRecDepth 100000 in
theorem k_Tap_isFigure (l : Launch) (D : va_G) (cI cB cZ cS cT : ClassId) (qt qt_bytes : Nat) (t_length : Int32) (t_bytes : Nat → Int32) (p1 : Int32) (o : Int32) (hM : Tap_isFigure p1 t_bytes = some o) : mtI l yX6_isFigure wsX6_isFigure rmX6_isFigure D (tys5 cI cB cZ cS cT) [.ref qt, .int p1] (w_Tap cI cB cZ cS cT qt qt_bytes t_length t_bytes) (w_Tap cI cB cZ cS cT qt qt_bytes t_length t_bytes) o := by
  refine mtI.of (cc := cX6_isFigure) (maxL := 2) (ret := (some .boolean)) (by decide) rfl (Nat.le_of_ble_eq_true rfl) ?_
  intro p e s m below meth c A Q av hav hQ hx hb hr hml hown hts hlocks hK hP hD hA hS ls hl
  have hown : s.vm.findClass RX6 = some m.cls := hown
  have hl : lv_has ls 2 [(0, .ref qt), (1, .int p1)] := hl
  unfold Tap_isFigure at hM
  have inX6w : ∀ w ∈ u_ws RX6 TX6 2, w ∈ wsX6_isFigure := by decide +kernel
  have hf9 := hts (.fieldLink RX6 9 "LetsIn$Tape" "bytes" "[B") (by decide +kernel)
  refine lv_aload_n hx hb dX6_isFigure_0 rfl (lv_at hl 0 rfl) ?_
  refine va_get (D := D) (ci := 6) (v := .ref qt_bytes) (C := RX6) (T := TX6) (N := 2) hx hb hts inX6w hown hK hP 0 rfl rfl 0 (by decide) hf9 (fun _ h9 => h9) rfl dX6_isFigure_1 ?_
  refine lv_iload_n hx hb dX6_isFigure_4 rfl (lv_at hl 1 rfl) ?_
  refine mr_bald hx hb hK hP 1 1 rfl rfl hM dX6_isFigure_5 (fun v_1 hM => ?_)
  refine lv_bipush (v := 48) hx hb dX6_isFigure_6 (by decide) ?_
  refine mr_icmp_lt (tgt := 26) hx hb hM dX6_isFigure_8 (by decide) (fun hM => ?_) (fun hM => ?_)
  · refine lv_iconst (v := 0) hx hb dX6_isFigure_26 (by decide) ?_
    have hM := Option.some.inj hM
    subst hM
    exact mr_zret hx hb hr (by decide) hlocks hQ hP hD hS rfl dX6_isFigure_27
  · refine lv_aload_n hx hb dX6_isFigure_11 rfl (lv_at hl 0 rfl) ?_
    refine va_get (D := D) (ci := 6) (v := .ref qt_bytes) (C := RX6) (T := TX6) (N := 2) hx hb hts inX6w hown hK hP 0 rfl rfl 0 (by decide) hf9 (fun _ h9 => h9) rfl dX6_isFigure_12 ?_
    refine lv_iload_n hx hb dX6_isFigure_15 rfl (lv_at hl 1 rfl) ?_
    refine mr_bald hx hb hK hP 1 1 rfl rfl hM dX6_isFigure_16 (fun v_2 hM => ?_)
    refine lv_bipush (v := 57) hx hb dX6_isFigure_17 (by decide) ?_
    refine mr_icmp_gt (tgt := 26) hx hb hM dX6_isFigure_19 (by decide) (fun hM => ?_) (fun hM => ?_)
    · refine lv_iconst (v := 0) hx hb dX6_isFigure_26 (by decide) ?_
      have hM := Option.some.inj hM
      subst hM
      exact mr_zret hx hb hr (by decide) hlocks hQ hP hD hS rfl dX6_isFigure_27
    · refine lv_iconst (v := 1) hx hb dX6_isFigure_22 (by decide) ?_
      refine lv_goto (tgt := 27) hx hb dX6_isFigure_23 (by decide) ?_
      have hM := Option.some.inj hM
      subst hM
      exact mr_zret hx hb hr (by decide) hlocks hQ hP hD hS rfl dX6_isFigure_27
