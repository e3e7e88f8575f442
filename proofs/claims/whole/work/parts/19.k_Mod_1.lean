abbrev rmX9_owes : Room := { frames := 3, cells := 0, slots := 0, locals := 68 }
set_option maxHeartbeats 40000000 in
set_option maxRecDepth 100000 in
theorem k_Mod_owes (l : Launch) (D : va_G) (cI cB cZ cS cT : ClassId) (qt qt_state qt_readPage qt_tape qt_cuts qt_letters qt_queue qt_busyTo qt_servedIn qt_waysOn qt_costOn qt_aheads qt_seen qt_isKept qt_lanes qt_lengths qt_cells : Nat) (t_hasLaw t_hasCounters t_highest t_taped t_fault t_broken t_brokenAt t_spot t_here t_token t_value t_queued t_payed t_bestWait t_bestWhom t_bestCoins t_seenMany t_torn : Int32) (t_state t_readPage t_tape t_cuts t_letters t_queue t_busyTo t_servedIn t_waysOn t_costOn t_aheads t_seen t_isKept t_lanes t_lengths t_cells : Nat → Int32) (p1 p2 : Int32) (o : Int32) (hM : Mod_owes p1 p2 t_state = some o) : mtI l yX9_owes wsX9_owes rmX9_owes D (tys5 cI cB cZ cS cT) [.ref qt, .int p1, .int p2] (w_Mod cI cB cZ cS cT qt qt_state qt_readPage qt_tape qt_cuts qt_letters qt_queue qt_busyTo qt_servedIn qt_waysOn qt_costOn qt_aheads qt_seen qt_isKept qt_lanes qt_lengths qt_cells t_hasLaw t_hasCounters t_highest t_taped t_fault t_broken t_brokenAt t_spot t_here t_token t_value t_queued t_payed t_bestWait t_bestWhom t_bestCoins t_seenMany t_torn t_state t_readPage t_tape t_cuts t_letters t_queue t_busyTo t_servedIn t_waysOn t_costOn t_aheads t_seen t_isKept t_lanes t_lengths t_cells) (w_Mod cI cB cZ cS cT qt qt_state qt_readPage qt_tape qt_cuts qt_letters qt_queue qt_busyTo qt_servedIn qt_waysOn qt_costOn qt_aheads qt_seen qt_isKept qt_lanes qt_lengths qt_cells t_hasLaw t_hasCounters t_highest t_taped t_fault t_broken t_brokenAt t_spot t_here t_token t_value t_queued t_payed t_bestWait t_bestWhom t_bestCoins t_seenMany t_torn t_state t_readPage t_tape t_cuts t_letters t_queue t_busyTo t_servedIn t_waysOn t_costOn t_aheads t_seen t_isKept t_lanes t_lengths t_cells) o := by
  refine mtI.of (cc := cX9_owes) (maxL := 3) (ret := (some .int)) (by decide) rfl (Nat.le_of_ble_eq_true rfl) ?_
  intro p e s m below meth c A Q av hav hQ hx hb hr hml hown hts hlocks hK hP hD hA hS ls hl
  have hown : s.vm.findClass RX9 = some m.cls := hown
  have hl : lv_has ls 3 [(0, .ref qt), (1, .int p1), (2, .int p2)] := hl
  unfold Mod_owes at hM
  have inX9w : ∀ w ∈ u_ws RX9 TX9 34, w ∈ wsX9_owes := by decide +kernel
  have hf7 := hts (.fieldLink RX9 7 "LetsInModel" "state" "[I") (by decide +kernel)
  refine lv_aload_n hx hb dX9_owes_0 rfl (lv_at hl 0 rfl) ?_
  refine lv_iload_n hx hb dX9_owes_1 rfl (lv_at hl 1 rfl) ?_
  refine lv_iload_n hx hb dX9_owes_2 rfl (lv_at hl 2 rfl) ?_
  obtain ⟨o_1, hc, hM⟩ := bind_so hM
  refine mr_callVi (As := [.int p1, .int p2]) (rest := []) (wr := []) ⟨hx, hb, hml, hown, hts⟩ (k_Mod_areTwo l D cI cB cZ cS cT qt qt_state qt_readPage qt_tape qt_cuts qt_letters qt_queue qt_busyTo qt_servedIn qt_waysOn qt_costOn qt_aheads qt_seen qt_isKept qt_lanes qt_lengths qt_cells t_hasLaw t_hasCounters t_highest t_taped t_fault t_broken t_brokenAt t_spot t_here t_token t_value t_queued t_payed t_bestWait t_bestWhom t_bestCoins t_seenMany t_torn t_state t_readPage t_tape t_cuts t_letters t_queue t_busyTo t_servedIn t_waysOn t_costOn t_aheads t_seen t_isKept t_lanes t_lengths t_cells p1 p2 _ hc) (cwV 2 hts gX9_owes_X9_areTwo rfl rfl rfl (by decide +kernel) ⟨Nat.le_of_ble_eq_true rfl, Nat.le_of_ble_eq_true rfl⟩) hK hP hD hS hA [0, 1, 2, 3, 4, 5, 6, 7, 8, 9, 10, 11, 12, 13, 14, 15, 16] [] [0, 1, 2, 3, 4, 5, 6, 7, 8, 9, 10, 11, 12, 13, 14, 15, 16] (w_Mod cI cB cZ cS cT qt qt_state qt_readPage qt_tape qt_cuts qt_letters qt_queue qt_busyTo qt_servedIn qt_waysOn qt_costOn qt_aheads qt_seen qt_isKept qt_lanes qt_lengths qt_cells t_hasLaw t_hasCounters t_highest t_taped t_fault t_broken t_brokenAt t_spot t_here t_token t_value t_queued t_payed t_bestWait t_bestWhom t_bestCoins t_seenMany t_torn t_state t_readPage t_tape t_cuts t_letters t_queue t_busyTo t_servedIn t_waysOn t_costOn t_aheads t_seen t_isKept t_lanes t_lengths t_cells) rfl rfl rfl rfl (by decide) rfl rfl 9 0 rfl rfl rfl rfl hl.1 rfl (Nat.le_of_ble_eq_true rfl) dX9_owes_3 ⟨Nat.zero_le _, Nat.zero_le _⟩ (fun H locs hP hD hS => ?_)
  refine mr_if_eq (tgt := 22) hx hb hM dX9_owes_6 (by decide) (fun hM => ?_) (fun hM => ?_)
  · refine lv_iconst (v := (-1)) hx hb dX9_owes_22 (by decide) ?_
    have hM := Option.some.inj hM
    subst hM
    exact mr_iret hx hb hr hlocks hQ hP hD hS rfl dX9_owes_23
  · refine lv_aload_n hx hb dX9_owes_9 rfl (lv_at hl 0 rfl) ?_
    refine va_get (D := D) (ci := 9) (v := .ref qt_state) (C := RX9) (T := TX9) (N := 34) hx hb hts inX9w hown hK hP 0 rfl rfl 0 (by decide) hf7 (fun _ h9 => h9) rfl dX9_owes_10 ?_
    refine lv_iload_n hx hb dX9_owes_13 rfl (lv_at hl 1 rfl) ?_
    refine lv_iload_n hx hb dX9_owes_14 rfl (lv_at hl 2 rfl) ?_
    obtain ⟨o_2, hc, hM⟩ := bind_so hM
    refine mr_callSi (As := [.int p1, .int p2]) (rest := [.ref qt_state]) ⟨hx, hb, hml, hown, hts⟩ (k_Mod_debtAt l D cI cB cZ cS cT   p1 p2 _ hc) (cwS 2 hts gX9_owes_X9_debtAt rfl rfl rfl (by decide +kernel) ⟨Nat.le_of_ble_eq_true rfl, Nat.le_of_ble_eq_true rfl⟩) hK hP hD hS hA rfl hl.1 rfl (Nat.le_of_ble_eq_true rfl) dX9_owes_15 ⟨Nat.zero_le _, Nat.zero_le _⟩ (fun H locs hP hS => ?_)
    refine mr_iald hx hb hK hP 1 0 rfl rfl hM dX9_owes_18 (fun v_3 hM => ?_)
    refine lv_goto (tgt := 23) hx hb dX9_owes_19 (by decide) ?_
    have hM := Option.some.inj hM
    subst hM
    exact mr_iret hx hb hr hlocks hQ hP hD hS rfl dX9_owes_23

abbrev rmX9_due : Room := { frames := 1, cells := 0, slots := 0, locals := 21 }
set_option maxHeartbeats 40000000 in
set_option maxRecDepth 100000 in
theorem k_Mod_due (l : Launch) (D : va_G) (cI cB cZ cS cT : ClassId) (qt qt_state qt_readPage qt_tape qt_cuts qt_letters qt_queue qt_busyTo qt_servedIn qt_waysOn qt_costOn qt_aheads qt_seen qt_isKept qt_lanes qt_lengths qt_cells : Nat) (t_hasLaw t_hasCounters t_highest t_taped t_fault t_broken t_brokenAt t_spot t_here t_token t_value t_queued t_payed t_bestWait t_bestWhom t_bestCoins t_seenMany t_torn : Int32) (t_state t_readPage t_tape t_cuts t_letters t_queue t_busyTo t_servedIn t_waysOn t_costOn t_aheads t_seen t_isKept t_lanes t_lengths t_cells : Nat → Int32) (p1 p2 p3 : Int32) (o : Int32) (hM : Mod_due p1 p2 p3 t_state = some o) : mtI l yX9_due wsX9_due rmX9_due D (tys5 cI cB cZ cS cT) [.ref qt, .int p1, .int p2, .int p3] (w_Mod cI cB cZ cS cT qt qt_state qt_readPage qt_tape qt_cuts qt_letters qt_queue qt_busyTo qt_servedIn qt_waysOn qt_costOn qt_aheads qt_seen qt_isKept qt_lanes qt_lengths qt_cells t_hasLaw t_hasCounters t_highest t_taped t_fault t_broken t_brokenAt t_spot t_here t_token t_value t_queued t_payed t_bestWait t_bestWhom t_bestCoins t_seenMany t_torn t_state t_readPage t_tape t_cuts t_letters t_queue t_busyTo t_servedIn t_waysOn t_costOn t_aheads t_seen t_isKept t_lanes t_lengths t_cells) (w_Mod cI cB cZ cS cT qt qt_state qt_readPage qt_tape qt_cuts qt_letters qt_queue qt_busyTo qt_servedIn qt_waysOn qt_costOn qt_aheads qt_seen qt_isKept qt_lanes qt_lengths qt_cells t_hasLaw t_hasCounters t_highest t_taped t_fault t_broken t_brokenAt t_spot t_here t_token t_value t_queued t_payed t_bestWait t_bestWhom t_bestCoins t_seenMany t_torn t_state t_readPage t_tape t_cuts t_letters t_queue t_busyTo t_servedIn t_waysOn t_costOn t_aheads t_seen t_isKept t_lanes t_lengths t_cells) o := by
  refine mtI.of (cc := cX9_due) (maxL := 5) (ret := (some .int)) (by decide) rfl (Nat.le_of_ble_eq_true rfl) ?_
  intro p e s m below meth c A Q av hav hQ hx hb hr hml hown hts hlocks hK hP hD hA hS ls hl
  have hown : s.vm.findClass RX9 = some m.cls := hown
  have hl : lv_has ls 5 [(0, .ref qt), (1, .int p1), (2, .int p2), (3, .int p3)] := hl
  unfold Mod_due at hM
  have inX9w : ∀ w ∈ u_ws RX9 TX9 34, w ∈ wsX9_due := by decide +kernel
  have hf7 := hts (.fieldLink RX9 7 "LetsInModel" "state" "[I") (by decide +kernel)
  refine lv_aload_n hx hb dX9_due_0 rfl (lv_at hl 0 rfl) ?_
  refine va_get (D := D) (ci := 9) (v := .ref qt_state) (C := RX9) (T := TX9) (N := 34) hx hb hts inX9w hown hK hP 0 rfl rfl 0 (by decide) hf7 (fun _ h9 => h9) rfl dX9_due_1 ?_
  refine lv_iload_n hx hb dX9_due_4 rfl (lv_at hl 1 rfl) ?_
  refine lv_bipush (v := 6) hx hb dX9_due_5 (by decide) ?_
  refine lv_iload_n hx hb dX9_due_7 rfl (lv_at hl 2 rfl) ?_
  refine lv_imul hx hb dX9_due_8 ?_
  refine lv_iadd hx hb dX9_due_9 ?_
  refine lv_iconst (v := 5) hx hb dX9_due_10 (by decide) ?_
  refine lv_iadd hx hb dX9_due_11 ?_
  refine mr_iald hx hb hK hP 1 0 rfl rfl hM dX9_due_12 (fun v_1 hM => ?_)
  refine lv_istore (lv' := [(4, .int v_1), (0, .ref qt), (1, .int p1), (2, .int p2), (3, .int p3)]) hx hb dX9_due_13 hl (by decide) rfl (fun ls hl => ?_)
  refine lv_aload_n hx hb dX9_due_15 rfl (lv_at hl 1 rfl) ?_
  refine va_get (D := D) (ci := 9) (v := .ref qt_state) (C := RX9) (T := TX9) (N := 34) hx hb hts inX9w hown hK hP 0 rfl rfl 0 (by decide) hf7 (fun _ h9 => h9) rfl dX9_due_16 ?_
  refine lv_iload_n hx hb dX9_due_19 rfl (lv_at hl 2 rfl) ?_
  refine lv_iload_n hx hb dX9_due_20 rfl (lv_at hl 3 rfl) ?_
  refine lv_iload_n hx hb dX9_due_21 rfl (lv_at hl 4 rfl) ?_
  obtain ⟨o_2, hc, hM⟩ := bind_so hM
  refine mr_callSi (As := [.int p2, .int p3]) (rest := [.int p1, .ref qt_state]) ⟨hx, hb, hml, hown, hts⟩ (k_Mod_debtAt l D cI cB cZ cS cT   p2 p3 _ hc) (cwS 2 hts gX9_due_X9_debtAt rfl rfl rfl (by decide +kernel) ⟨Nat.le_of_ble_eq_true rfl, Nat.le_of_ble_eq_true rfl⟩) hK hP hD hS hA rfl hl.1 rfl (Nat.le_of_ble_eq_true rfl) dX9_due_22 ⟨Nat.zero_le _, Nat.zero_le _⟩ (fun H locs hP hS => ?_)
  refine lv_iadd hx hb dX9_due_25 ?_
  refine mr_iald hx hb hK hP 1 0 rfl rfl hM dX9_due_26 (fun v_3 hM => ?_)
  refine lv_aload_n hx hb dX9_due_27 rfl (lv_at hl 1 rfl) ?_
  refine va_get (D := D) (ci := 9) (v := .ref qt_state) (C := RX9) (T := TX9) (N := 34) hx hb hts inX9w hown hK hP 0 rfl rfl 0 (by decide) hf7 (fun _ h9 => h9) rfl dX9_due_28 ?_
  refine lv_iload_n hx hb dX9_due_31 rfl (lv_at hl 2 rfl) ?_
  refine lv_bipush (v := 6) hx hb dX9_due_32 (by decide) ?_
  refine lv_iload_n hx hb dX9_due_34 rfl (lv_at hl 3 rfl) ?_
  refine lv_imul hx hb dX9_due_35 ?_
  refine lv_iadd hx hb dX9_due_36 ?_
  refine mr_iald hx hb hK hP 1 0 rfl rfl hM dX9_due_37 (fun v_4 hM => ?_)
  refine lv_iconst (v := 4) hx hb dX9_due_38 (by decide) ?_
  refine mr_icmp_ne (tgt := 64) hx hb hM dX9_due_39 (by decide) (fun hM => ?_) (fun hM => ?_)
  · refine lv_iconst (v := 0) hx hb dX9_due_64 (by decide) ?_
    refine lv_iadd hx hb dX9_due_65 ?_
    have hM := Option.some.inj hM
    subst hM
    exact mr_iret hx hb hr hlocks hQ hP hD hS rfl dX9_due_66
  · refine lv_iload hx hb dX9_due_42 (lv_at hl 0 rfl) ?_
    refine lv_iload_n hx hb dX9_due_44 rfl (lv_at hl 4 rfl) ?_
    refine mr_icmp_eq (tgt := 64) hx hb hM dX9_due_45 (by decide) (fun hM => ?_) (fun hM => ?_)
    · refine lv_iconst (v := 0) hx hb dX9_due_64 (by decide) ?_
      refine lv_iadd hx hb dX9_due_65 ?_
      have hM := Option.some.inj hM
      subst hM
      exact mr_iret hx hb hr hlocks hQ hP hD hS rfl dX9_due_66
    · refine lv_aload_n hx hb dX9_due_48 rfl (lv_at hl 1 rfl) ?_
      refine va_get (D := D) (ci := 9) (v := .ref qt_state) (C := RX9) (T := TX9) (N := 34) hx hb hts inX9w hown hK hP 0 rfl rfl 0 (by decide) hf7 (fun _ h9 => h9) rfl dX9_due_49 ?_
      refine lv_iload_n hx hb dX9_due_52 rfl (lv_at hl 2 rfl) ?_
      refine lv_iload hx hb dX9_due_53 (lv_at hl 0 rfl) ?_
      refine lv_iload_n hx hb dX9_due_55 rfl (lv_at hl 4 rfl) ?_
      obtain ⟨o_5, hc, hM⟩ := bind_so hM
      refine mr_callSi (As := [.int v_1, .int p3]) (rest := [.int p1, .ref qt_state, .int v_3]) ⟨hx, hb, hml, hown, hts⟩ (k_Mod_debtAt l D cI cB cZ cS cT   v_1 p3 _ hc) (cwS 2 hts gX9_due_X9_debtAt rfl rfl rfl (by decide +kernel) ⟨Nat.le_of_ble_eq_true rfl, Nat.le_of_ble_eq_true rfl⟩) hK hP hD hS hA rfl hl.1 rfl (Nat.le_of_ble_eq_true rfl) dX9_due_56 ⟨Nat.zero_le _, Nat.zero_le _⟩ (fun H locs hP hS => ?_)
      refine lv_iadd hx hb dX9_due_59 ?_
      refine mr_iald hx hb hK hP 1 0 rfl rfl hM dX9_due_60 (fun v_6 hM => ?_)
      refine lv_goto (tgt := 65) hx hb dX9_due_61 (by decide) ?_
      refine lv_iadd hx hb dX9_due_65 ?_
      have hM := Option.some.inj hM
      subst hM
      exact mr_iret hx hb hr hlocks hQ hP hD hS rfl dX9_due_66

abbrev rmX9_mustLet : Room := { frames := 2, cells := 0, slots := 0, locals := 45 }
set_option maxHeartbeats 40000000 in
set_option maxRecDepth 100000 in
theorem k_Mod_mustLet (l : Launch) (D : va_G) (cI cB cZ cS cT : ClassId) (qt qt_state qt_readPage qt_tape qt_cuts qt_letters qt_queue qt_busyTo qt_servedIn qt_waysOn qt_costOn qt_aheads qt_seen qt_isKept qt_lanes qt_lengths qt_cells : Nat) (t_hasLaw t_hasCounters t_highest t_taped t_fault t_broken t_brokenAt t_spot t_here t_token t_value t_queued t_payed t_bestWait t_bestWhom t_bestCoins t_seenMany t_torn : Int32) (t_state t_readPage t_tape t_cuts t_letters t_queue t_busyTo t_servedIn t_waysOn t_costOn t_aheads t_seen t_isKept t_lanes t_lengths t_cells : Nat → Int32) (p1 p2 p3 : Int32) (o : Int32) (hM : Mod_mustLet p1 p2 p3 t_state = some o) : mtI l yX9_mustLet wsX9_mustLet rmX9_mustLet D (tys5 cI cB cZ cS cT) [.ref qt, .int p1, .int p2, .int p3] (w_Mod cI cB cZ cS cT qt qt_state qt_readPage qt_tape qt_cuts qt_letters qt_queue qt_busyTo qt_servedIn qt_waysOn qt_costOn qt_aheads qt_seen qt_isKept qt_lanes qt_lengths qt_cells t_hasLaw t_hasCounters t_highest t_taped t_fault t_broken t_brokenAt t_spot t_here t_token t_value t_queued t_payed t_bestWait t_bestWhom t_bestCoins t_seenMany t_torn t_state t_readPage t_tape t_cuts t_letters t_queue t_busyTo t_servedIn t_waysOn t_costOn t_aheads t_seen t_isKept t_lanes t_lengths t_cells) (w_Mod cI cB cZ cS cT qt qt_state qt_readPage qt_tape qt_cuts qt_letters qt_queue qt_busyTo qt_servedIn qt_waysOn qt_costOn qt_aheads qt_seen qt_isKept qt_lanes qt_lengths qt_cells t_hasLaw t_hasCounters t_highest t_taped t_fault t_broken t_brokenAt t_spot t_here t_token t_value t_queued t_payed t_bestWait t_bestWhom t_bestCoins t_seenMany t_torn t_state t_readPage t_tape t_cuts t_letters t_queue t_busyTo t_servedIn t_waysOn t_costOn t_aheads t_seen t_isKept t_lanes t_lengths t_cells) o := by
  refine mtI.of (cc := cX9_mustLet) (maxL := 6) (ret := (some .boolean)) (by decide) rfl (Nat.le_of_ble_eq_true rfl) ?_
  intro p e s m below meth c A Q av hav hQ hx hb hr hml hown hts hlocks hK hP hD hA hS ls hl
  have hown : s.vm.findClass RX9 = some m.cls := hown
  have hl : lv_has ls 6 [(0, .ref qt), (1, .int p1), (2, .int p2), (3, .int p3)] := hl
  unfold Mod_mustLet at hM
  have inX9w : ∀ w ∈ u_ws RX9 TX9 34, w ∈ wsX9_mustLet := by decide +kernel
  have hf7 := hts (.fieldLink RX9 7 "LetsInModel" "state" "[I") (by decide +kernel)
  refine lv_aload_n hx hb dX9_mustLet_0 rfl (lv_at hl 0 rfl) ?_
  refine va_get (D := D) (ci := 9) (v := .ref qt_state) (C := RX9) (T := TX9) (N := 34) hx hb hts inX9w hown hK hP 0 rfl rfl 0 (by decide) hf7 (fun _ h9 => h9) rfl dX9_mustLet_1 ?_
  refine lv_iload_n hx hb dX9_mustLet_4 rfl (lv_at hl 1 rfl) ?_
  refine lv_bipush (v := 6) hx hb dX9_mustLet_5 (by decide) ?_
  refine lv_iload_n hx hb dX9_mustLet_7 rfl (lv_at hl 3 rfl) ?_
  refine lv_imul hx hb dX9_mustLet_8 ?_
  refine lv_iadd hx hb dX9_mustLet_9 ?_
  refine mr_iald hx hb hK hP 1 0 rfl rfl hM dX9_mustLet_10 (fun v_1 hM => ?_)
  refine lv_istore (lv' := [(4, .int v_1), (0, .ref qt), (1, .int p1), (2, .int p2), (3, .int p3)]) hx hb dX9_mustLet_11 hl (by decide) rfl (fun ls hl => ?_)
  refine lv_aload_n hx hb dX9_mustLet_13 rfl (lv_at hl 1 rfl) ?_
  refine lv_iload_n hx hb dX9_mustLet_14 rfl (lv_at hl 2 rfl) ?_
  refine lv_iload_n hx hb dX9_mustLet_15 rfl (lv_at hl 3 rfl) ?_
  refine lv_iload_n hx hb dX9_mustLet_16 rfl (lv_at hl 4 rfl) ?_
  obtain ⟨o_2, hc, hM⟩ := bind_so hM
  refine mr_callVi (As := [.int p1, .int p2, .int p3]) (rest := []) (wr := []) ⟨hx, hb, hml, hown, hts⟩ (k_Mod_due l D cI cB cZ cS cT qt qt_state qt_readPage qt_tape qt_cuts qt_letters qt_queue qt_busyTo qt_servedIn qt_waysOn qt_costOn qt_aheads qt_seen qt_isKept qt_lanes qt_lengths qt_cells t_hasLaw t_hasCounters t_highest t_taped t_fault t_broken t_brokenAt t_spot t_here t_token t_value t_queued t_payed t_bestWait t_bestWhom t_bestCoins t_seenMany t_torn t_state t_readPage t_tape t_cuts t_letters t_queue t_busyTo t_servedIn t_waysOn t_costOn t_aheads t_seen t_isKept t_lanes t_lengths t_cells p1 p2 p3 _ hc) (cwV 3 hts gX9_mustLet_X9_due rfl rfl rfl (by decide +kernel) ⟨Nat.le_of_ble_eq_true rfl, Nat.le_of_ble_eq_true rfl⟩) hK hP hD hS hA [0, 1, 2, 3, 4, 5, 6, 7, 8, 9, 10, 11, 12, 13, 14, 15, 16] [] [0, 1, 2, 3, 4, 5, 6, 7, 8, 9, 10, 11, 12, 13, 14, 15, 16] (w_Mod cI cB cZ cS cT qt qt_state qt_readPage qt_tape qt_cuts qt_letters qt_queue qt_busyTo qt_servedIn qt_waysOn qt_costOn qt_aheads qt_seen qt_isKept qt_lanes qt_lengths qt_cells t_hasLaw t_hasCounters t_highest t_taped t_fault t_broken t_brokenAt t_spot t_here t_token t_value t_queued t_payed t_bestWait t_bestWhom t_bestCoins t_seenMany t_torn t_state t_readPage t_tape t_cuts t_letters t_queue t_busyTo t_servedIn t_waysOn t_costOn t_aheads t_seen t_isKept t_lanes t_lengths t_cells) rfl rfl rfl rfl (by decide) rfl rfl 9 0 rfl rfl rfl rfl hl.1 rfl (Nat.le_of_ble_eq_true rfl) dX9_mustLet_17 ⟨Nat.zero_le _, Nat.zero_le _⟩ (fun H locs hP hD hS => ?_)
  refine lv_istore (lv' := [(5, .int o_2), (4, .int v_1), (0, .ref qt), (1, .int p1), (2, .int p2), (3, .int p3)]) hx hb dX9_mustLet_20 hl (by decide) rfl (fun ls hl => ?_)
  refine lv_iload hx hb dX9_mustLet_22 (lv_at hl 1 rfl) ?_
  refine lv_iconst (v := 3) hx hb dX9_mustLet_24 (by decide) ?_
  refine mr_icmp_eq (tgt := 62) hx hb hM dX9_mustLet_25 (by decide) (fun hM => ?_) (fun hM => ?_)
  · refine lv_iconst (v := 1) hx hb dX9_mustLet_62 (by decide) ?_
    refine lv_goto (tgt := 67) hx hb dX9_mustLet_63 (by decide) ?_
    have hM := Option.some.inj hM
    subst hM
    exact mr_zret hx hb hr (by decide) hlocks hQ hP hD hS rfl dX9_mustLet_67
  · refine lv_iload hx hb dX9_mustLet_28 (lv_at hl 1 rfl) ?_
    refine lv_iconst (v := 2) hx hb dX9_mustLet_30 (by decide) ?_
    refine mr_icmp_eq (tgt := 66) hx hb hM dX9_mustLet_31 (by decide) (fun hM => ?_) (fun hM => ?_)
    · refine lv_iconst (v := 0) hx hb dX9_mustLet_66 (by decide) ?_
      have hM := Option.some.inj hM
      subst hM
      exact mr_zret hx hb hr (by decide) hlocks hQ hP hD hS rfl dX9_mustLet_67
    · refine lv_iload hx hb dX9_mustLet_34 (lv_at hl 0 rfl) ?_
      refine lv_aload_n hx hb dX9_mustLet_36 rfl (lv_at hl 2 rfl) ?_
      refine va_get (D := D) (ci := 9) (v := .ref qt_state) (C := RX9) (T := TX9) (N := 34) hx hb hts inX9w hown hK hP 0 rfl rfl 0 (by decide) hf7 (fun _ h9 => h9) rfl dX9_mustLet_37 ?_
      refine lv_iload_n hx hb dX9_mustLet_40 rfl (lv_at hl 3 rfl) ?_
      refine lv_bipush (v := 91) hx hb dX9_mustLet_41 (by decide) ?_
      refine lv_iadd hx hb dX9_mustLet_43 ?_
      refine mr_iald hx hb hK hP 1 0 rfl rfl hM dX9_mustLet_44 (fun v_3 hM => ?_)
      refine mr_if_ne (tgt := 52) hx hb hM dX9_mustLet_45 (by decide) (fun hM => ?_) (fun hM => ?_)
      · refine lv_aload_n hx hb dX9_mustLet_52 rfl (lv_at hl 2 rfl) ?_
        refine lv_iload_n hx hb dX9_mustLet_53 rfl (lv_at hl 3 rfl) ?_
        refine lv_iload_n hx hb dX9_mustLet_54 rfl (lv_at hl 5 rfl) ?_
        refine lv_iload_n hx hb dX9_mustLet_55 rfl (lv_at hl 4 rfl) ?_
        obtain ⟨o_4, hc, hM⟩ := bind_so hM
        refine mr_callVi (As := [.int p1, .int p3, .int p2]) (rest := [.int o_2]) (wr := []) ⟨hx, hb, hml, hown, hts⟩ (k_Mod_due l D cI cB cZ cS cT qt qt_state qt_readPage qt_tape qt_cuts qt_letters qt_queue qt_busyTo qt_servedIn qt_waysOn qt_costOn qt_aheads qt_seen qt_isKept qt_lanes qt_lengths qt_cells t_hasLaw t_hasCounters t_highest t_taped t_fault t_broken t_brokenAt t_spot t_here t_token t_value t_queued t_payed t_bestWait t_bestWhom t_bestCoins t_seenMany t_torn t_state t_readPage t_tape t_cuts t_letters t_queue t_busyTo t_servedIn t_waysOn t_costOn t_aheads t_seen t_isKept t_lanes t_lengths t_cells p1 p3 p2 _ hc) (cwV 3 hts gX9_mustLet_X9_due rfl rfl rfl (by decide +kernel) ⟨Nat.le_of_ble_eq_true rfl, Nat.le_of_ble_eq_true rfl⟩) hK hP hD hS hA [0, 1, 2, 3, 4, 5, 6, 7, 8, 9, 10, 11, 12, 13, 14, 15, 16] [] [0, 1, 2, 3, 4, 5, 6, 7, 8, 9, 10, 11, 12, 13, 14, 15, 16] (w_Mod cI cB cZ cS cT qt qt_state qt_readPage qt_tape qt_cuts qt_letters qt_queue qt_busyTo qt_servedIn qt_waysOn qt_costOn qt_aheads qt_seen qt_isKept qt_lanes qt_lengths qt_cells t_hasLaw t_hasCounters t_highest t_taped t_fault t_broken t_brokenAt t_spot t_here t_token t_value t_queued t_payed t_bestWait t_bestWhom t_bestCoins t_seenMany t_torn t_state t_readPage t_tape t_cuts t_letters t_queue t_busyTo t_servedIn t_waysOn t_costOn t_aheads t_seen t_isKept t_lanes t_lengths t_cells) rfl rfl rfl rfl (by decide) rfl rfl 9 0 rfl rfl rfl rfl hl.1 rfl (Nat.le_of_ble_eq_true rfl) dX9_mustLet_56 ⟨Nat.zero_le _, Nat.zero_le _⟩ (fun H locs hP hD hS => ?_)
        refine mr_icmp_le (tgt := 66) hx hb hM dX9_mustLet_59 (by decide) (fun hM => ?_) (fun hM => ?_)
        · refine lv_iconst (v := 0) hx hb dX9_mustLet_66 (by decide) ?_
          have hM := Option.some.inj hM
          subst hM
          exact mr_zret hx hb hr (by decide) hlocks hQ hP hD hS rfl dX9_mustLet_67
        · refine lv_iconst (v := 1) hx hb dX9_mustLet_62 (by decide) ?_
          refine lv_goto (tgt := 67) hx hb dX9_mustLet_63 (by decide) ?_
          have hM := Option.some.inj hM
          subst hM
          exact mr_zret hx hb hr (by decide) hlocks hQ hP hD hS rfl dX9_mustLet_67
      · refine lv_iconst (v := 0) hx hb dX9_mustLet_48 (by decide) ?_
        refine lv_goto (tgt := 59) hx hb dX9_mustLet_49 (by decide) ?_
        refine mr_icmp_le (tgt := 66) hx hb hM dX9_mustLet_59 (by decide) (fun hM => ?_) (fun hM => ?_)
        · refine lv_iconst (v := 0) hx hb dX9_mustLet_66 (by decide) ?_
          have hM := Option.some.inj hM
          subst hM
          exact mr_zret hx hb hr (by decide) hlocks hQ hP hD hS rfl dX9_mustLet_67
        · refine lv_iconst (v := 1) hx hb dX9_mustLet_62 (by decide) ?_
          refine lv_goto (tgt := 67) hx hb dX9_mustLet_63 (by decide) ?_
          have hM := Option.some.inj hM
          subst hM
          exact mr_zret hx hb hr (by decide) hlocks hQ hP hD hS rfl dX9_mustLet_67

abbrev rmX9_must : Room := { frames := 3, cells := 0, slots := 0, locals := 70 }
set_option maxHeartbeats 40000000 in
set_option maxRecDepth 100000 in
theorem k_Mod_must (l : Launch) (D : va_G) (cI cB cZ cS cT : ClassId) (qt qt_state qt_readPage qt_tape qt_cuts qt_letters qt_queue qt_busyTo qt_servedIn qt_waysOn qt_costOn qt_aheads qt_seen qt_isKept qt_lanes qt_lengths qt_cells : Nat) (t_hasLaw t_hasCounters t_highest t_taped t_fault t_broken t_brokenAt t_spot t_here t_token t_value t_queued t_payed t_bestWait t_bestWhom t_bestCoins t_seenMany t_torn : Int32) (t_state t_readPage t_tape t_cuts t_letters t_queue t_busyTo t_servedIn t_waysOn t_costOn t_aheads t_seen t_isKept t_lanes t_lengths t_cells : Nat → Int32) (p1 p2 : Int32) (o : Int32) (hM : Mod_must p1 p2 t_state = some o) : mtI l yX9_must wsX9_must rmX9_must D (tys5 cI cB cZ cS cT) [.ref qt, .int p1, .int p2] (w_Mod cI cB cZ cS cT qt qt_state qt_readPage qt_tape qt_cuts qt_letters qt_queue qt_busyTo qt_servedIn qt_waysOn qt_costOn qt_aheads qt_seen qt_isKept qt_lanes qt_lengths qt_cells t_hasLaw t_hasCounters t_highest t_taped t_fault t_broken t_brokenAt t_spot t_here t_token t_value t_queued t_payed t_bestWait t_bestWhom t_bestCoins t_seenMany t_torn t_state t_readPage t_tape t_cuts t_letters t_queue t_busyTo t_servedIn t_waysOn t_costOn t_aheads t_seen t_isKept t_lanes t_lengths t_cells) (w_Mod cI cB cZ cS cT qt qt_state qt_readPage qt_tape qt_cuts qt_letters qt_queue qt_busyTo qt_servedIn qt_waysOn qt_costOn qt_aheads qt_seen qt_isKept qt_lanes qt_lengths qt_cells t_hasLaw t_hasCounters t_highest t_taped t_fault t_broken t_brokenAt t_spot t_here t_token t_value t_queued t_payed t_bestWait t_bestWhom t_bestCoins t_seenMany t_torn t_state t_readPage t_tape t_cuts t_letters t_queue t_busyTo t_servedIn t_waysOn t_costOn t_aheads t_seen t_isKept t_lanes t_lengths t_cells) o := by
  refine mtI.of (cc := cX9_must) (maxL := 3) (ret := (some .int)) (by decide) rfl (Nat.le_of_ble_eq_true rfl) ?_
  intro p e s m below meth c A Q av hav hQ hx hb hr hml hown hts hlocks hK hP hD hA hS ls hl
  have hown : s.vm.findClass RX9 = some m.cls := hown
  have hl : lv_has ls 3 [(0, .ref qt), (1, .int p1), (2, .int p2)] := hl
  unfold Mod_must at hM
  refine lv_aload_n hx hb dX9_must_0 rfl (lv_at hl 0 rfl) ?_
  refine lv_iload_n hx hb dX9_must_1 rfl (lv_at hl 1 rfl) ?_
  refine lv_iload_n hx hb dX9_must_2 rfl (lv_at hl 2 rfl) ?_
  obtain ⟨o_1, hc, hM⟩ := bind_so hM
  refine mr_callVi (As := [.int p1, .int p2]) (rest := []) (wr := []) ⟨hx, hb, hml, hown, hts⟩ (k_Mod_areTwo l D cI cB cZ cS cT qt qt_state qt_readPage qt_tape qt_cuts qt_letters qt_queue qt_busyTo qt_servedIn qt_waysOn qt_costOn qt_aheads qt_seen qt_isKept qt_lanes qt_lengths qt_cells t_hasLaw t_hasCounters t_highest t_taped t_fault t_broken t_brokenAt t_spot t_here t_token t_value t_queued t_payed t_bestWait t_bestWhom t_bestCoins t_seenMany t_torn t_state t_readPage t_tape t_cuts t_letters t_queue t_busyTo t_servedIn t_waysOn t_costOn t_aheads t_seen t_isKept t_lanes t_lengths t_cells p1 p2 _ hc) (cwV 2 hts gX9_must_X9_areTwo rfl rfl rfl (by decide +kernel) ⟨Nat.le_of_ble_eq_true rfl, Nat.le_of_ble_eq_true rfl⟩) hK hP hD hS hA [0, 1, 2, 3, 4, 5, 6, 7, 8, 9, 10, 11, 12, 13, 14, 15, 16] [] [0, 1, 2, 3, 4, 5, 6, 7, 8, 9, 10, 11, 12, 13, 14, 15, 16] (w_Mod cI cB cZ cS cT qt qt_state qt_readPage qt_tape qt_cuts qt_letters qt_queue qt_busyTo qt_servedIn qt_waysOn qt_costOn qt_aheads qt_seen qt_isKept qt_lanes qt_lengths qt_cells t_hasLaw t_hasCounters t_highest t_taped t_fault t_broken t_brokenAt t_spot t_here t_token t_value t_queued t_payed t_bestWait t_bestWhom t_bestCoins t_seenMany t_torn t_state t_readPage t_tape t_cuts t_letters t_queue t_busyTo t_servedIn t_waysOn t_costOn t_aheads t_seen t_isKept t_lanes t_lengths t_cells) rfl rfl rfl rfl (by decide) rfl rfl 9 0 rfl rfl rfl rfl hl.1 rfl (Nat.le_of_ble_eq_true rfl) dX9_must_3 ⟨Nat.zero_le _, Nat.zero_le _⟩ (fun H locs hP hD hS => ?_)
  refine mr_if_eq (tgt := 27) hx hb hM dX9_must_6 (by decide) (fun hM => ?_) (fun hM => ?_)
  · refine lv_iconst (v := (-1)) hx hb dX9_must_27 (by decide) ?_
    have hM := Option.some.inj hM
    subst hM
    exact mr_iret hx hb hr hlocks hQ hP hD hS rfl dX9_must_28
  · refine lv_aload_n hx hb dX9_must_9 rfl (lv_at hl 0 rfl) ?_
    refine lv_iconst (v := 0) hx hb dX9_must_10 (by decide) ?_
    refine lv_iload_n hx hb dX9_must_11 rfl (lv_at hl 1 rfl) ?_
    refine lv_iload_n hx hb dX9_must_12 rfl (lv_at hl 2 rfl) ?_
    obtain ⟨o_2, hc, hM⟩ := bind_so hM
    refine mr_callVi (As := [.int 0, .int p1, .int p2]) (rest := []) (wr := []) ⟨hx, hb, hml, hown, hts⟩ (k_Mod_mustLet l D cI cB cZ cS cT qt qt_state qt_readPage qt_tape qt_cuts qt_letters qt_queue qt_busyTo qt_servedIn qt_waysOn qt_costOn qt_aheads qt_seen qt_isKept qt_lanes qt_lengths qt_cells t_hasLaw t_hasCounters t_highest t_taped t_fault t_broken t_brokenAt t_spot t_here t_token t_value t_queued t_payed t_bestWait t_bestWhom t_bestCoins t_seenMany t_torn t_state t_readPage t_tape t_cuts t_letters t_queue t_busyTo t_servedIn t_waysOn t_costOn t_aheads t_seen t_isKept t_lanes t_lengths t_cells 0 p1 p2 _ hc) (cwV 3 hts gX9_must_X9_mustLet rfl rfl rfl (by decide +kernel) ⟨Nat.le_of_ble_eq_true rfl, Nat.le_of_ble_eq_true rfl⟩) hK hP hD hS hA [0, 1, 2, 3, 4, 5, 6, 7, 8, 9, 10, 11, 12, 13, 14, 15, 16] [] [0, 1, 2, 3, 4, 5, 6, 7, 8, 9, 10, 11, 12, 13, 14, 15, 16] (w_Mod cI cB cZ cS cT qt qt_state qt_readPage qt_tape qt_cuts qt_letters qt_queue qt_busyTo qt_servedIn qt_waysOn qt_costOn qt_aheads qt_seen qt_isKept qt_lanes qt_lengths qt_cells t_hasLaw t_hasCounters t_highest t_taped t_fault t_broken t_brokenAt t_spot t_here t_token t_value t_queued t_payed t_bestWait t_bestWhom t_bestCoins t_seenMany t_torn t_state t_readPage t_tape t_cuts t_letters t_queue t_busyTo t_servedIn t_waysOn t_costOn t_aheads t_seen t_isKept t_lanes t_lengths t_cells) rfl rfl rfl rfl (by decide) rfl rfl 9 0 rfl rfl rfl rfl hl.1 rfl (Nat.le_of_ble_eq_true rfl) dX9_must_13 ⟨Nat.zero_le _, Nat.zero_le _⟩ (fun H locs hP hD hS => ?_)
    refine mr_if_eq (tgt := 23) hx hb hM dX9_must_16 (by decide) (fun hM => ?_) (fun hM => ?_)
    · refine lv_iconst (v := 0) hx hb dX9_must_23 (by decide) ?_
      refine lv_goto (tgt := 28) hx hb dX9_must_24 (by decide) ?_
      have hM := Option.some.inj hM
      subst hM
      exact mr_iret hx hb hr hlocks hQ hP hD hS rfl dX9_must_28
    · refine lv_iconst (v := 1) hx hb dX9_must_19 (by decide) ?_
      refine lv_goto (tgt := 28) hx hb dX9_must_20 (by decide) ?_
      have hM := Option.some.inj hM
      subst hM
      exact mr_iret hx hb hr hlocks hQ hP hD hS rfl dX9_must_28

abbrev rmX9_law : Room := { frames := 1, cells := 0, slots := 0, locals := 25 }
set_option maxHeartbeats 40000000 in
set_option maxRecDepth 100000 in
theorem k_Mod_law (l : Launch) (D : va_G) (cI cB cZ cS cT : ClassId) (qt qt_state qt_readPage qt_tape qt_cuts qt_letters qt_queue qt_busyTo qt_servedIn qt_waysOn qt_costOn qt_aheads qt_seen qt_isKept qt_lanes qt_lengths qt_cells : Nat) (t_hasLaw t_hasCounters t_highest t_taped t_fault t_broken t_brokenAt t_spot t_here t_token t_value t_queued t_payed t_bestWait t_bestWhom t_bestCoins t_seenMany t_torn : Int32) (t_state t_readPage t_tape t_cuts t_letters t_queue t_busyTo t_servedIn t_waysOn t_costOn t_aheads t_seen t_isKept t_lanes t_lengths t_cells : Nat → Int32) (p1 : Int32) (o : Int32 × (Nat → Int32)) (hM : Mod_law p1 t_state = some o) : mtI l yX9_law wsX9_law rmX9_law D (tys5 cI cB cZ cS cT) [.ref qt, .int p1] (w_Mod cI cB cZ cS cT qt qt_state qt_readPage qt_tape qt_cuts qt_letters qt_queue qt_busyTo qt_servedIn qt_waysOn qt_costOn qt_aheads qt_seen qt_isKept qt_lanes qt_lengths qt_cells t_hasLaw t_hasCounters t_highest t_taped t_fault t_broken t_brokenAt t_spot t_here t_token t_value t_queued t_payed t_bestWait t_bestWhom t_bestCoins t_seenMany t_torn t_state t_readPage t_tape t_cuts t_letters t_queue t_busyTo t_servedIn t_waysOn t_costOn t_aheads t_seen t_isKept t_lanes t_lengths t_cells) (w_Mod cI cB cZ cS cT qt qt_state qt_readPage qt_tape qt_cuts qt_letters qt_queue qt_busyTo qt_servedIn qt_waysOn qt_costOn qt_aheads qt_seen qt_isKept qt_lanes qt_lengths qt_cells t_hasLaw t_hasCounters t_highest t_taped t_fault t_broken t_brokenAt t_spot t_here t_token t_value t_queued t_payed t_bestWait t_bestWhom t_bestCoins t_seenMany t_torn o.2 t_readPage t_tape t_cuts t_letters t_queue t_busyTo t_servedIn t_waysOn t_costOn t_aheads t_seen t_isKept t_lanes t_lengths t_cells) o.1 := by
  refine mtI.of (cc := cX9_law) (maxL := 3) (ret := (some .int)) (by decide) rfl (Nat.le_of_ble_eq_true rfl) ?_
  intro p e s m below meth c A Q av hav hQ hx hb hr hml hown hts hlocks hK hP hD hA hS ls hl
  have hown : s.vm.findClass RX9 = some m.cls := hown
  have hl : lv_has ls 3 [(0, .ref qt), (1, .int p1)] := hl
  unfold Mod_law at hM
  have inX9w : ∀ w ∈ u_ws RX9 TX9 34, w ∈ wsX9_law := by decide +kernel
  have hf7 := hts (.fieldLink RX9 7 "LetsInModel" "state" "[I") (by decide +kernel)
  refine lv_iload_n hx hb dX9_law_0 rfl (lv_at hl 1 rfl) ?_
  refine lv_i2l hx hb dX9_law_1 rfl ?_
  refine lv_lconst (v := 0) hx hb dX9_law_2 (by decide) ?_
  refine lv_lconst (v := 1) hx hb dX9_law_3 (by decide) ?_
  obtain ⟨o_1, hc, hM⟩ := bind_so hM
  refine mr_callSi (As := [.long p1.toInt64, .long 0, .long 1]) (rest := []) ⟨hx, hb, hml, hown, hts⟩ (k_Mod_in l D cI cB cZ cS cT   p1.toInt64 0 1 _ hc) (cwS 3 hts gX9_law_X9_in rfl rfl rfl (by decide +kernel) ⟨Nat.le_of_ble_eq_true rfl, Nat.le_of_ble_eq_true rfl⟩) hK hP hD hS hA rfl hl.1 rfl (Nat.le_of_ble_eq_true rfl) dX9_law_4 ⟨Nat.zero_le _, Nat.zero_le _⟩ (fun H locs hP hS => ?_)
  refine mr_if_ne (tgt := 12) hx hb hM dX9_law_7 (by decide) (fun hM => ?_) (fun hM => ?_)
  · refine lv_aload_n hx hb dX9_law_12 rfl (lv_at hl 0 rfl) ?_
    refine va_get (D := D) (ci := 9) (v := .ref qt_state) (C := RX9) (T := TX9) (N := 34) hx hb hts inX9w hown hK hP 0 rfl rfl 0 (by decide) hf7 (fun _ h9 => h9) rfl dX9_law_13 ?_
    refine lv_bipush (v := 91) hx hb dX9_law_16 (by decide) ?_
    refine mr_iald hx hb hK hP 1 0 rfl rfl hM dX9_law_18 (fun v_2 hM => ?_)
    refine lv_istore_n (lv' := [(2, .int v_2), (0, .ref qt), (1, .int p1)]) hx hb dX9_law_19 rfl hl (by decide) rfl (fun ls hl => ?_)
    refine lv_aload_n hx hb dX9_law_20 rfl (lv_at hl 1 rfl) ?_
    refine va_get (D := D) (ci := 9) (v := .ref qt_state) (C := RX9) (T := TX9) (N := 34) hx hb hts inX9w hown hK hP 0 rfl rfl 0 (by decide) hf7 (fun _ h9 => h9) rfl dX9_law_21 ?_
    refine lv_bipush (v := 91) hx hb dX9_law_24 (by decide) ?_
    refine lv_iload_n hx hb dX9_law_26 rfl (lv_at hl 2 rfl) ?_
    refine mr_iast hx hb hK hP hD hS 1 0 (fun t_state_3 => (w_Mod cI cB cZ cS cT qt qt_state qt_readPage qt_tape qt_cuts qt_letters qt_queue qt_busyTo qt_servedIn qt_waysOn qt_costOn qt_aheads qt_seen qt_isKept qt_lanes qt_lengths qt_cells t_hasLaw t_hasCounters t_highest t_taped t_fault t_broken t_brokenAt t_spot t_here t_token t_value t_queued t_payed t_bestWait t_bestWhom t_bestCoins t_seenMany t_torn t_state_3 t_readPage t_tape t_cuts t_letters t_queue t_busyTo t_servedIn t_waysOn t_costOn t_aheads t_seen t_isKept t_lanes t_lengths t_cells)) rfl rfl (fun _ => rfl) hM dX9_law_27 (fun t_state_3 hM H locs hP hD hS => ?_)
    refine lv_iload_n hx hb dX9_law_28 rfl (lv_at hl 0 rfl) ?_
    have hM := Option.some.inj hM
    subst hM
    exact mr_iret hx hb hr hlocks hQ hP hD hS rfl dX9_law_29
  · refine lv_iconst (v := (-1)) hx hb dX9_law_10 (by decide) ?_
    have hM := Option.some.inj hM
    subst hM
    exact mr_iret hx hb hr hlocks hQ hP hD hS rfl dX9_law_11

abbrev rmX9_counters : Room := { frames := 1, cells := 0, slots := 0, locals := 25 }
set_option maxHeartbeats 40000000 in
set_option maxRecDepth 100000 in
theorem k_Mod_counters (l : Launch) (D : va_G) (cI cB cZ cS cT : ClassId) (qt qt_state qt_readPage qt_tape qt_cuts qt_letters qt_queue qt_busyTo qt_servedIn qt_waysOn qt_costOn qt_aheads qt_seen qt_isKept qt_lanes qt_lengths qt_cells : Nat) (t_hasLaw t_hasCounters t_highest t_taped t_fault t_broken t_brokenAt t_spot t_here t_token t_value t_queued t_payed t_bestWait t_bestWhom t_bestCoins t_seenMany t_torn : Int32) (t_state t_readPage t_tape t_cuts t_letters t_queue t_busyTo t_servedIn t_waysOn t_costOn t_aheads t_seen t_isKept t_lanes t_lengths t_cells : Nat → Int32) (p1 : Int32) (o : Int32 × (Nat → Int32)) (hM : Mod_counters p1 t_state = some o) : mtI l yX9_counters wsX9_counters rmX9_counters D (tys5 cI cB cZ cS cT) [.ref qt, .int p1] (w_Mod cI cB cZ cS cT qt qt_state qt_readPage qt_tape qt_cuts qt_letters qt_queue qt_busyTo qt_servedIn qt_waysOn qt_costOn qt_aheads qt_seen qt_isKept qt_lanes qt_lengths qt_cells t_hasLaw t_hasCounters t_highest t_taped t_fault t_broken t_brokenAt t_spot t_here t_token t_value t_queued t_payed t_bestWait t_bestWhom t_bestCoins t_seenMany t_torn t_state t_readPage t_tape t_cuts t_letters t_queue t_busyTo t_servedIn t_waysOn t_costOn t_aheads t_seen t_isKept t_lanes t_lengths t_cells) (w_Mod cI cB cZ cS cT qt qt_state qt_readPage qt_tape qt_cuts qt_letters qt_queue qt_busyTo qt_servedIn qt_waysOn qt_costOn qt_aheads qt_seen qt_isKept qt_lanes qt_lengths qt_cells t_hasLaw t_hasCounters t_highest t_taped t_fault t_broken t_brokenAt t_spot t_here t_token t_value t_queued t_payed t_bestWait t_bestWhom t_bestCoins t_seenMany t_torn o.2 t_readPage t_tape t_cuts t_letters t_queue t_busyTo t_servedIn t_waysOn t_costOn t_aheads t_seen t_isKept t_lanes t_lengths t_cells) o.1 := by
  refine mtI.of (cc := cX9_counters) (maxL := 3) (ret := (some .int)) (by decide) rfl (Nat.le_of_ble_eq_true rfl) ?_
  intro p e s m below meth c A Q av hav hQ hx hb hr hml hown hts hlocks hK hP hD hA hS ls hl
  have hown : s.vm.findClass RX9 = some m.cls := hown
  have hl : lv_has ls 3 [(0, .ref qt), (1, .int p1)] := hl
  unfold Mod_counters at hM
  have inX9w : ∀ w ∈ u_ws RX9 TX9 34, w ∈ wsX9_counters := by decide +kernel
  have hfc169 := hts (.constantLong RX9 169 2) (by decide +kernel)
  have hf7 := hts (.fieldLink RX9 7 "LetsInModel" "state" "[I") (by decide +kernel)
  refine lv_iload_n hx hb dX9_counters_0 rfl (lv_at hl 1 rfl) ?_
  refine lv_i2l hx hb dX9_counters_1 rfl ?_
  refine lv_lconst (v := 1) hx hb dX9_counters_2 (by decide) ?_
  refine lv_ldc2 (v := 2) hx hb hown hfc169 dX9_counters_3 ?_
  obtain ⟨o_1, hc, hM⟩ := bind_so hM
  refine mr_callSi (As := [.long p1.toInt64, .long 1, .long 2]) (rest := []) ⟨hx, hb, hml, hown, hts⟩ (k_Mod_in l D cI cB cZ cS cT   p1.toInt64 1 2 _ hc) (cwS 3 hts gX9_counters_X9_in rfl rfl rfl (by decide +kernel) ⟨Nat.le_of_ble_eq_true rfl, Nat.le_of_ble_eq_true rfl⟩) hK hP hD hS hA rfl hl.1 rfl (Nat.le_of_ble_eq_true rfl) dX9_counters_6 ⟨Nat.zero_le _, Nat.zero_le _⟩ (fun H locs hP hS => ?_)
  refine mr_if_ne (tgt := 14) hx hb hM dX9_counters_9 (by decide) (fun hM => ?_) (fun hM => ?_)
  · refine lv_iconst (v := 1) hx hb dX9_counters_14 (by decide) ?_
    refine lv_aload_n hx hb dX9_counters_15 rfl (lv_at hl 0 rfl) ?_
    refine va_get (D := D) (ci := 9) (v := .ref qt_state) (C := RX9) (T := TX9) (N := 34) hx hb hts inX9w hown hK hP 0 rfl rfl 0 (by decide) hf7 (fun _ h9 => h9) rfl dX9_counters_16 ?_
    refine lv_bipush (v := 92) hx hb dX9_counters_19 (by decide) ?_
    refine mr_iald hx hb hK hP 1 0 rfl rfl hM dX9_counters_21 (fun v_2 hM => ?_)
    refine lv_iadd hx hb dX9_counters_22 ?_
    refine mr_nmI hM (fun x2_3 hM => ?_)
    refine lv_istore_n (lv' := [(2, .int x2_3), (0, .ref qt), (1, .int p1)]) hx hb dX9_counters_23 rfl hl (by decide) rfl (fun ls hl => ?_)
    refine lv_aload_n hx hb dX9_counters_24 rfl (lv_at hl 1 rfl) ?_
    refine va_get (D := D) (ci := 9) (v := .ref qt_state) (C := RX9) (T := TX9) (N := 34) hx hb hts inX9w hown hK hP 0 rfl rfl 0 (by decide) hf7 (fun _ h9 => h9) rfl dX9_counters_25 ?_
    refine lv_bipush (v := 92) hx hb dX9_counters_28 (by decide) ?_
    refine lv_iload_n hx hb dX9_counters_30 rfl (lv_at hl 2 rfl) ?_
    refine lv_iconst (v := 1) hx hb dX9_counters_31 (by decide) ?_
    refine lv_isub hx hb dX9_counters_32 ?_
    refine mr_iast hx hb hK hP hD hS 1 0 (fun t_state_4 => (w_Mod cI cB cZ cS cT qt qt_state qt_readPage qt_tape qt_cuts qt_letters qt_queue qt_busyTo qt_servedIn qt_waysOn qt_costOn qt_aheads qt_seen qt_isKept qt_lanes qt_lengths qt_cells t_hasLaw t_hasCounters t_highest t_taped t_fault t_broken t_brokenAt t_spot t_here t_token t_value t_queued t_payed t_bestWait t_bestWhom t_bestCoins t_seenMany t_torn t_state_4 t_readPage t_tape t_cuts t_letters t_queue t_busyTo t_servedIn t_waysOn t_costOn t_aheads t_seen t_isKept t_lanes t_lengths t_cells)) rfl rfl (fun _ => rfl) hM dX9_counters_33 (fun t_state_4 hM H locs hP hD hS => ?_)
    refine lv_iload_n hx hb dX9_counters_34 rfl (lv_at hl 0 rfl) ?_
    have hM := Option.some.inj hM
    subst hM
    exact mr_iret hx hb hr hlocks hQ hP hD hS rfl dX9_counters_35
  · refine lv_iconst (v := (-1)) hx hb dX9_counters_12 (by decide) ?_
    have hM := Option.some.inj hM
    subst hM
    exact mr_iret hx hb hr hlocks hQ hP hD hS rfl dX9_counters_13

abbrev rmX9_comes : Room := { frames := 2, cells := 0, slots := 0, locals := 46 }
set_option maxHeartbeats 40000000 in
set_option maxRecDepth 100000 in
theorem k_Mod_comes (l : Launch) (D : va_G) (cI cB cZ cS cT : ClassId) (qt qt_state qt_readPage qt_tape qt_cuts qt_letters qt_queue qt_busyTo qt_servedIn qt_waysOn qt_costOn qt_aheads qt_seen qt_isKept qt_lanes qt_lengths qt_cells : Nat) (t_hasLaw t_hasCounters t_highest t_taped t_fault t_broken t_brokenAt t_spot t_here t_token t_value t_queued t_payed t_bestWait t_bestWhom t_bestCoins t_seenMany t_torn : Int32) (t_state t_readPage t_tape t_cuts t_letters t_queue t_busyTo t_servedIn t_waysOn t_costOn t_aheads t_seen t_isKept t_lanes t_lengths t_cells : Nat → Int32) (p1 p2 : Int32) (o : Int32 × (Nat → Int32)) (hM : Mod_comes p1 p2 t_state = some o) : mtI l yX9_comes wsX9_comes rmX9_comes D (tys5 cI cB cZ cS cT) [.ref qt, .int p1, .int p2] (w_Mod cI cB cZ cS cT qt qt_state qt_readPage qt_tape qt_cuts qt_letters qt_queue qt_busyTo qt_servedIn qt_waysOn qt_costOn qt_aheads qt_seen qt_isKept qt_lanes qt_lengths qt_cells t_hasLaw t_hasCounters t_highest t_taped t_fault t_broken t_brokenAt t_spot t_here t_token t_value t_queued t_payed t_bestWait t_bestWhom t_bestCoins t_seenMany t_torn t_state t_readPage t_tape t_cuts t_letters t_queue t_busyTo t_servedIn t_waysOn t_costOn t_aheads t_seen t_isKept t_lanes t_lengths t_cells) (w_Mod cI cB cZ cS cT qt qt_state qt_readPage qt_tape qt_cuts qt_letters qt_queue qt_busyTo qt_servedIn qt_waysOn qt_costOn qt_aheads qt_seen qt_isKept qt_lanes qt_lengths qt_cells t_hasLaw t_hasCounters t_highest t_taped t_fault t_broken t_brokenAt t_spot t_here t_token t_value t_queued t_payed t_bestWait t_bestWhom t_bestCoins t_seenMany t_torn o.2 t_readPage t_tape t_cuts t_letters t_queue t_busyTo t_servedIn t_waysOn t_costOn t_aheads t_seen t_isKept t_lanes t_lengths t_cells) o.1 := by
  refine mtI.of (cc := cX9_comes) (maxL := 4) (ret := (some .int)) (by decide) rfl (Nat.le_of_ble_eq_true rfl) ?_
  intro p e s m below meth c A Q av hav hQ hx hb hr hml hown hts hlocks hK hP hD hA hS ls hl
  have hown : s.vm.findClass RX9 = some m.cls := hown
  have hl : lv_has ls 4 [(0, .ref qt), (1, .int p1), (2, .int p2)] := hl
  unfold Mod_comes at hM
  have inX9w : ∀ w ∈ u_ws RX9 TX9 34, w ∈ wsX9_comes := by decide +kernel
  have hfc171 := hts (.constantLong RX9 171 60) (by decide +kernel)
  have hf7 := hts (.fieldLink RX9 7 "LetsInModel" "state" "[I") (by decide +kernel)
  refine lv_aload_n hx hb dX9_comes_0 rfl (lv_at hl 0 rfl) ?_
  refine lv_iload_n hx hb dX9_comes_1 rfl (lv_at hl 1 rfl) ?_
  obtain ⟨o_1, hc, hM⟩ := bind_so hM
  refine mr_callVi (As := [.int p1]) (rest := []) (wr := []) ⟨hx, hb, hml, hown, hts⟩ (k_Mod_isOne l D cI cB cZ cS cT qt qt_state qt_readPage qt_tape qt_cuts qt_letters qt_queue qt_busyTo qt_servedIn qt_waysOn qt_costOn qt_aheads qt_seen qt_isKept qt_lanes qt_lengths qt_cells t_hasLaw t_hasCounters t_highest t_taped t_fault t_broken t_brokenAt t_spot t_here t_token t_value t_queued t_payed t_bestWait t_bestWhom t_bestCoins t_seenMany t_torn t_state t_readPage t_tape t_cuts t_letters t_queue t_busyTo t_servedIn t_waysOn t_costOn t_aheads t_seen t_isKept t_lanes t_lengths t_cells p1 _ hc) (cwV 1 hts gX9_comes_X9_isOne rfl rfl rfl (by decide +kernel) ⟨Nat.le_of_ble_eq_true rfl, Nat.le_of_ble_eq_true rfl⟩) hK hP hD hS hA [0, 1, 2, 3, 4, 5, 6, 7, 8, 9, 10, 11, 12, 13, 14, 15, 16] [] [0, 1, 2, 3, 4, 5, 6, 7, 8, 9, 10, 11, 12, 13, 14, 15, 16] (w_Mod cI cB cZ cS cT qt qt_state qt_readPage qt_tape qt_cuts qt_letters qt_queue qt_busyTo qt_servedIn qt_waysOn qt_costOn qt_aheads qt_seen qt_isKept qt_lanes qt_lengths qt_cells t_hasLaw t_hasCounters t_highest t_taped t_fault t_broken t_brokenAt t_spot t_here t_token t_value t_queued t_payed t_bestWait t_bestWhom t_bestCoins t_seenMany t_torn t_state t_readPage t_tape t_cuts t_letters t_queue t_busyTo t_servedIn t_waysOn t_costOn t_aheads t_seen t_isKept t_lanes t_lengths t_cells) rfl rfl rfl rfl (by decide) rfl rfl 9 0 rfl rfl rfl rfl hl.1 rfl (Nat.le_of_ble_eq_true rfl) dX9_comes_2 ⟨Nat.zero_le _, Nat.zero_le _⟩ (fun H locs hP hD hS => ?_)
  refine mr_if_eq (tgt := 20) hx hb hM dX9_comes_5 (by decide) (fun hM => ?_) (fun hM => ?_)
  · refine lv_iconst (v := (-1)) hx hb dX9_comes_20 (by decide) ?_
    have hM := Option.some.inj hM
    subst hM
    exact mr_iret hx hb hr hlocks hQ hP hD hS rfl dX9_comes_21
  · refine lv_iload_n hx hb dX9_comes_8 rfl (lv_at hl 2 rfl) ?_
    refine lv_i2l hx hb dX9_comes_9 rfl ?_
    refine lv_lconst (v := 0) hx hb dX9_comes_10 (by decide) ?_
    refine lv_ldc2 (v := 60) hx hb hown hfc171 dX9_comes_11 ?_
    obtain ⟨o_2, hc, hM⟩ := bind_so hM
    refine mr_callSi (As := [.long p2.toInt64, .long 0, .long 60]) (rest := []) ⟨hx, hb, hml, hown, hts⟩ (k_Mod_in l D cI cB cZ cS cT   p2.toInt64 0 60 _ hc) (cwS 3 hts gX9_comes_X9_in rfl rfl rfl (by decide +kernel) ⟨Nat.le_of_ble_eq_true rfl, Nat.le_of_ble_eq_true rfl⟩) hK hP hD hS hA rfl hl.1 rfl (Nat.le_of_ble_eq_true rfl) dX9_comes_14 ⟨Nat.zero_le _, Nat.zero_le _⟩ (fun H locs hP hS => ?_)
    refine mr_if_ne (tgt := 22) hx hb hM dX9_comes_17 (by decide) (fun hM => ?_) (fun hM => ?_)
    · refine lv_aload_n hx hb dX9_comes_22 rfl (lv_at hl 0 rfl) ?_
      refine va_get (D := D) (ci := 9) (v := .ref qt_state) (C := RX9) (T := TX9) (N := 34) hx hb hts inX9w hown hK hP 0 rfl rfl 0 (by decide) hf7 (fun _ h9 => h9) rfl dX9_comes_23 ?_
      refine lv_bipush (v := 6) hx hb dX9_comes_26 (by decide) ?_
      refine lv_iload_n hx hb dX9_comes_28 rfl (lv_at hl 1 rfl) ?_
      refine lv_imul hx hb dX9_comes_29 ?_
      refine lv_iconst (v := 1) hx hb dX9_comes_30 (by decide) ?_
      refine lv_iadd hx hb dX9_comes_31 ?_
      refine mr_iald hx hb hK hP 1 0 rfl rfl hM dX9_comes_32 (fun v_3 hM => ?_)
      refine lv_istore_n (lv' := [(3, .int v_3), (0, .ref qt), (1, .int p1), (2, .int p2)]) hx hb dX9_comes_33 rfl hl (by decide) rfl (fun ls hl => ?_)
      refine lv_aload_n hx hb dX9_comes_34 rfl (lv_at hl 1 rfl) ?_
      refine va_get (D := D) (ci := 9) (v := .ref qt_state) (C := RX9) (T := TX9) (N := 34) hx hb hts inX9w hown hK hP 0 rfl rfl 0 (by decide) hf7 (fun _ h9 => h9) rfl dX9_comes_35 ?_
      refine lv_bipush (v := 6) hx hb dX9_comes_38 (by decide) ?_
      refine lv_iload_n hx hb dX9_comes_40 rfl (lv_at hl 2 rfl) ?_
      refine lv_imul hx hb dX9_comes_41 ?_
      refine lv_iconst (v := 1) hx hb dX9_comes_42 (by decide) ?_
      refine lv_iadd hx hb dX9_comes_43 ?_
      refine lv_iload_n hx hb dX9_comes_44 rfl (lv_at hl 3 rfl) ?_
      refine mr_iast hx hb hK hP hD hS 1 0 (fun t_state_4 => (w_Mod cI cB cZ cS cT qt qt_state qt_readPage qt_tape qt_cuts qt_letters qt_queue qt_busyTo qt_servedIn qt_waysOn qt_costOn qt_aheads qt_seen qt_isKept qt_lanes qt_lengths qt_cells t_hasLaw t_hasCounters t_highest t_taped t_fault t_broken t_brokenAt t_spot t_here t_token t_value t_queued t_payed t_bestWait t_bestWhom t_bestCoins t_seenMany t_torn t_state_4 t_readPage t_tape t_cuts t_letters t_queue t_busyTo t_servedIn t_waysOn t_costOn t_aheads t_seen t_isKept t_lanes t_lengths t_cells)) rfl rfl (fun _ => rfl) hM dX9_comes_45 (fun t_state_4 hM H locs hP hD hS => ?_)
      refine lv_iload_n hx hb dX9_comes_46 rfl (lv_at hl 0 rfl) ?_
      have hM := Option.some.inj hM
      subst hM
      exact mr_iret hx hb hr hlocks hQ hP hD hS rfl dX9_comes_47
    · refine lv_iconst (v := (-1)) hx hb dX9_comes_20 (by decide) ?_
      have hM := Option.some.inj hM
      subst hM
      exact mr_iret hx hb hr hlocks hQ hP hD hS rfl dX9_comes_21

abbrev rmX9_debts : Room := { frames := 3, cells := 0, slots := 0, locals := 68 }
set_option maxHeartbeats 40000000 in
set_option maxRecDepth 100000 in
theorem k_Mod_debts (l : Launch) (D : va_G) (cI cB cZ cS cT : ClassId) (qt qt_state qt_readPage qt_tape qt_cuts qt_letters qt_queue qt_busyTo qt_servedIn qt_waysOn qt_costOn qt_aheads qt_seen qt_isKept qt_lanes qt_lengths qt_cells : Nat) (t_hasLaw t_hasCounters t_highest t_taped t_fault t_broken t_brokenAt t_spot t_here t_token t_value t_queued t_payed t_bestWait t_bestWhom t_bestCoins t_seenMany t_torn : Int32) (t_state t_readPage t_tape t_cuts t_letters t_queue t_busyTo t_servedIn t_waysOn t_costOn t_aheads t_seen t_isKept t_lanes t_lengths t_cells : Nat → Int32) (p1 p2 p3 : Int32) (o : Int32 × (Nat → Int32)) (hM : Mod_debts p1 p2 p3 t_state = some o) : mtI l yX9_debts wsX9_debts rmX9_debts D (tys5 cI cB cZ cS cT) [.ref qt, .int p1, .int p2, .int p3] (w_Mod cI cB cZ cS cT qt qt_state qt_readPage qt_tape qt_cuts qt_letters qt_queue qt_busyTo qt_servedIn qt_waysOn qt_costOn qt_aheads qt_seen qt_isKept qt_lanes qt_lengths qt_cells t_hasLaw t_hasCounters t_highest t_taped t_fault t_broken t_brokenAt t_spot t_here t_token t_value t_queued t_payed t_bestWait t_bestWhom t_bestCoins t_seenMany t_torn t_state t_readPage t_tape t_cuts t_letters t_queue t_busyTo t_servedIn t_waysOn t_costOn t_aheads t_seen t_isKept t_lanes t_lengths t_cells) (w_Mod cI cB cZ cS cT qt qt_state qt_readPage qt_tape qt_cuts qt_letters qt_queue qt_busyTo qt_servedIn qt_waysOn qt_costOn qt_aheads qt_seen qt_isKept qt_lanes qt_lengths qt_cells t_hasLaw t_hasCounters t_highest t_taped t_fault t_broken t_brokenAt t_spot t_here t_token t_value t_queued t_payed t_bestWait t_bestWhom t_bestCoins t_seenMany t_torn o.2 t_readPage t_tape t_cuts t_letters t_queue t_busyTo t_servedIn t_waysOn t_costOn t_aheads t_seen t_isKept t_lanes t_lengths t_cells) o.1 := by
  refine mtI.of (cc := cX9_debts) (maxL := 5) (ret := (some .int)) (by decide) rfl (Nat.le_of_ble_eq_true rfl) ?_
  intro p e s m below meth c A Q av hav hQ hx hb hr hml hown hts hlocks hK hP hD hA hS ls hl
  have hown : s.vm.findClass RX9 = some m.cls := hown
  have hl : lv_has ls 5 [(0, .ref qt), (1, .int p1), (2, .int p2), (3, .int p3)] := hl
  unfold Mod_debts at hM
  have inX9w : ∀ w ∈ u_ws RX9 TX9 34, w ∈ wsX9_debts := by decide +kernel
  have hfc173 := hts (.constantLong RX9 173 99) (by decide +kernel)
  have hf7 := hts (.fieldLink RX9 7 "LetsInModel" "state" "[I") (by decide +kernel)
  refine lv_aload_n hx hb dX9_debts_0 rfl (lv_at hl 0 rfl) ?_
  refine lv_iload_n hx hb dX9_debts_1 rfl (lv_at hl 1 rfl) ?_
  refine lv_iload_n hx hb dX9_debts_2 rfl (lv_at hl 2 rfl) ?_
  obtain ⟨o_1, hc, hM⟩ := bind_so hM
  refine mr_callVi (As := [.int p1, .int p2]) (rest := []) (wr := []) ⟨hx, hb, hml, hown, hts⟩ (k_Mod_areTwo l D cI cB cZ cS cT qt qt_state qt_readPage qt_tape qt_cuts qt_letters qt_queue qt_busyTo qt_servedIn qt_waysOn qt_costOn qt_aheads qt_seen qt_isKept qt_lanes qt_lengths qt_cells t_hasLaw t_hasCounters t_highest t_taped t_fault t_broken t_brokenAt t_spot t_here t_token t_value t_queued t_payed t_bestWait t_bestWhom t_bestCoins t_seenMany t_torn t_state t_readPage t_tape t_cuts t_letters t_queue t_busyTo t_servedIn t_waysOn t_costOn t_aheads t_seen t_isKept t_lanes t_lengths t_cells p1 p2 _ hc) (cwV 2 hts gX9_debts_X9_areTwo rfl rfl rfl (by decide +kernel) ⟨Nat.le_of_ble_eq_true rfl, Nat.le_of_ble_eq_true rfl⟩) hK hP hD hS hA [0, 1, 2, 3, 4, 5, 6, 7, 8, 9, 10, 11, 12, 13, 14, 15, 16] [] [0, 1, 2, 3, 4, 5, 6, 7, 8, 9, 10, 11, 12, 13, 14, 15, 16] (w_Mod cI cB cZ cS cT qt qt_state qt_readPage qt_tape qt_cuts qt_letters qt_queue qt_busyTo qt_servedIn qt_waysOn qt_costOn qt_aheads qt_seen qt_isKept qt_lanes qt_lengths qt_cells t_hasLaw t_hasCounters t_highest t_taped t_fault t_broken t_brokenAt t_spot t_here t_token t_value t_queued t_payed t_bestWait t_bestWhom t_bestCoins t_seenMany t_torn t_state t_readPage t_tape t_cuts t_letters t_queue t_busyTo t_servedIn t_waysOn t_costOn t_aheads t_seen t_isKept t_lanes t_lengths t_cells) rfl rfl rfl rfl (by decide) rfl rfl 9 0 rfl rfl rfl rfl hl.1 rfl (Nat.le_of_ble_eq_true rfl) dX9_debts_3 ⟨Nat.zero_le _, Nat.zero_le _⟩ (fun H locs hP hD hS => ?_)
  refine mr_if_eq (tgt := 21) hx hb hM dX9_debts_6 (by decide) (fun hM => ?_) (fun hM => ?_)
  · refine lv_iconst (v := (-1)) hx hb dX9_debts_21 (by decide) ?_
    have hM := Option.some.inj hM
    subst hM
    exact mr_iret hx hb hr hlocks hQ hP hD hS rfl dX9_debts_22
  · refine lv_iload_n hx hb dX9_debts_9 rfl (lv_at hl 3 rfl) ?_
    refine lv_i2l hx hb dX9_debts_10 rfl ?_
    refine lv_lconst (v := 0) hx hb dX9_debts_11 (by decide) ?_
    refine lv_ldc2 (v := 99) hx hb hown hfc173 dX9_debts_12 ?_
    obtain ⟨o_2, hc, hM⟩ := bind_so hM
    refine mr_callSi (As := [.long p3.toInt64, .long 0, .long 99]) (rest := []) ⟨hx, hb, hml, hown, hts⟩ (k_Mod_in l D cI cB cZ cS cT   p3.toInt64 0 99 _ hc) (cwS 3 hts gX9_debts_X9_in rfl rfl rfl (by decide +kernel) ⟨Nat.le_of_ble_eq_true rfl, Nat.le_of_ble_eq_true rfl⟩) hK hP hD hS hA rfl hl.1 rfl (Nat.le_of_ble_eq_true rfl) dX9_debts_15 ⟨Nat.zero_le _, Nat.zero_le _⟩ (fun H locs hP hS => ?_)
    refine mr_if_ne (tgt := 23) hx hb hM dX9_debts_18 (by decide) (fun hM => ?_) (fun hM => ?_)
    · refine lv_aload_n hx hb dX9_debts_23 rfl (lv_at hl 0 rfl) ?_
      refine va_get (D := D) (ci := 9) (v := .ref qt_state) (C := RX9) (T := TX9) (N := 34) hx hb hts inX9w hown hK hP 0 rfl rfl 0 (by decide) hf7 (fun _ h9 => h9) rfl dX9_debts_24 ?_
      refine lv_iload_n hx hb dX9_debts_27 rfl (lv_at hl 1 rfl) ?_
      refine lv_iload_n hx hb dX9_debts_28 rfl (lv_at hl 2 rfl) ?_
      obtain ⟨o_3, hc, hM⟩ := bind_so hM
      refine mr_callSi (As := [.int p1, .int p2]) (rest := [.ref qt_state]) ⟨hx, hb, hml, hown, hts⟩ (k_Mod_debtAt l D cI cB cZ cS cT   p1 p2 _ hc) (cwS 2 hts gX9_debts_X9_debtAt rfl rfl rfl (by decide +kernel) ⟨Nat.le_of_ble_eq_true rfl, Nat.le_of_ble_eq_true rfl⟩) hK hP hD hS hA rfl hl.1 rfl (Nat.le_of_ble_eq_true rfl) dX9_debts_29 ⟨Nat.zero_le _, Nat.zero_le _⟩ (fun H locs hP hS => ?_)
      refine mr_iald hx hb hK hP 1 0 rfl rfl hM dX9_debts_32 (fun v_4 hM => ?_)
      refine lv_istore (lv' := [(4, .int v_4), (0, .ref qt), (1, .int p1), (2, .int p2), (3, .int p3)]) hx hb dX9_debts_33 hl (by decide) rfl (fun ls hl => ?_)
      refine lv_aload_n hx hb dX9_debts_35 rfl (lv_at hl 1 rfl) ?_
      refine va_get (D := D) (ci := 9) (v := .ref qt_state) (C := RX9) (T := TX9) (N := 34) hx hb hts inX9w hown hK hP 0 rfl rfl 0 (by decide) hf7 (fun _ h9 => h9) rfl dX9_debts_36 ?_
      refine lv_iload_n hx hb dX9_debts_39 rfl (lv_at hl 2 rfl) ?_
      refine lv_iload_n hx hb dX9_debts_40 rfl (lv_at hl 3 rfl) ?_
      obtain ⟨o_5, hc, hM⟩ := bind_so hM
      refine mr_callSi (As := [.int p1, .int p2]) (rest := [.ref qt_state]) ⟨hx, hb, hml, hown, hts⟩ (k_Mod_debtAt l D cI cB cZ cS cT   p1 p2 _ hc) (cwS 2 hts gX9_debts_X9_debtAt rfl rfl rfl (by decide +kernel) ⟨Nat.le_of_ble_eq_true rfl, Nat.le_of_ble_eq_true rfl⟩) hK hP hD hS hA rfl hl.1 rfl (Nat.le_of_ble_eq_true rfl) dX9_debts_41 ⟨Nat.zero_le _, Nat.zero_le _⟩ (fun H locs hP hS => ?_)
      refine lv_iload_n hx hb dX9_debts_44 rfl (lv_at hl 4 rfl) ?_
      refine mr_iast hx hb hK hP hD hS 1 0 (fun t_state_6 => (w_Mod cI cB cZ cS cT qt qt_state qt_readPage qt_tape qt_cuts qt_letters qt_queue qt_busyTo qt_servedIn qt_waysOn qt_costOn qt_aheads qt_seen qt_isKept qt_lanes qt_lengths qt_cells t_hasLaw t_hasCounters t_highest t_taped t_fault t_broken t_brokenAt t_spot t_here t_token t_value t_queued t_payed t_bestWait t_bestWhom t_bestCoins t_seenMany t_torn t_state_6 t_readPage t_tape t_cuts t_letters t_queue t_busyTo t_servedIn t_waysOn t_costOn t_aheads t_seen t_isKept t_lanes t_lengths t_cells)) rfl rfl (fun _ => rfl) hM dX9_debts_45 (fun t_state_6 hM H locs hP hD hS => ?_)
      refine lv_iload hx hb dX9_debts_46 (lv_at hl 0 rfl) ?_
      have hM := Option.some.inj hM
      subst hM
      exact mr_iret hx hb hr hlocks hQ hP hD hS rfl dX9_debts_48
    · refine lv_iconst (v := (-1)) hx hb dX9_debts_21 (by decide) ?_
      have hM := Option.some.inj hM
      subst hM
      exact mr_iret hx hb hr hlocks hQ hP hD hS rfl dX9_debts_22

abbrev rmX9_debt : Room := { frames := 4, cells := 0, slots := 0, locals := 92 }
set_option maxHeartbeats 40000000 in
set_option maxRecDepth 100000 in
theorem k_Mod_debt (l : Launch) (D : va_G) (cI cB cZ cS cT : ClassId) (qt qt_state qt_readPage qt_tape qt_cuts qt_letters qt_queue qt_busyTo qt_servedIn qt_waysOn qt_costOn qt_aheads qt_seen qt_isKept qt_lanes qt_lengths qt_cells : Nat) (t_hasLaw t_hasCounters t_highest t_taped t_fault t_broken t_brokenAt t_spot t_here t_token t_value t_queued t_payed t_bestWait t_bestWhom t_bestCoins t_seenMany t_torn : Int32) (t_state t_readPage t_tape t_cuts t_letters t_queue t_busyTo t_servedIn t_waysOn t_costOn t_aheads t_seen t_isKept t_lanes t_lengths t_cells : Nat → Int32) (p1 p2 p3 : Int32) (o : Int32 × (Nat → Int32)) (hM : Mod_debt p1 p2 p3 t_state = some o) : mtI l yX9_debt wsX9_debt rmX9_debt D (tys5 cI cB cZ cS cT) [.ref qt, .int p1, .int p2, .int p3] (w_Mod cI cB cZ cS cT qt qt_state qt_readPage qt_tape qt_cuts qt_letters qt_queue qt_busyTo qt_servedIn qt_waysOn qt_costOn qt_aheads qt_seen qt_isKept qt_lanes qt_lengths qt_cells t_hasLaw t_hasCounters t_highest t_taped t_fault t_broken t_brokenAt t_spot t_here t_token t_value t_queued t_payed t_bestWait t_bestWhom t_bestCoins t_seenMany t_torn t_state t_readPage t_tape t_cuts t_letters t_queue t_busyTo t_servedIn t_waysOn t_costOn t_aheads t_seen t_isKept t_lanes t_lengths t_cells) (w_Mod cI cB cZ cS cT qt qt_state qt_readPage qt_tape qt_cuts qt_letters qt_queue qt_busyTo qt_servedIn qt_waysOn qt_costOn qt_aheads qt_seen qt_isKept qt_lanes qt_lengths qt_cells t_hasLaw t_hasCounters t_highest t_taped t_fault t_broken t_brokenAt t_spot t_here t_token t_value t_queued t_payed t_bestWait t_bestWhom t_bestCoins t_seenMany t_torn o.2 t_readPage t_tape t_cuts t_letters t_queue t_busyTo t_servedIn t_waysOn t_costOn t_aheads t_seen t_isKept t_lanes t_lengths t_cells) o.1 := by
  refine mtI.of (cc := cX9_debt) (maxL := 4) (ret := (some .int)) (by decide) rfl (Nat.le_of_ble_eq_true rfl) ?_
  intro p e s m below meth c A Q av hav hQ hx hb hr hml hown hts hlocks hK hP hD hA hS ls hl
  have hown : s.vm.findClass RX9 = some m.cls := hown
  have hl : lv_has ls 4 [(0, .ref qt), (1, .int p1), (2, .int p2), (3, .int p3)] := hl
  unfold Mod_debt at hM
  refine lv_aload_n hx hb dX9_debt_0 rfl (lv_at hl 0 rfl) ?_
  refine lv_iload_n hx hb dX9_debt_1 rfl (lv_at hl 1 rfl) ?_
  refine lv_iload_n hx hb dX9_debt_2 rfl (lv_at hl 2 rfl) ?_
  refine lv_iload_n hx hb dX9_debt_3 rfl (lv_at hl 3 rfl) ?_
  obtain ⟨o_1, hc, hM⟩ := bind_so hM
  refine mr_callVi (As := [.int p1, .int p2, .int p3]) (rest := []) (wr := []) ⟨hx, hb, hml, hown, hts⟩ (k_Mod_debts l D cI cB cZ cS cT qt qt_state qt_readPage qt_tape qt_cuts qt_letters qt_queue qt_busyTo qt_servedIn qt_waysOn qt_costOn qt_aheads qt_seen qt_isKept qt_lanes qt_lengths qt_cells t_hasLaw t_hasCounters t_highest t_taped t_fault t_broken t_brokenAt t_spot t_here t_token t_value t_queued t_payed t_bestWait t_bestWhom t_bestCoins t_seenMany t_torn t_state t_readPage t_tape t_cuts t_letters t_queue t_busyTo t_servedIn t_waysOn t_costOn t_aheads t_seen t_isKept t_lanes t_lengths t_cells p1 p2 p3 _ hc) (cwV 3 hts gX9_debt_X9_debts rfl rfl rfl (by decide +kernel) ⟨Nat.le_of_ble_eq_true rfl, Nat.le_of_ble_eq_true rfl⟩) hK hP hD hS hA [0, 1, 2, 3, 4, 5, 6, 7, 8, 9, 10, 11, 12, 13, 14, 15, 16] [] [0, 1, 2, 3, 4, 5, 6, 7, 8, 9, 10, 11, 12, 13, 14, 15, 16] (w_Mod cI cB cZ cS cT qt qt_state qt_readPage qt_tape qt_cuts qt_letters qt_queue qt_busyTo qt_servedIn qt_waysOn qt_costOn qt_aheads qt_seen qt_isKept qt_lanes qt_lengths qt_cells t_hasLaw t_hasCounters t_highest t_taped t_fault t_broken t_brokenAt t_spot t_here t_token t_value t_queued t_payed t_bestWait t_bestWhom t_bestCoins t_seenMany t_torn o_1.2 t_readPage t_tape t_cuts t_letters t_queue t_busyTo t_servedIn t_waysOn t_costOn t_aheads t_seen t_isKept t_lanes t_lengths t_cells) rfl rfl rfl rfl (by decide) rfl rfl 9 0 rfl rfl rfl rfl hl.1 rfl (Nat.le_of_ble_eq_true rfl) dX9_debt_4 ⟨Nat.zero_le _, Nat.zero_le _⟩ (fun H locs hP hD hS => ?_)
  have hM := Option.some.inj hM
  subst hM
  exact mr_iret hx hb hr hlocks hQ hP hD hS rfl dX9_debt_7

abbrev rmX9_gives : Room := { frames := 0, cells := 0, slots := 0, locals := 0 }
set_option maxHeartbeats 40000000 in
set_option maxRecDepth 100000 in
theorem k_Mod_gives (l : Launch) (D : va_G) (cI cB cZ cS cT : ClassId) (qt qt_state qt_readPage qt_tape qt_cuts qt_letters qt_queue qt_busyTo qt_servedIn qt_waysOn qt_costOn qt_aheads qt_seen qt_isKept qt_lanes qt_lengths qt_cells : Nat) (t_hasLaw t_hasCounters t_highest t_taped t_fault t_broken t_brokenAt t_spot t_here t_token t_value t_queued t_payed t_bestWait t_bestWhom t_bestCoins t_seenMany t_torn : Int32) (t_state t_readPage t_tape t_cuts t_letters t_queue t_busyTo t_servedIn t_waysOn t_costOn t_aheads t_seen t_isKept t_lanes t_lengths t_cells : Nat → Int32) (p1 p2 p3 p4 : Int32) (o : (Nat → Int32)) (hM : Mod_gives p1 p2 p3 p4 t_state = some o) : mtV l yX9_gives wsX9_gives rmX9_gives D (tys5 cI cB cZ cS cT) [.ref qt, .int p1, .int p2, .int p3, .int p4] (w_Mod cI cB cZ cS cT qt qt_state qt_readPage qt_tape qt_cuts qt_letters qt_queue qt_busyTo qt_servedIn qt_waysOn qt_costOn qt_aheads qt_seen qt_isKept qt_lanes qt_lengths qt_cells t_hasLaw t_hasCounters t_highest t_taped t_fault t_broken t_brokenAt t_spot t_here t_token t_value t_queued t_payed t_bestWait t_bestWhom t_bestCoins t_seenMany t_torn t_state t_readPage t_tape t_cuts t_letters t_queue t_busyTo t_servedIn t_waysOn t_costOn t_aheads t_seen t_isKept t_lanes t_lengths t_cells) (w_Mod cI cB cZ cS cT qt qt_state qt_readPage qt_tape qt_cuts qt_letters qt_queue qt_busyTo qt_servedIn qt_waysOn qt_costOn qt_aheads qt_seen qt_isKept qt_lanes qt_lengths qt_cells t_hasLaw t_hasCounters t_highest t_taped t_fault t_broken t_brokenAt t_spot t_here t_token t_value t_queued t_payed t_bestWait t_bestWhom t_bestCoins t_seenMany t_torn o t_readPage t_tape t_cuts t_letters t_queue t_busyTo t_servedIn t_waysOn t_costOn t_aheads t_seen t_isKept t_lanes t_lengths t_cells) := by
  refine mtV.of (cc := cX9_gives) (maxL := 5) (ret := none) (by decide) rfl (Nat.le_of_ble_eq_true rfl) ?_
  intro p e s m below meth c A Q av hav hQ hx hb hr hml hown hts hlocks hK hP hD hA hS ls hl
  have hown : s.vm.findClass RX9 = some m.cls := hown
  have hl : lv_has ls 5 [(0, .ref qt), (1, .int p1), (2, .int p2), (3, .int p3), (4, .int p4)] := hl
  unfold Mod_gives at hM
  have inX9w : ∀ w ∈ u_ws RX9 TX9 34, w ∈ wsX9_gives := by decide +kernel
  have hf7 := hts (.fieldLink RX9 7 "LetsInModel" "state" "[I") (by decide +kernel)
  refine lv_aload_n hx hb dX9_gives_0 rfl (lv_at hl 0 rfl) ?_
  refine va_get (D := D) (ci := 9) (v := .ref qt_state) (C := RX9) (T := TX9) (N := 34) hx hb hts inX9w hown hK hP 0 rfl rfl 0 (by decide) hf7 (fun _ h9 => h9) rfl dX9_gives_1 ?_
  refine lv_iload_n hx hb dX9_gives_4 rfl (lv_at hl 1 rfl) ?_
  refine lv_bipush (v := 6) hx hb dX9_gives_5 (by decide) ?_
  refine lv_iload_n hx hb dX9_gives_7 rfl (lv_at hl 2 rfl) ?_
  refine lv_imul hx hb dX9_gives_8 ?_
  refine lv_iadd hx hb dX9_gives_9 ?_
  refine lv_iconst (v := 4) hx hb dX9_gives_10 (by decide) ?_
  refine lv_iadd hx hb dX9_gives_11 ?_
  refine mr_nmI hM (fun v_1 hM => ?_)
  refine lv_dup2_11 hx hb dX9_gives_12 rfl rfl ?_
  refine mr_iald hx hb hK hP 1 0 rfl rfl hM dX9_gives_13 (fun v_2 hM => ?_)
  refine lv_iload hx hb dX9_gives_14 (lv_at hl 4 rfl) ?_
  refine lv_isub hx hb dX9_gives_16 ?_
  refine mr_iast hx hb hK hP hD hS 1 0 (fun t_state_3 => (w_Mod cI cB cZ cS cT qt qt_state qt_readPage qt_tape qt_cuts qt_letters qt_queue qt_busyTo qt_servedIn qt_waysOn qt_costOn qt_aheads qt_seen qt_isKept qt_lanes qt_lengths qt_cells t_hasLaw t_hasCounters t_highest t_taped t_fault t_broken t_brokenAt t_spot t_here t_token t_value t_queued t_payed t_bestWait t_bestWhom t_bestCoins t_seenMany t_torn t_state_3 t_readPage t_tape t_cuts t_letters t_queue t_busyTo t_servedIn t_waysOn t_costOn t_aheads t_seen t_isKept t_lanes t_lengths t_cells)) rfl rfl (fun _ => rfl) hM dX9_gives_17 (fun t_state_3 hM H locs hP hD hS => ?_)
  refine lv_aload_n hx hb dX9_gives_18 rfl (lv_at hl 0 rfl) ?_
  refine va_get (D := D) (ci := 9) (v := .ref qt_state) (C := RX9) (T := TX9) (N := 34) hx hb hts inX9w hown hK hP 0 rfl rfl 0 (by decide) hf7 (fun _ h9 => h9) rfl dX9_gives_19 ?_
  refine lv_iload_n hx hb dX9_gives_22 rfl (lv_at hl 1 rfl) ?_
  refine lv_bipush (v := 6) hx hb dX9_gives_23 (by decide) ?_
  refine lv_iload_n hx hb dX9_gives_25 rfl (lv_at hl 3 rfl) ?_
  refine lv_imul hx hb dX9_gives_26 ?_
  refine lv_iadd hx hb dX9_gives_27 ?_
  refine lv_iconst (v := 4) hx hb dX9_gives_28 (by decide) ?_
  refine lv_iadd hx hb dX9_gives_29 ?_
  refine mr_nmI hM (fun v_4 hM => ?_)
  refine lv_dup2_11 hx hb dX9_gives_30 rfl rfl ?_
  refine mr_iald hx hb hK hP 1 0 rfl rfl hM dX9_gives_31 (fun v_5 hM => ?_)
  refine lv_iload hx hb dX9_gives_32 (lv_at hl 4 rfl) ?_
  refine lv_iadd hx hb dX9_gives_34 ?_
  refine mr_iast hx hb hK hP hD hS 1 0 (fun t_state_6 => (w_Mod cI cB cZ cS cT qt qt_state qt_readPage qt_tape qt_cuts qt_letters qt_queue qt_busyTo qt_servedIn qt_waysOn qt_costOn qt_aheads qt_seen qt_isKept qt_lanes qt_lengths qt_cells t_hasLaw t_hasCounters t_highest t_taped t_fault t_broken t_brokenAt t_spot t_here t_token t_value t_queued t_payed t_bestWait t_bestWhom t_bestCoins t_seenMany t_torn t_state_6 t_readPage t_tape t_cuts t_letters t_queue t_busyTo t_servedIn t_waysOn t_costOn t_aheads t_seen t_isKept t_lanes t_lengths t_cells)) rfl rfl (fun _ => rfl) hM dX9_gives_35 (fun t_state_6 hM H locs hP hD hS => ?_)
  have hM := Option.some.inj hM
  subst hM
  exact mr_vret hx hb hr hlocks hQ hP hD hS dX9_gives_36

abbrev rmX9_paysAll : Room := { frames := 1, cells := 0, slots := 0, locals := 24 }
set_option maxHeartbeats 40000000 in
set_option maxRecDepth 100000 in
theorem k_Mod_paysAll (l : Launch) (D : va_G) (cI cB cZ cS cT : ClassId) (qt qt_state qt_readPage qt_tape qt_cuts qt_letters qt_queue qt_busyTo qt_servedIn qt_waysOn qt_costOn qt_aheads qt_seen qt_isKept qt_lanes qt_lengths qt_cells : Nat) (t_hasLaw t_hasCounters t_highest t_taped t_fault t_broken t_brokenAt t_spot t_here t_token t_value t_queued t_payed t_bestWait t_bestWhom t_bestCoins t_seenMany t_torn : Int32) (t_state t_readPage t_tape t_cuts t_letters t_queue t_busyTo t_servedIn t_waysOn t_costOn t_aheads t_seen t_isKept t_lanes t_lengths t_cells : Nat → Int32) (p1 p2 p3 : Int32) (o : Int32 × (Nat → Int32)) (hM : Mod_paysAll p1 p2 p3 t_state = some o) : mtI l yX9_paysAll wsX9_paysAll rmX9_paysAll D (tys5 cI cB cZ cS cT) [.ref qt, .int p1, .int p2, .int p3] (w_Mod cI cB cZ cS cT qt qt_state qt_readPage qt_tape qt_cuts qt_letters qt_queue qt_busyTo qt_servedIn qt_waysOn qt_costOn qt_aheads qt_seen qt_isKept qt_lanes qt_lengths qt_cells t_hasLaw t_hasCounters t_highest t_taped t_fault t_broken t_brokenAt t_spot t_here t_token t_value t_queued t_payed t_bestWait t_bestWhom t_bestCoins t_seenMany t_torn t_state t_readPage t_tape t_cuts t_letters t_queue t_busyTo t_servedIn t_waysOn t_costOn t_aheads t_seen t_isKept t_lanes t_lengths t_cells) (w_Mod cI cB cZ cS cT qt qt_state qt_readPage qt_tape qt_cuts qt_letters qt_queue qt_busyTo qt_servedIn qt_waysOn qt_costOn qt_aheads qt_seen qt_isKept qt_lanes qt_lengths qt_cells t_hasLaw t_hasCounters t_highest t_taped t_fault t_broken t_brokenAt t_spot t_here t_token t_value t_queued t_payed t_bestWait t_bestWhom t_bestCoins t_seenMany t_torn o.2 t_readPage t_tape t_cuts t_letters t_queue t_busyTo t_servedIn t_waysOn t_costOn t_aheads t_seen t_isKept t_lanes t_lengths t_cells) o.1 := by
  refine mtI.of (cc := cX9_paysAll) (maxL := 5) (ret := (some .int)) (by decide) rfl (Nat.le_of_ble_eq_true rfl) ?_
  intro p e s m below meth c A Q av hav hQ hx hb hr hml hown hts hlocks hK hP hD hA hS ls hl
  have hown : s.vm.findClass RX9 = some m.cls := hown
  have hl : lv_has ls 5 [(0, .ref qt), (1, .int p1), (2, .int p2), (3, .int p3)] := hl
  unfold Mod_paysAll at hM
  have inX9w : ∀ w ∈ u_ws RX9 TX9 34, w ∈ wsX9_paysAll := by decide +kernel
  have hf7 := hts (.fieldLink RX9 7 "LetsInModel" "state" "[I") (by decide +kernel)
  refine lv_aload_n hx hb dX9_paysAll_0 rfl (lv_at hl 0 rfl) ?_
  refine va_get (D := D) (ci := 9) (v := .ref qt_state) (C := RX9) (T := TX9) (N := 34) hx hb hts inX9w hown hK hP 0 rfl rfl 0 (by decide) hf7 (fun _ h9 => h9) rfl dX9_paysAll_1 ?_
  refine lv_iload_n hx hb dX9_paysAll_4 rfl (lv_at hl 1 rfl) ?_
  refine lv_iload_n hx hb dX9_paysAll_5 rfl (lv_at hl 2 rfl) ?_
  refine lv_iload_n hx hb dX9_paysAll_6 rfl (lv_at hl 3 rfl) ?_
  obtain ⟨o_1, hc, hM⟩ := bind_so hM
  refine mr_callSi (As := [.int p2, .int p3]) (rest := [.int p1, .ref qt_state]) ⟨hx, hb, hml, hown, hts⟩ (k_Mod_debtAt l D cI cB cZ cS cT   p2 p3 _ hc) (cwS 2 hts gX9_paysAll_X9_debtAt rfl rfl rfl (by decide +kernel) ⟨Nat.le_of_ble_eq_true rfl, Nat.le_of_ble_eq_true rfl⟩) hK hP hD hS hA rfl hl.1 rfl (Nat.le_of_ble_eq_true rfl) dX9_paysAll_7 ⟨Nat.zero_le _, Nat.zero_le _⟩ (fun H locs hP hS => ?_)
  refine lv_iadd hx hb dX9_paysAll_10 ?_
  refine mr_iald hx hb hK hP 1 0 rfl rfl hM dX9_paysAll_11 (fun v_2 hM => ?_)
  refine lv_istore (lv' := [(4, .int v_2), (0, .ref qt), (1, .int p1), (2, .int p2), (3, .int p3)]) hx hb dX9_paysAll_12 hl (by decide) rfl (fun ls hl => ?_)
  refine lv_aload_n hx hb dX9_paysAll_14 rfl (lv_at hl 1 rfl) ?_
  refine lv_iload_n hx hb dX9_paysAll_15 rfl (lv_at hl 2 rfl) ?_
  refine lv_iload_n hx hb dX9_paysAll_16 rfl (lv_at hl 3 rfl) ?_
  refine lv_iload_n hx hb dX9_paysAll_17 rfl (lv_at hl 4 rfl) ?_
  refine lv_iload hx hb dX9_paysAll_18 (lv_at hl 0 rfl) ?_
  obtain ⟨o_3, hc, hM⟩ := bind_so hM
  refine mr_callVv (As := [.int p1, .int p2, .int p3, .int v_2]) (rest := []) (wr := []) ⟨hx, hb, hml, hown, hts⟩ (k_Mod_gives l D cI cB cZ cS cT qt qt_state qt_readPage qt_tape qt_cuts qt_letters qt_queue qt_busyTo qt_servedIn qt_waysOn qt_costOn qt_aheads qt_seen qt_isKept qt_lanes qt_lengths qt_cells t_hasLaw t_hasCounters t_highest t_taped t_fault t_broken t_brokenAt t_spot t_here t_token t_value t_queued t_payed t_bestWait t_bestWhom t_bestCoins t_seenMany t_torn t_state t_readPage t_tape t_cuts t_letters t_queue t_busyTo t_servedIn t_waysOn t_costOn t_aheads t_seen t_isKept t_lanes t_lengths t_cells p1 p2 p3 v_2 _ hc) (cwV 4 hts gX9_paysAll_X9_gives rfl rfl rfl (by decide +kernel) ⟨Nat.le_of_ble_eq_true rfl, Nat.le_of_ble_eq_true rfl⟩) hK hP hD hS hA [0, 1, 2, 3, 4, 5, 6, 7, 8, 9, 10, 11, 12, 13, 14, 15, 16] [] [0, 1, 2, 3, 4, 5, 6, 7, 8, 9, 10, 11, 12, 13, 14, 15, 16] (w_Mod cI cB cZ cS cT qt qt_state qt_readPage qt_tape qt_cuts qt_letters qt_queue qt_busyTo qt_servedIn qt_waysOn qt_costOn qt_aheads qt_seen qt_isKept qt_lanes qt_lengths qt_cells t_hasLaw t_hasCounters t_highest t_taped t_fault t_broken t_brokenAt t_spot t_here t_token t_value t_queued t_payed t_bestWait t_bestWhom t_bestCoins t_seenMany t_torn o_3 t_readPage t_tape t_cuts t_letters t_queue t_busyTo t_servedIn t_waysOn t_costOn t_aheads t_seen t_isKept t_lanes t_lengths t_cells) rfl rfl rfl rfl (by decide) rfl rfl 9 0 rfl rfl rfl rfl hl.1 rfl (Nat.le_of_ble_eq_true rfl) dX9_paysAll_20 ⟨Nat.zero_le _, Nat.zero_le _⟩ (fun H locs hP hD hS => ?_)
  refine lv_aload_n hx hb dX9_paysAll_23 rfl (lv_at hl 1 rfl) ?_
  refine va_get (D := D) (ci := 9) (v := .ref qt_state) (C := RX9) (T := TX9) (N := 34) hx hb hts inX9w hown hK hP 0 rfl rfl 0 (by decide) hf7 (fun _ h9 => h9) rfl dX9_paysAll_24 ?_
  refine lv_iload_n hx hb dX9_paysAll_27 rfl (lv_at hl 2 rfl) ?_
  refine lv_iload_n hx hb dX9_paysAll_28 rfl (lv_at hl 3 rfl) ?_
  refine lv_iload_n hx hb dX9_paysAll_29 rfl (lv_at hl 4 rfl) ?_
  obtain ⟨o_4, hc, hM⟩ := bind_so hM
  refine mr_callSi (As := [.int p2, .int p3]) (rest := [.int p1, .ref qt_state]) ⟨hx, hb, hml, hown, hts⟩ (k_Mod_debtAt l D cI cB cZ cS cT   p2 p3 _ hc) (cwS 2 hts gX9_paysAll_X9_debtAt rfl rfl rfl (by decide +kernel) ⟨Nat.le_of_ble_eq_true rfl, Nat.le_of_ble_eq_true rfl⟩) hK hP hD hS hA rfl hl.1 rfl (Nat.le_of_ble_eq_true rfl) dX9_paysAll_30 ⟨Nat.zero_le _, Nat.zero_le _⟩ (fun H locs hP hS => ?_)
  refine lv_iadd hx hb dX9_paysAll_33 ?_
  refine lv_iconst (v := 0) hx hb dX9_paysAll_34 (by decide) ?_
  refine mr_iast hx hb hK hP hD hS 1 0 (fun t_state_5 => (w_Mod cI cB cZ cS cT qt qt_state qt_readPage qt_tape qt_cuts qt_letters qt_queue qt_busyTo qt_servedIn qt_waysOn qt_costOn qt_aheads qt_seen qt_isKept qt_lanes qt_lengths qt_cells t_hasLaw t_hasCounters t_highest t_taped t_fault t_broken t_brokenAt t_spot t_here t_token t_value t_queued t_payed t_bestWait t_bestWhom t_bestCoins t_seenMany t_torn t_state_5 t_readPage t_tape t_cuts t_letters t_queue t_busyTo t_servedIn t_waysOn t_costOn t_aheads t_seen t_isKept t_lanes t_lengths t_cells)) rfl rfl (fun _ => rfl) hM dX9_paysAll_35 (fun t_state_5 hM H locs hP hD hS => ?_)
  refine lv_iload hx hb dX9_paysAll_36 (lv_at hl 0 rfl) ?_
  have hM := Option.some.inj hM
  subst hM
  exact mr_iret hx hb hr hlocks hQ hP hD hS rfl dX9_paysAll_38

abbrev rmX9_pay : Room := { frames := 3, cells := 0, slots := 0, locals := 68 }
set_option maxHeartbeats 40000000 in
set_option maxRecDepth 100000 in
theorem k_Mod_pay (l : Launch) (D : va_G) (cI cB cZ cS cT : ClassId) (qt qt_state qt_readPage qt_tape qt_cuts qt_letters qt_queue qt_busyTo qt_servedIn qt_waysOn qt_costOn qt_aheads qt_seen qt_isKept qt_lanes qt_lengths qt_cells : Nat) (t_hasLaw t_hasCounters t_highest t_taped t_fault t_broken t_brokenAt t_spot t_here t_token t_value t_queued t_payed t_bestWait t_bestWhom t_bestCoins t_seenMany t_torn : Int32) (t_state t_readPage t_tape t_cuts t_letters t_queue t_busyTo t_servedIn t_waysOn t_costOn t_aheads t_seen t_isKept t_lanes t_lengths t_cells : Nat → Int32) (p1 p2 : Int32) (o : Int32 × (Nat → Int32)) (hM : Mod_pay p1 p2 t_state = some o) : mtI l yX9_pay wsX9_pay rmX9_pay D (tys5 cI cB cZ cS cT) [.ref qt, .int p1, .int p2] (w_Mod cI cB cZ cS cT qt qt_state qt_readPage qt_tape qt_cuts qt_letters qt_queue qt_busyTo qt_servedIn qt_waysOn qt_costOn qt_aheads qt_seen qt_isKept qt_lanes qt_lengths qt_cells t_hasLaw t_hasCounters t_highest t_taped t_fault t_broken t_brokenAt t_spot t_here t_token t_value t_queued t_payed t_bestWait t_bestWhom t_bestCoins t_seenMany t_torn t_state t_readPage t_tape t_cuts t_letters t_queue t_busyTo t_servedIn t_waysOn t_costOn t_aheads t_seen t_isKept t_lanes t_lengths t_cells) (w_Mod cI cB cZ cS cT qt qt_state qt_readPage qt_tape qt_cuts qt_letters qt_queue qt_busyTo qt_servedIn qt_waysOn qt_costOn qt_aheads qt_seen qt_isKept qt_lanes qt_lengths qt_cells t_hasLaw t_hasCounters t_highest t_taped t_fault t_broken t_brokenAt t_spot t_here t_token t_value t_queued t_payed t_bestWait t_bestWhom t_bestCoins t_seenMany t_torn o.2 t_readPage t_tape t_cuts t_letters t_queue t_busyTo t_servedIn t_waysOn t_costOn t_aheads t_seen t_isKept t_lanes t_lengths t_cells) o.1 := by
  refine mtI.of (cc := cX9_pay) (maxL := 4) (ret := (some .int)) (by decide) rfl (Nat.le_of_ble_eq_true rfl) ?_
  intro p e s m below meth c A Q av hav hQ hx hb hr hml hown hts hlocks hK hP hD hA hS ls hl
  have hown : s.vm.findClass RX9 = some m.cls := hown
  have hl : lv_has ls 4 [(0, .ref qt), (1, .int p1), (2, .int p2)] := hl
  unfold Mod_pay at hM
  have inX9w : ∀ w ∈ u_ws RX9 TX9 34, w ∈ wsX9_pay := by decide +kernel
  have hf7 := hts (.fieldLink RX9 7 "LetsInModel" "state" "[I") (by decide +kernel)
  refine lv_aload_n hx hb dX9_pay_0 rfl (lv_at hl 0 rfl) ?_
  refine lv_iload_n hx hb dX9_pay_1 rfl (lv_at hl 1 rfl) ?_
  refine lv_iload_n hx hb dX9_pay_2 rfl (lv_at hl 2 rfl) ?_
  obtain ⟨o_1, hc, hM⟩ := bind_so hM
  refine mr_callVi (As := [.int p1, .int p2]) (rest := []) (wr := []) ⟨hx, hb, hml, hown, hts⟩ (k_Mod_areTwo l D cI cB cZ cS cT qt qt_state qt_readPage qt_tape qt_cuts qt_letters qt_queue qt_busyTo qt_servedIn qt_waysOn qt_costOn qt_aheads qt_seen qt_isKept qt_lanes qt_lengths qt_cells t_hasLaw t_hasCounters t_highest t_taped t_fault t_broken t_brokenAt t_spot t_here t_token t_value t_queued t_payed t_bestWait t_bestWhom t_bestCoins t_seenMany t_torn t_state t_readPage t_tape t_cuts t_letters t_queue t_busyTo t_servedIn t_waysOn t_costOn t_aheads t_seen t_isKept t_lanes t_lengths t_cells p1 p2 _ hc) (cwV 2 hts gX9_pay_X9_areTwo rfl rfl rfl (by decide +kernel) ⟨Nat.le_of_ble_eq_true rfl, Nat.le_of_ble_eq_true rfl⟩) hK hP hD hS hA [0, 1, 2, 3, 4, 5, 6, 7, 8, 9, 10, 11, 12, 13, 14, 15, 16] [] [0, 1, 2, 3, 4, 5, 6, 7, 8, 9, 10, 11, 12, 13, 14, 15, 16] (w_Mod cI cB cZ cS cT qt qt_state qt_readPage qt_tape qt_cuts qt_letters qt_queue qt_busyTo qt_servedIn qt_waysOn qt_costOn qt_aheads qt_seen qt_isKept qt_lanes qt_lengths qt_cells t_hasLaw t_hasCounters t_highest t_taped t_fault t_broken t_brokenAt t_spot t_here t_token t_value t_queued t_payed t_bestWait t_bestWhom t_bestCoins t_seenMany t_torn t_state t_readPage t_tape t_cuts t_letters t_queue t_busyTo t_servedIn t_waysOn t_costOn t_aheads t_seen t_isKept t_lanes t_lengths t_cells) rfl rfl rfl rfl (by decide) rfl rfl 9 0 rfl rfl rfl rfl hl.1 rfl (Nat.le_of_ble_eq_true rfl) dX9_pay_3 ⟨Nat.zero_le _, Nat.zero_le _⟩ (fun H locs hP hD hS => ?_)
  refine mr_if_ne (tgt := 11) hx hb hM dX9_pay_6 (by decide) (fun hM => ?_) (fun hM => ?_)
  · refine lv_aload_n hx hb dX9_pay_11 rfl (lv_at hl 0 rfl) ?_
    refine va_get (D := D) (ci := 9) (v := .ref qt_state) (C := RX9) (T := TX9) (N := 34) hx hb hts inX9w hown hK hP 0 rfl rfl 0 (by decide) hf7 (fun _ h9 => h9) rfl dX9_pay_12 ?_
    refine lv_iload_n hx hb dX9_pay_15 rfl (lv_at hl 1 rfl) ?_
    refine lv_iload_n hx hb dX9_pay_16 rfl (lv_at hl 2 rfl) ?_
    obtain ⟨o_2, hc, hM⟩ := bind_so hM
    refine mr_callSi (As := [.int p1, .int p2]) (rest := [.ref qt_state]) ⟨hx, hb, hml, hown, hts⟩ (k_Mod_debtAt l D cI cB cZ cS cT   p1 p2 _ hc) (cwS 2 hts gX9_pay_X9_debtAt rfl rfl rfl (by decide +kernel) ⟨Nat.le_of_ble_eq_true rfl, Nat.le_of_ble_eq_true rfl⟩) hK hP hD hS hA rfl hl.1 rfl (Nat.le_of_ble_eq_true rfl) dX9_pay_17 ⟨Nat.zero_le _, Nat.zero_le _⟩ (fun H locs hP hS => ?_)
    refine mr_iald hx hb hK hP 1 0 rfl rfl hM dX9_pay_20 (fun v_3 hM => ?_)
    refine lv_istore_n (lv' := [(3, .int v_3), (0, .ref qt), (1, .int p1), (2, .int p2)]) hx hb dX9_pay_21 rfl hl (by decide) rfl (fun ls hl => ?_)
    refine lv_iload_n hx hb dX9_pay_22 rfl (lv_at hl 0 rfl) ?_
    refine mr_if_ne (tgt := 29) hx hb hM dX9_pay_23 (by decide) (fun hM => ?_) (fun hM => ?_)
    · refine lv_aload_n hx hb dX9_pay_29 rfl (lv_at hl 1 rfl) ?_
      refine va_get (D := D) (ci := 9) (v := .ref qt_state) (C := RX9) (T := TX9) (N := 34) hx hb hts inX9w hown hK hP 0 rfl rfl 0 (by decide) hf7 (fun _ h9 => h9) rfl dX9_pay_30 ?_
      refine lv_bipush (v := 6) hx hb dX9_pay_33 (by decide) ?_
      refine lv_iload_n hx hb dX9_pay_35 rfl (lv_at hl 2 rfl) ?_
      refine lv_imul hx hb dX9_pay_36 ?_
      refine lv_iconst (v := 4) hx hb dX9_pay_37 (by decide) ?_
      refine lv_iadd hx hb dX9_pay_38 ?_
      refine mr_iald hx hb hK hP 1 0 rfl rfl hM dX9_pay_39 (fun v_4 hM => ?_)
      refine lv_iload_n hx hb dX9_pay_40 rfl (lv_at hl 0 rfl) ?_
      refine mr_icmp_ge (tgt := 49) hx hb hM dX9_pay_41 (by decide) (fun hM => ?_) (fun hM => ?_)
      · refine lv_aload_n hx hb dX9_pay_49 rfl (lv_at hl 1 rfl) ?_
        refine lv_iconst (v := 0) hx hb dX9_pay_50 (by decide) ?_
        refine lv_iload_n hx hb dX9_pay_51 rfl (lv_at hl 2 rfl) ?_
        refine lv_iload_n hx hb dX9_pay_52 rfl (lv_at hl 3 rfl) ?_
        obtain ⟨o_5, hc, hM⟩ := bind_so hM
        refine mr_callVi (As := [.int 0, .int p1, .int p2]) (rest := []) (wr := []) ⟨hx, hb, hml, hown, hts⟩ (k_Mod_paysAll l D cI cB cZ cS cT qt qt_state qt_readPage qt_tape qt_cuts qt_letters qt_queue qt_busyTo qt_servedIn qt_waysOn qt_costOn qt_aheads qt_seen qt_isKept qt_lanes qt_lengths qt_cells t_hasLaw t_hasCounters t_highest t_taped t_fault t_broken t_brokenAt t_spot t_here t_token t_value t_queued t_payed t_bestWait t_bestWhom t_bestCoins t_seenMany t_torn t_state t_readPage t_tape t_cuts t_letters t_queue t_busyTo t_servedIn t_waysOn t_costOn t_aheads t_seen t_isKept t_lanes t_lengths t_cells 0 p1 p2 _ hc) (cwV 3 hts gX9_pay_X9_paysAll rfl rfl rfl (by decide +kernel) ⟨Nat.le_of_ble_eq_true rfl, Nat.le_of_ble_eq_true rfl⟩) hK hP hD hS hA [0, 1, 2, 3, 4, 5, 6, 7, 8, 9, 10, 11, 12, 13, 14, 15, 16] [] [0, 1, 2, 3, 4, 5, 6, 7, 8, 9, 10, 11, 12, 13, 14, 15, 16] (w_Mod cI cB cZ cS cT qt qt_state qt_readPage qt_tape qt_cuts qt_letters qt_queue qt_busyTo qt_servedIn qt_waysOn qt_costOn qt_aheads qt_seen qt_isKept qt_lanes qt_lengths qt_cells t_hasLaw t_hasCounters t_highest t_taped t_fault t_broken t_brokenAt t_spot t_here t_token t_value t_queued t_payed t_bestWait t_bestWhom t_bestCoins t_seenMany t_torn o_5.2 t_readPage t_tape t_cuts t_letters t_queue t_busyTo t_servedIn t_waysOn t_costOn t_aheads t_seen t_isKept t_lanes t_lengths t_cells) rfl rfl rfl rfl (by decide) rfl rfl 9 0 rfl rfl rfl rfl hl.1 rfl (Nat.le_of_ble_eq_true rfl) dX9_pay_53 ⟨Nat.zero_le _, Nat.zero_le _⟩ (fun H locs hP hD hS => ?_)
        have hM := Option.some.inj hM
        subst hM
        exact mr_iret hx hb hr hlocks hQ hP hD hS rfl dX9_pay_56
      · refine lv_bipush (v := (-2)) hx hb dX9_pay_44 (by decide) ?_
        refine lv_goto (tgt := 56) hx hb dX9_pay_46 (by decide) ?_
        have hM := Option.some.inj hM
        subst hM
        exact mr_iret hx hb hr hlocks hQ hP hD hS rfl dX9_pay_56
    · refine lv_bipush (v := (-4)) hx hb dX9_pay_26 (by decide) ?_
      have hM := Option.some.inj hM
      subst hM
      exact mr_iret hx hb hr hlocks hQ hP hD hS rfl dX9_pay_28
  · refine lv_iconst (v := (-1)) hx hb dX9_pay_9 (by decide) ?_
    have hM := Option.some.inj hM
    subst hM
    exact mr_iret hx hb hr hlocks hQ hP hD hS rfl dX9_pay_10

abbrev rmX9_lend : Room := { frames := 3, cells := 0, slots := 0, locals := 68 }
set_option maxHeartbeats 40000000 in
set_option maxRecDepth 100000 in
theorem k_Mod_lend (l : Launch) (D : va_G) (cI cB cZ cS cT : ClassId) (qt qt_state qt_readPage qt_tape qt_cuts qt_letters qt_queue qt_busyTo qt_servedIn qt_waysOn qt_costOn qt_aheads qt_seen qt_isKept qt_lanes qt_lengths qt_cells : Nat) (t_hasLaw t_hasCounters t_highest t_taped t_fault t_broken t_brokenAt t_spot t_here t_token t_value t_queued t_payed t_bestWait t_bestWhom t_bestCoins t_seenMany t_torn : Int32) (t_state t_readPage t_tape t_cuts t_letters t_queue t_busyTo t_servedIn t_waysOn t_costOn t_aheads t_seen t_isKept t_lanes t_lengths t_cells : Nat → Int32) (p1 p2 p3 : Int32) (o : Int32 × (Nat → Int32)) (hM : Mod_lend p1 p2 p3 t_state = some o) : mtI l yX9_lend wsX9_lend rmX9_lend D (tys5 cI cB cZ cS cT) [.ref qt, .int p1, .int p2, .int p3] (w_Mod cI cB cZ cS cT qt qt_state qt_readPage qt_tape qt_cuts qt_letters qt_queue qt_busyTo qt_servedIn qt_waysOn qt_costOn qt_aheads qt_seen qt_isKept qt_lanes qt_lengths qt_cells t_hasLaw t_hasCounters t_highest t_taped t_fault t_broken t_brokenAt t_spot t_here t_token t_value t_queued t_payed t_bestWait t_bestWhom t_bestCoins t_seenMany t_torn t_state t_readPage t_tape t_cuts t_letters t_queue t_busyTo t_servedIn t_waysOn t_costOn t_aheads t_seen t_isKept t_lanes t_lengths t_cells) (w_Mod cI cB cZ cS cT qt qt_state qt_readPage qt_tape qt_cuts qt_letters qt_queue qt_busyTo qt_servedIn qt_waysOn qt_costOn qt_aheads qt_seen qt_isKept qt_lanes qt_lengths qt_cells t_hasLaw t_hasCounters t_highest t_taped t_fault t_broken t_brokenAt t_spot t_here t_token t_value t_queued t_payed t_bestWait t_bestWhom t_bestCoins t_seenMany t_torn o.2 t_readPage t_tape t_cuts t_letters t_queue t_busyTo t_servedIn t_waysOn t_costOn t_aheads t_seen t_isKept t_lanes t_lengths t_cells) o.1 := by
  refine mtI.of (cc := cX9_lend) (maxL := 4) (ret := (some .int)) (by decide) rfl (Nat.le_of_ble_eq_true rfl) ?_
  intro p e s m below meth c A Q av hav hQ hx hb hr hml hown hts hlocks hK hP hD hA hS ls hl
  have hown : s.vm.findClass RX9 = some m.cls := hown
  have hl : lv_has ls 4 [(0, .ref qt), (1, .int p1), (2, .int p2), (3, .int p3)] := hl
  unfold Mod_lend at hM
  have inX9w : ∀ w ∈ u_ws RX9 TX9 34, w ∈ wsX9_lend := by decide +kernel
  have hfc185 := hts (.constantLong RX9 185 50) (by decide +kernel)
  have hf7 := hts (.fieldLink RX9 7 "LetsInModel" "state" "[I") (by decide +kernel)
  refine lv_aload_n hx hb dX9_lend_0 rfl (lv_at hl 0 rfl) ?_
  refine lv_iload_n hx hb dX9_lend_1 rfl (lv_at hl 1 rfl) ?_
  refine lv_iload_n hx hb dX9_lend_2 rfl (lv_at hl 2 rfl) ?_
  obtain ⟨o_1, hc, hM⟩ := bind_so hM
  refine mr_callVi (As := [.int p1, .int p2]) (rest := []) (wr := []) ⟨hx, hb, hml, hown, hts⟩ (k_Mod_areTwo l D cI cB cZ cS cT qt qt_state qt_readPage qt_tape qt_cuts qt_letters qt_queue qt_busyTo qt_servedIn qt_waysOn qt_costOn qt_aheads qt_seen qt_isKept qt_lanes qt_lengths qt_cells t_hasLaw t_hasCounters t_highest t_taped t_fault t_broken t_brokenAt t_spot t_here t_token t_value t_queued t_payed t_bestWait t_bestWhom t_bestCoins t_seenMany t_torn t_state t_readPage t_tape t_cuts t_letters t_queue t_busyTo t_servedIn t_waysOn t_costOn t_aheads t_seen t_isKept t_lanes t_lengths t_cells p1 p2 _ hc) (cwV 2 hts gX9_lend_X9_areTwo rfl rfl rfl (by decide +kernel) ⟨Nat.le_of_ble_eq_true rfl, Nat.le_of_ble_eq_true rfl⟩) hK hP hD hS hA [0, 1, 2, 3, 4, 5, 6, 7, 8, 9, 10, 11, 12, 13, 14, 15, 16] [] [0, 1, 2, 3, 4, 5, 6, 7, 8, 9, 10, 11, 12, 13, 14, 15, 16] (w_Mod cI cB cZ cS cT qt qt_state qt_readPage qt_tape qt_cuts qt_letters qt_queue qt_busyTo qt_servedIn qt_waysOn qt_costOn qt_aheads qt_seen qt_isKept qt_lanes qt_lengths qt_cells t_hasLaw t_hasCounters t_highest t_taped t_fault t_broken t_brokenAt t_spot t_here t_token t_value t_queued t_payed t_bestWait t_bestWhom t_bestCoins t_seenMany t_torn t_state t_readPage t_tape t_cuts t_letters t_queue t_busyTo t_servedIn t_waysOn t_costOn t_aheads t_seen t_isKept t_lanes t_lengths t_cells) rfl rfl rfl rfl (by decide) rfl rfl 9 0 rfl rfl rfl rfl hl.1 rfl (Nat.le_of_ble_eq_true rfl) dX9_lend_3 ⟨Nat.zero_le _, Nat.zero_le _⟩ (fun H locs hP hD hS => ?_)
  refine mr_if_eq (tgt := 21) hx hb hM dX9_lend_6 (by decide) (fun hM => ?_) (fun hM => ?_)
  · refine lv_iconst (v := (-1)) hx hb dX9_lend_21 (by decide) ?_
    have hM := Option.some.inj hM
    subst hM
    exact mr_iret hx hb hr hlocks hQ hP hD hS rfl dX9_lend_22
  · refine lv_iload_n hx hb dX9_lend_9 rfl (lv_at hl 3 rfl) ?_
    refine lv_i2l hx hb dX9_lend_10 rfl ?_
    refine lv_lconst (v := 1) hx hb dX9_lend_11 (by decide) ?_
    refine lv_ldc2 (v := 50) hx hb hown hfc185 dX9_lend_12 ?_
    obtain ⟨o_2, hc, hM⟩ := bind_so hM
    refine mr_callSi (As := [.long p3.toInt64, .long 1, .long 50]) (rest := []) ⟨hx, hb, hml, hown, hts⟩ (k_Mod_in l D cI cB cZ cS cT   p3.toInt64 1 50 _ hc) (cwS 3 hts gX9_lend_X9_in rfl rfl rfl (by decide +kernel) ⟨Nat.le_of_ble_eq_true rfl, Nat.le_of_ble_eq_true rfl⟩) hK hP hD hS hA rfl hl.1 rfl (Nat.le_of_ble_eq_true rfl) dX9_lend_15 ⟨Nat.zero_le _, Nat.zero_le _⟩ (fun H locs hP hS => ?_)
    refine mr_if_ne (tgt := 23) hx hb hM dX9_lend_18 (by decide) (fun hM => ?_) (fun hM => ?_)
    · refine lv_aload_n hx hb dX9_lend_23 rfl (lv_at hl 0 rfl) ?_
      refine va_get (D := D) (ci := 9) (v := .ref qt_state) (C := RX9) (T := TX9) (N := 34) hx hb hts inX9w hown hK hP 0 rfl rfl 0 (by decide) hf7 (fun _ h9 => h9) rfl dX9_lend_24 ?_
      refine lv_bipush (v := 6) hx hb dX9_lend_27 (by decide) ?_
      refine lv_iload_n hx hb dX9_lend_29 rfl (lv_at hl 1 rfl) ?_
      refine lv_imul hx hb dX9_lend_30 ?_
      refine lv_iconst (v := 4) hx hb dX9_lend_31 (by decide) ?_
      refine lv_iadd hx hb dX9_lend_32 ?_
      refine mr_iald hx hb hK hP 1 0 rfl rfl hM dX9_lend_33 (fun v_3 hM => ?_)
      refine lv_iload_n hx hb dX9_lend_34 rfl (lv_at hl 3 rfl) ?_
      refine mr_icmp_ge (tgt := 41) hx hb hM dX9_lend_35 (by decide) (fun hM => ?_) (fun hM => ?_)
      · refine lv_aload_n hx hb dX9_lend_41 rfl (lv_at hl 0 rfl) ?_
        refine va_get (D := D) (ci := 9) (v := .ref qt_state) (C := RX9) (T := TX9) (N := 34) hx hb hts inX9w hown hK hP 0 rfl rfl 0 (by decide) hf7 (fun _ h9 => h9) rfl dX9_lend_42 ?_
        refine lv_iload_n hx hb dX9_lend_45 rfl (lv_at hl 2 rfl) ?_
        refine lv_iload_n hx hb dX9_lend_46 rfl (lv_at hl 1 rfl) ?_
        obtain ⟨o_4, hc, hM⟩ := bind_so hM
        refine mr_callSi (As := [.int p2, .int p1]) (rest := [.ref qt_state]) ⟨hx, hb, hml, hown, hts⟩ (k_Mod_debtAt l D cI cB cZ cS cT   p2 p1 _ hc) (cwS 2 hts gX9_lend_X9_debtAt rfl rfl rfl (by decide +kernel) ⟨Nat.le_of_ble_eq_true rfl, Nat.le_of_ble_eq_true rfl⟩) hK hP hD hS hA rfl hl.1 rfl (Nat.le_of_ble_eq_true rfl) dX9_lend_47 ⟨Nat.zero_le _, Nat.zero_le _⟩ (fun H locs hP hS => ?_)
        refine mr_iald hx hb hK hP 1 0 rfl rfl hM dX9_lend_50 (fun v_5 hM => ?_)
        refine lv_iload_n hx hb dX9_lend_51 rfl (lv_at hl 3 rfl) ?_
        refine lv_iadd hx hb dX9_lend_52 ?_
        refine lv_sipush (v := 999) hx hb dX9_lend_53 (by decide) ?_
        refine mr_icmp_le (tgt := 62) hx hb hM dX9_lend_56 (by decide) (fun hM => ?_) (fun hM => ?_)
        · refine lv_aload_n hx hb dX9_lend_62 rfl (lv_at hl 0 rfl) ?_
          refine lv_iconst (v := 0) hx hb dX9_lend_63 (by decide) ?_
          refine lv_iload_n hx hb dX9_lend_64 rfl (lv_at hl 1 rfl) ?_
          refine lv_iload_n hx hb dX9_lend_65 rfl (lv_at hl 2 rfl) ?_
          refine lv_iload_n hx hb dX9_lend_66 rfl (lv_at hl 3 rfl) ?_
          obtain ⟨o_6, hc, hM⟩ := bind_so hM
          refine mr_callVv (As := [.int 0, .int p1, .int p2, .int p3]) (rest := []) (wr := []) ⟨hx, hb, hml, hown, hts⟩ (k_Mod_gives l D cI cB cZ cS cT qt qt_state qt_readPage qt_tape qt_cuts qt_letters qt_queue qt_busyTo qt_servedIn qt_waysOn qt_costOn qt_aheads qt_seen qt_isKept qt_lanes qt_lengths qt_cells t_hasLaw t_hasCounters t_highest t_taped t_fault t_broken t_brokenAt t_spot t_here t_token t_value t_queued t_payed t_bestWait t_bestWhom t_bestCoins t_seenMany t_torn t_state t_readPage t_tape t_cuts t_letters t_queue t_busyTo t_servedIn t_waysOn t_costOn t_aheads t_seen t_isKept t_lanes t_lengths t_cells 0 p1 p2 p3 _ hc) (cwV 4 hts gX9_lend_X9_gives rfl rfl rfl (by decide +kernel) ⟨Nat.le_of_ble_eq_true rfl, Nat.le_of_ble_eq_true rfl⟩) hK hP hD hS hA [0, 1, 2, 3, 4, 5, 6, 7, 8, 9, 10, 11, 12, 13, 14, 15, 16] [] [0, 1, 2, 3, 4, 5, 6, 7, 8, 9, 10, 11, 12, 13, 14, 15, 16] (w_Mod cI cB cZ cS cT qt qt_state qt_readPage qt_tape qt_cuts qt_letters qt_queue qt_busyTo qt_servedIn qt_waysOn qt_costOn qt_aheads qt_seen qt_isKept qt_lanes qt_lengths qt_cells t_hasLaw t_hasCounters t_highest t_taped t_fault t_broken t_brokenAt t_spot t_here t_token t_value t_queued t_payed t_bestWait t_bestWhom t_bestCoins t_seenMany t_torn o_6 t_readPage t_tape t_cuts t_letters t_queue t_busyTo t_servedIn t_waysOn t_costOn t_aheads t_seen t_isKept t_lanes t_lengths t_cells) rfl rfl rfl rfl (by decide) rfl rfl 9 0 rfl rfl rfl rfl hl.1 rfl (Nat.le_of_ble_eq_true rfl) dX9_lend_67 ⟨Nat.zero_le _, Nat.zero_le _⟩ (fun H locs hP hD hS => ?_)
          refine lv_aload_n hx hb dX9_lend_70 rfl (lv_at hl 0 rfl) ?_
          refine va_get (D := D) (ci := 9) (v := .ref qt_state) (C := RX9) (T := TX9) (N := 34) hx hb hts inX9w hown hK hP 0 rfl rfl 0 (by decide) hf7 (fun _ h9 => h9) rfl dX9_lend_71 ?_
          refine lv_iload_n hx hb dX9_lend_74 rfl (lv_at hl 2 rfl) ?_
          refine lv_iload_n hx hb dX9_lend_75 rfl (lv_at hl 1 rfl) ?_
          obtain ⟨o_7, hc, hM⟩ := bind_so hM
          refine mr_callSi (As := [.int p2, .int p1]) (rest := [.ref qt_state]) ⟨hx, hb, hml, hown, hts⟩ (k_Mod_debtAt l D cI cB cZ cS cT   p2 p1 _ hc) (cwS 2 hts gX9_lend_X9_debtAt rfl rfl rfl (by decide +kernel) ⟨Nat.le_of_ble_eq_true rfl, Nat.le_of_ble_eq_true rfl⟩) hK hP hD hS hA rfl hl.1 rfl (Nat.le_of_ble_eq_true rfl) dX9_lend_76 ⟨Nat.zero_le _, Nat.zero_le _⟩ (fun H locs hP hS => ?_)
          refine lv_dup2_11 hx hb dX9_lend_79 rfl rfl ?_
          refine mr_iald hx hb hK hP 1 0 rfl rfl hM dX9_lend_80 (fun v_8 hM => ?_)
          refine lv_iload_n hx hb dX9_lend_81 rfl (lv_at hl 3 rfl) ?_
          refine lv_iadd hx hb dX9_lend_82 ?_
          refine mr_iast hx hb hK hP hD hS 1 0 (fun t_state_9 => (w_Mod cI cB cZ cS cT qt qt_state qt_readPage qt_tape qt_cuts qt_letters qt_queue qt_busyTo qt_servedIn qt_waysOn qt_costOn qt_aheads qt_seen qt_isKept qt_lanes qt_lengths qt_cells t_hasLaw t_hasCounters t_highest t_taped t_fault t_broken t_brokenAt t_spot t_here t_token t_value t_queued t_payed t_bestWait t_bestWhom t_bestCoins t_seenMany t_torn t_state_9 t_readPage t_tape t_cuts t_letters t_queue t_busyTo t_servedIn t_waysOn t_costOn t_aheads t_seen t_isKept t_lanes t_lengths t_cells)) rfl rfl (fun _ => rfl) hM dX9_lend_83 (fun t_state_9 hM H locs hP hD hS => ?_)
          refine lv_aload_n hx hb dX9_lend_84 rfl (lv_at hl 0 rfl) ?_
          refine va_get (D := D) (ci := 9) (v := .ref qt_state) (C := RX9) (T := TX9) (N := 34) hx hb hts inX9w hown hK hP 0 rfl rfl 0 (by decide) hf7 (fun _ h9 => h9) rfl dX9_lend_85 ?_
          refine lv_iload_n hx hb dX9_lend_88 rfl (lv_at hl 2 rfl) ?_
          refine lv_iload_n hx hb dX9_lend_89 rfl (lv_at hl 1 rfl) ?_
          obtain ⟨o_10, hc, hM⟩ := bind_so hM
          refine mr_callSi (As := [.int p2, .int p1]) (rest := [.ref qt_state]) ⟨hx, hb, hml, hown, hts⟩ (k_Mod_debtAt l D cI cB cZ cS cT   p2 p1 _ hc) (cwS 2 hts gX9_lend_X9_debtAt rfl rfl rfl (by decide +kernel) ⟨Nat.le_of_ble_eq_true rfl, Nat.le_of_ble_eq_true rfl⟩) hK hP hD hS hA rfl hl.1 rfl (Nat.le_of_ble_eq_true rfl) dX9_lend_90 ⟨Nat.zero_le _, Nat.zero_le _⟩ (fun H locs hP hS => ?_)
          refine mr_iald hx hb hK hP 1 0 rfl rfl hM dX9_lend_93 (fun v_11 hM => ?_)
          have hM := Option.some.inj hM
          subst hM
          exact mr_iret hx hb hr hlocks hQ hP hD hS rfl dX9_lend_94
        · refine lv_bipush (v := (-3)) hx hb dX9_lend_59 (by decide) ?_
          have hM := Option.some.inj hM
          subst hM
          exact mr_iret hx hb hr hlocks hQ hP hD hS rfl dX9_lend_61
      · refine lv_bipush (v := (-2)) hx hb dX9_lend_38 (by decide) ?_
        have hM := Option.some.inj hM
        subst hM
        exact mr_iret hx hb hr hlocks hQ hP hD hS rfl dX9_lend_40
    · refine lv_iconst (v := (-1)) hx hb dX9_lend_21 (by decide) ?_
      have hM := Option.some.inj hM
      subst hM
      exact mr_iret hx hb hr hlocks hQ hP hD hS rfl dX9_lend_22

abbrev rmX9_sell : Room := { frames := 3, cells := 0, slots := 0, locals := 68 }
set_option maxHeartbeats 40000000 in
set_option maxRecDepth 100000 in
theorem k_Mod_sell (l : Launch) (D : va_G) (cI cB cZ cS cT : ClassId) (qt qt_state qt_readPage qt_tape qt_cuts qt_letters qt_queue qt_busyTo qt_servedIn qt_waysOn qt_costOn qt_aheads qt_seen qt_isKept qt_lanes qt_lengths qt_cells : Nat) (t_hasLaw t_hasCounters t_highest t_taped t_fault t_broken t_brokenAt t_spot t_here t_token t_value t_queued t_payed t_bestWait t_bestWhom t_bestCoins t_seenMany t_torn : Int32) (t_state t_readPage t_tape t_cuts t_letters t_queue t_busyTo t_servedIn t_waysOn t_costOn t_aheads t_seen t_isKept t_lanes t_lengths t_cells : Nat → Int32) (p1 p2 p3 : Int32) (o : Int32 × (Nat → Int32)) (hM : Mod_sell p1 p2 p3 t_state = some o) : mtI l yX9_sell wsX9_sell rmX9_sell D (tys5 cI cB cZ cS cT) [.ref qt, .int p1, .int p2, .int p3] (w_Mod cI cB cZ cS cT qt qt_state qt_readPage qt_tape qt_cuts qt_letters qt_queue qt_busyTo qt_servedIn qt_waysOn qt_costOn qt_aheads qt_seen qt_isKept qt_lanes qt_lengths qt_cells t_hasLaw t_hasCounters t_highest t_taped t_fault t_broken t_brokenAt t_spot t_here t_token t_value t_queued t_payed t_bestWait t_bestWhom t_bestCoins t_seenMany t_torn t_state t_readPage t_tape t_cuts t_letters t_queue t_busyTo t_servedIn t_waysOn t_costOn t_aheads t_seen t_isKept t_lanes t_lengths t_cells) (w_Mod cI cB cZ cS cT qt qt_state qt_readPage qt_tape qt_cuts qt_letters qt_queue qt_busyTo qt_servedIn qt_waysOn qt_costOn qt_aheads qt_seen qt_isKept qt_lanes qt_lengths qt_cells t_hasLaw t_hasCounters t_highest t_taped t_fault t_broken t_brokenAt t_spot t_here t_token t_value t_queued t_payed t_bestWait t_bestWhom t_bestCoins t_seenMany t_torn o.2 t_readPage t_tape t_cuts t_letters t_queue t_busyTo t_servedIn t_waysOn t_costOn t_aheads t_seen t_isKept t_lanes t_lengths t_cells) o.1 := by
  refine mtI.of (cc := cX9_sell) (maxL := 5) (ret := (some .int)) (by decide) rfl (Nat.le_of_ble_eq_true rfl) ?_
  intro p e s m below meth c A Q av hav hQ hx hb hr hml hown hts hlocks hK hP hD hA hS ls hl
  have hown : s.vm.findClass RX9 = some m.cls := hown
  have hl : lv_has ls 5 [(0, .ref qt), (1, .int p1), (2, .int p2), (3, .int p3)] := hl
  unfold Mod_sell at hM
  have inX9w : ∀ w ∈ u_ws RX9 TX9 34, w ∈ wsX9_sell := by decide +kernel
  have hf7 := hts (.fieldLink RX9 7 "LetsInModel" "state" "[I") (by decide +kernel)
  refine lv_aload_n hx hb dX9_sell_0 rfl (lv_at hl 0 rfl) ?_
  refine lv_iload_n hx hb dX9_sell_1 rfl (lv_at hl 1 rfl) ?_
  refine lv_iload_n hx hb dX9_sell_2 rfl (lv_at hl 2 rfl) ?_
  obtain ⟨o_1, hc, hM⟩ := bind_so hM
  refine mr_callVi (As := [.int p1, .int p2]) (rest := []) (wr := []) ⟨hx, hb, hml, hown, hts⟩ (k_Mod_areTwo l D cI cB cZ cS cT qt qt_state qt_readPage qt_tape qt_cuts qt_letters qt_queue qt_busyTo qt_servedIn qt_waysOn qt_costOn qt_aheads qt_seen qt_isKept qt_lanes qt_lengths qt_cells t_hasLaw t_hasCounters t_highest t_taped t_fault t_broken t_brokenAt t_spot t_here t_token t_value t_queued t_payed t_bestWait t_bestWhom t_bestCoins t_seenMany t_torn t_state t_readPage t_tape t_cuts t_letters t_queue t_busyTo t_servedIn t_waysOn t_costOn t_aheads t_seen t_isKept t_lanes t_lengths t_cells p1 p2 _ hc) (cwV 2 hts gX9_sell_X9_areTwo rfl rfl rfl (by decide +kernel) ⟨Nat.le_of_ble_eq_true rfl, Nat.le_of_ble_eq_true rfl⟩) hK hP hD hS hA [0, 1, 2, 3, 4, 5, 6, 7, 8, 9, 10, 11, 12, 13, 14, 15, 16] [] [0, 1, 2, 3, 4, 5, 6, 7, 8, 9, 10, 11, 12, 13, 14, 15, 16] (w_Mod cI cB cZ cS cT qt qt_state qt_readPage qt_tape qt_cuts qt_letters qt_queue qt_busyTo qt_servedIn qt_waysOn qt_costOn qt_aheads qt_seen qt_isKept qt_lanes qt_lengths qt_cells t_hasLaw t_hasCounters t_highest t_taped t_fault t_broken t_brokenAt t_spot t_here t_token t_value t_queued t_payed t_bestWait t_bestWhom t_bestCoins t_seenMany t_torn t_state t_readPage t_tape t_cuts t_letters t_queue t_busyTo t_servedIn t_waysOn t_costOn t_aheads t_seen t_isKept t_lanes t_lengths t_cells) rfl rfl rfl rfl (by decide) rfl rfl 9 0 rfl rfl rfl rfl hl.1 rfl (Nat.le_of_ble_eq_true rfl) dX9_sell_3 ⟨Nat.zero_le _, Nat.zero_le _⟩ (fun H locs hP hD hS => ?_)
  refine mr_if_eq (tgt := 22) hx hb hM dX9_sell_6 (by decide) (fun hM => ?_) (fun hM => ?_)
  · refine lv_iconst (v := (-1)) hx hb dX9_sell_22 (by decide) ?_
    have hM := Option.some.inj hM
    subst hM
    exact mr_iret hx hb hr hlocks hQ hP hD hS rfl dX9_sell_23
  · refine lv_aload_n hx hb dX9_sell_9 rfl (lv_at hl 0 rfl) ?_
    refine lv_iload_n hx hb dX9_sell_10 rfl (lv_at hl 3 rfl) ?_
    obtain ⟨o_2, hc, hM⟩ := bind_so hM
    refine mr_callVi (As := [.int p3]) (rest := []) (wr := []) ⟨hx, hb, hml, hown, hts⟩ (k_Mod_isOne l D cI cB cZ cS cT qt qt_state qt_readPage qt_tape qt_cuts qt_letters qt_queue qt_busyTo qt_servedIn qt_waysOn qt_costOn qt_aheads qt_seen qt_isKept qt_lanes qt_lengths qt_cells t_hasLaw t_hasCounters t_highest t_taped t_fault t_broken t_brokenAt t_spot t_here t_token t_value t_queued t_payed t_bestWait t_bestWhom t_bestCoins t_seenMany t_torn t_state t_readPage t_tape t_cuts t_letters t_queue t_busyTo t_servedIn t_waysOn t_costOn t_aheads t_seen t_isKept t_lanes t_lengths t_cells p3 _ hc) (cwV 1 hts gX9_sell_X9_isOne rfl rfl rfl (by decide +kernel) ⟨Nat.le_of_ble_eq_true rfl, Nat.le_of_ble_eq_true rfl⟩) hK hP hD hS hA [0, 1, 2, 3, 4, 5, 6, 7, 8, 9, 10, 11, 12, 13, 14, 15, 16] [] [0, 1, 2, 3, 4, 5, 6, 7, 8, 9, 10, 11, 12, 13, 14, 15, 16] (w_Mod cI cB cZ cS cT qt qt_state qt_readPage qt_tape qt_cuts qt_letters qt_queue qt_busyTo qt_servedIn qt_waysOn qt_costOn qt_aheads qt_seen qt_isKept qt_lanes qt_lengths qt_cells t_hasLaw t_hasCounters t_highest t_taped t_fault t_broken t_brokenAt t_spot t_here t_token t_value t_queued t_payed t_bestWait t_bestWhom t_bestCoins t_seenMany t_torn t_state t_readPage t_tape t_cuts t_letters t_queue t_busyTo t_servedIn t_waysOn t_costOn t_aheads t_seen t_isKept t_lanes t_lengths t_cells) rfl rfl rfl rfl (by decide) rfl rfl 9 0 rfl rfl rfl rfl hl.1 rfl (Nat.le_of_ble_eq_true rfl) dX9_sell_11 ⟨Nat.zero_le _, Nat.zero_le _⟩ (fun H locs hP hD hS => ?_)
    refine mr_if_eq (tgt := 22) hx hb hM dX9_sell_14 (by decide) (fun hM => ?_) (fun hM => ?_)
    · refine lv_iconst (v := (-1)) hx hb dX9_sell_22 (by decide) ?_
      have hM := Option.some.inj hM
      subst hM
      exact mr_iret hx hb hr hlocks hQ hP hD hS rfl dX9_sell_23
    · refine lv_iload_n hx hb dX9_sell_17 rfl (lv_at hl 3 rfl) ?_
      refine lv_iload_n hx hb dX9_sell_18 rfl (lv_at hl 2 rfl) ?_
      refine mr_icmp_ne (tgt := 24) hx hb hM dX9_sell_19 (by decide) (fun hM => ?_) (fun hM => ?_)
      · refine lv_aload_n hx hb dX9_sell_24 rfl (lv_at hl 0 rfl) ?_
        refine va_get (D := D) (ci := 9) (v := .ref qt_state) (C := RX9) (T := TX9) (N := 34) hx hb hts inX9w hown hK hP 0 rfl rfl 0 (by decide) hf7 (fun _ h9 => h9) rfl dX9_sell_25 ?_
        refine lv_iload_n hx hb dX9_sell_28 rfl (lv_at hl 1 rfl) ?_
        refine lv_iload_n hx hb dX9_sell_29 rfl (lv_at hl 2 rfl) ?_
        obtain ⟨o_3, hc, hM⟩ := bind_so hM
        refine mr_callSi (As := [.int p1, .int p2]) (rest := [.ref qt_state]) ⟨hx, hb, hml, hown, hts⟩ (k_Mod_debtAt l D cI cB cZ cS cT   p1 p2 _ hc) (cwS 2 hts gX9_sell_X9_debtAt rfl rfl rfl (by decide +kernel) ⟨Nat.le_of_ble_eq_true rfl, Nat.le_of_ble_eq_true rfl⟩) hK hP hD hS hA rfl hl.1 rfl (Nat.le_of_ble_eq_true rfl) dX9_sell_30 ⟨Nat.zero_le _, Nat.zero_le _⟩ (fun H locs hP hS => ?_)
        refine mr_iald hx hb hK hP 1 0 rfl rfl hM dX9_sell_33 (fun v_4 hM => ?_)
        refine lv_istore (lv' := [(4, .int v_4), (0, .ref qt), (1, .int p1), (2, .int p2), (3, .int p3)]) hx hb dX9_sell_34 hl (by decide) rfl (fun ls hl => ?_)
        refine lv_iload hx hb dX9_sell_36 (lv_at hl 0 rfl) ?_
        refine mr_if_ne (tgt := 44) hx hb hM dX9_sell_38 (by decide) (fun hM => ?_) (fun hM => ?_)
        · refine lv_iload_n hx hb dX9_sell_44 rfl (lv_at hl 4 rfl) ?_
          refine lv_iload_n hx hb dX9_sell_45 rfl (lv_at hl 2 rfl) ?_
          refine mr_jn hM (fun j71_5 => ∀ _u : Unit, j71_5 _u = some o → ∀ (H : Heap) (locs : List Loc), va_P D vwCl (w_Mod cI cB cZ cS cT qt qt_state qt_readPage qt_tape qt_cuts qt_letters qt_queue qt_busyTo qt_servedIn qt_waysOn qt_costOn qt_aheads qt_seen qt_isKept qt_lanes qt_lengths qt_cells t_hasLaw t_hasCounters t_highest t_taped t_fault t_broken t_brokenAt t_spot t_here t_token t_value t_queued t_payed t_bestWait t_bestWhom t_bestCoins t_seenMany t_torn t_state t_readPage t_tape t_cuts t_letters t_queue t_busyTo t_servedIn t_waysOn t_costOn t_aheads t_seen t_isKept t_lanes t_lengths t_cells) H → va_D A (w_Mod cI cB cZ cS cT qt qt_state qt_readPage qt_tape qt_cuts qt_letters qt_queue qt_busyTo qt_servedIn qt_waysOn qt_costOn qt_aheads qt_seen qt_isKept qt_lanes qt_lengths qt_cells t_hasLaw t_hasCounters t_highest t_taped t_fault t_broken t_brokenAt t_spot t_here t_token t_value t_queued t_payed t_bestWait t_bestWhom t_bestCoins t_seenMany t_torn t_state t_readPage t_tape t_cuts t_letters t_queue t_busyTo t_servedIn t_waysOn t_costOn t_aheads t_seen t_isKept t_lanes t_lengths t_cells) → va_S A s.heap H locs → ∀ ls : Array Slot, lv_has ls 5 [(0, .ref qt), (1, .int p1), (2, .int p2), (3, .int p3), (4, .int v_4)] → W p l e rmX9_sell s m av below meth c H locs 0 0 Q (F0 m 71 ls [])) (fun _u hM H locs hP hD hS ls hl => ?_) (fun j71_5 hj71_5 hM => ?_)
          · refine lv_aload_n hx hb dX9_sell_71 rfl (lv_at hl 0 rfl) ?_
            refine va_get (D := D) (ci := 9) (v := .ref qt_state) (C := RX9) (T := TX9) (N := 34) hx hb hts inX9w hown hK hP 0 rfl rfl 0 (by decide) hf7 (fun _ h9 => h9) rfl dX9_sell_72 ?_
            refine lv_iload_n hx hb dX9_sell_75 rfl (lv_at hl 1 rfl) ?_
            refine lv_iload_n hx hb dX9_sell_76 rfl (lv_at hl 2 rfl) ?_
            obtain ⟨o_6, hc, hM⟩ := bind_so hM
            refine mr_callSi (As := [.int p1, .int p2]) (rest := [.ref qt_state]) ⟨hx, hb, hml, hown, hts⟩ (k_Mod_debtAt l D cI cB cZ cS cT   p1 p2 _ hc) (cwS 2 hts gX9_sell_X9_debtAt rfl rfl rfl (by decide +kernel) ⟨Nat.le_of_ble_eq_true rfl, Nat.le_of_ble_eq_true rfl⟩) hK hP hD hS hA rfl hl.1 rfl (Nat.le_of_ble_eq_true rfl) dX9_sell_77 ⟨Nat.zero_le _, Nat.zero_le _⟩ (fun H locs hP hS => ?_)
            refine lv_iconst (v := 0) hx hb dX9_sell_80 (by decide) ?_
            refine mr_iast hx hb hK hP hD hS 1 0 (fun t_state_7 => (w_Mod cI cB cZ cS cT qt qt_state qt_readPage qt_tape qt_cuts qt_letters qt_queue qt_busyTo qt_servedIn qt_waysOn qt_costOn qt_aheads qt_seen qt_isKept qt_lanes qt_lengths qt_cells t_hasLaw t_hasCounters t_highest t_taped t_fault t_broken t_brokenAt t_spot t_here t_token t_value t_queued t_payed t_bestWait t_bestWhom t_bestCoins t_seenMany t_torn t_state_7 t_readPage t_tape t_cuts t_letters t_queue t_busyTo t_servedIn t_waysOn t_costOn t_aheads t_seen t_isKept t_lanes t_lengths t_cells)) rfl rfl (fun _ => rfl) hM dX9_sell_81 (fun t_state_7 hM H locs hP hD hS => ?_)
            refine lv_aload_n hx hb dX9_sell_82 rfl (lv_at hl 0 rfl) ?_
            refine va_get (D := D) (ci := 9) (v := .ref qt_state) (C := RX9) (T := TX9) (N := 34) hx hb hts inX9w hown hK hP 0 rfl rfl 0 (by decide) hf7 (fun _ h9 => h9) rfl dX9_sell_83 ?_
            refine lv_iload_n hx hb dX9_sell_86 rfl (lv_at hl 1 rfl) ?_
            refine lv_iload_n hx hb dX9_sell_87 rfl (lv_at hl 3 rfl) ?_
            obtain ⟨o_8, hc, hM⟩ := bind_so hM
            refine mr_callSi (As := [.int p1, .int p3]) (rest := [.ref qt_state]) ⟨hx, hb, hml, hown, hts⟩ (k_Mod_debtAt l D cI cB cZ cS cT   p1 p3 _ hc) (cwS 2 hts gX9_sell_X9_debtAt rfl rfl rfl (by decide +kernel) ⟨Nat.le_of_ble_eq_true rfl, Nat.le_of_ble_eq_true rfl⟩) hK hP hD hS hA rfl hl.1 rfl (Nat.le_of_ble_eq_true rfl) dX9_sell_88 ⟨Nat.zero_le _, Nat.zero_le _⟩ (fun H locs hP hS => ?_)
            refine lv_dup2_11 hx hb dX9_sell_91 rfl rfl ?_
            refine mr_iald hx hb hK hP 1 0 rfl rfl hM dX9_sell_92 (fun v_9 hM => ?_)
            refine lv_iload_n hx hb dX9_sell_93 rfl (lv_at hl 3 rfl) ?_
            refine lv_iload_n hx hb dX9_sell_94 rfl (lv_at hl 1 rfl) ?_
            refine mr_jn hM (fun j104_10 => ∀ (y_11 y_12 y_13 : Int32), j104_10 y_11 y_12 y_13 = some o → ∀ (H : Heap) (locs : List Loc), va_P D vwCl (w_Mod cI cB cZ cS cT qt qt_state qt_readPage qt_tape qt_cuts qt_letters qt_queue qt_busyTo qt_servedIn qt_waysOn qt_costOn qt_aheads qt_seen qt_isKept qt_lanes qt_lengths qt_cells t_hasLaw t_hasCounters t_highest t_taped t_fault t_broken t_brokenAt t_spot t_here t_token t_value t_queued t_payed t_bestWait t_bestWhom t_bestCoins t_seenMany t_torn t_state_7 t_readPage t_tape t_cuts t_letters t_queue t_busyTo t_servedIn t_waysOn t_costOn t_aheads t_seen t_isKept t_lanes t_lengths t_cells) H → va_D A (w_Mod cI cB cZ cS cT qt qt_state qt_readPage qt_tape qt_cuts qt_letters qt_queue qt_busyTo qt_servedIn qt_waysOn qt_costOn qt_aheads qt_seen qt_isKept qt_lanes qt_lengths qt_cells t_hasLaw t_hasCounters t_highest t_taped t_fault t_broken t_brokenAt t_spot t_here t_token t_value t_queued t_payed t_bestWait t_bestWhom t_bestCoins t_seenMany t_torn t_state_7 t_readPage t_tape t_cuts t_letters t_queue t_busyTo t_servedIn t_waysOn t_costOn t_aheads t_seen t_isKept t_lanes t_lengths t_cells) → va_S A s.heap H locs → ∀ ls : Array Slot, lv_has ls 5 [(0, .ref qt), (1, .int p1), (3, .int p3)] → W p l e rmX9_sell s m av below meth c H locs 0 0 Q (F0 m 104 ls [.int y_13, .int y_12, .int y_11, .ref qt_state])) (fun y_11 y_12 y_13 hM H locs hP hD hS ls hl => ?_) (fun j104_10 hj104_10 hM => ?_)
            · refine lv_iadd hx hb dX9_sell_104 ?_
              refine mr_iast hx hb hK hP hD hS 1 0 (fun t_state_14 => (w_Mod cI cB cZ cS cT qt qt_state qt_readPage qt_tape qt_cuts qt_letters qt_queue qt_busyTo qt_servedIn qt_waysOn qt_costOn qt_aheads qt_seen qt_isKept qt_lanes qt_lengths qt_cells t_hasLaw t_hasCounters t_highest t_taped t_fault t_broken t_brokenAt t_spot t_here t_token t_value t_queued t_payed t_bestWait t_bestWhom t_bestCoins t_seenMany t_torn t_state_14 t_readPage t_tape t_cuts t_letters t_queue t_busyTo t_servedIn t_waysOn t_costOn t_aheads t_seen t_isKept t_lanes t_lengths t_cells)) rfl rfl (fun _ => rfl) hM dX9_sell_105 (fun t_state_14 hM H locs hP hD hS => ?_)
              refine lv_iload_n hx hb dX9_sell_106 rfl (lv_at hl 2 rfl) ?_
              refine lv_iload_n hx hb dX9_sell_107 rfl (lv_at hl 1 rfl) ?_
              refine mr_icmp_ne (tgt := 115) hx hb hM dX9_sell_108 (by decide) (fun hM => ?_) (fun hM => ?_)
              · refine lv_aload_n hx hb dX9_sell_115 rfl (lv_at hl 0 rfl) ?_
                refine va_get (D := D) (ci := 9) (v := .ref qt_state) (C := RX9) (T := TX9) (N := 34) hx hb hts inX9w hown hK hP 0 rfl rfl 0 (by decide) hf7 (fun _ h9 => h9) rfl dX9_sell_116 ?_
                refine lv_iload_n hx hb dX9_sell_119 rfl (lv_at hl 1 rfl) ?_
                refine lv_iload_n hx hb dX9_sell_120 rfl (lv_at hl 2 rfl) ?_
                obtain ⟨o_15, hc, hM⟩ := bind_so hM
                refine mr_callSi (As := [.int p1, .int p3]) (rest := [.ref qt_state]) ⟨hx, hb, hml, hown, hts⟩ (k_Mod_debtAt l D cI cB cZ cS cT   p1 p3 _ hc) (cwS 2 hts gX9_sell_X9_debtAt rfl rfl rfl (by decide +kernel) ⟨Nat.le_of_ble_eq_true rfl, Nat.le_of_ble_eq_true rfl⟩) hK hP hD hS hA rfl hl.1 rfl (Nat.le_of_ble_eq_true rfl) dX9_sell_121 ⟨Nat.zero_le _, Nat.zero_le _⟩ (fun H locs hP hS => ?_)
                refine mr_iald hx hb hK hP 1 0 rfl rfl hM dX9_sell_124 (fun v_16 hM => ?_)
                have hM := Option.some.inj hM
                subst hM
                exact mr_iret hx hb hr hlocks hQ hP hD hS rfl dX9_sell_125
              · refine lv_iconst (v := 0) hx hb dX9_sell_111 (by decide) ?_
                refine lv_goto (tgt := 125) hx hb dX9_sell_112 (by decide) ?_
                have hM := Option.some.inj hM
                subst hM
                exact mr_iret hx hb hr hlocks hQ hP hD hS rfl dX9_sell_125
            · refine mr_icmp_ne (tgt := 102) hx hb hM dX9_sell_95 (by decide) (fun hM => ?_) (fun hM => ?_)
              · refine lv_iload hx hb dX9_sell_102 (lv_at hl 4 rfl) ?_
                exact hj104_10 o_8 v_9 v_4 hM _ _ hP hD hS ls (lv_sub hl [0, 1, 3] rfl)
              · refine lv_iconst (v := 0) hx hb dX9_sell_98 (by decide) ?_
                refine lv_goto (tgt := 104) hx hb dX9_sell_99 (by decide) ?_
                exact hj104_10 o_8 v_9 0 hM _ _ hP hD hS ls (lv_sub hl [0, 1, 3] rfl)
          · refine mr_icmp_eq (tgt := 71) hx hb hM dX9_sell_46 (by decide) (fun hM => ?_) (fun hM => ?_)
            · exact hj71_5 () hM _ _ hP hD hS ls (lv_sub hl [1, 2, 3, 4, 0] rfl)
            · refine lv_aload_n hx hb dX9_sell_49 rfl (lv_at hl 1 rfl) ?_
              refine va_get (D := D) (ci := 9) (v := .ref qt_state) (C := RX9) (T := TX9) (N := 34) hx hb hts inX9w hown hK hP 0 rfl rfl 0 (by decide) hf7 (fun _ h9 => h9) rfl dX9_sell_50 ?_
              refine lv_iload_n hx hb dX9_sell_53 rfl (lv_at hl 2 rfl) ?_
              refine lv_iload_n hx hb dX9_sell_54 rfl (lv_at hl 4 rfl) ?_
              obtain ⟨o_17, hc, hM⟩ := bind_so hM
              refine mr_callSi (As := [.int p1, .int p3]) (rest := [.ref qt_state]) ⟨hx, hb, hml, hown, hts⟩ (k_Mod_debtAt l D cI cB cZ cS cT   p1 p3 _ hc) (cwS 2 hts gX9_sell_X9_debtAt rfl rfl rfl (by decide +kernel) ⟨Nat.le_of_ble_eq_true rfl, Nat.le_of_ble_eq_true rfl⟩) hK hP hD hS hA rfl hl.1 rfl (Nat.le_of_ble_eq_true rfl) dX9_sell_55 ⟨Nat.zero_le _, Nat.zero_le _⟩ (fun H locs hP hS => ?_)
              refine mr_iald hx hb hK hP 1 0 rfl rfl hM dX9_sell_58 (fun v_18 hM => ?_)
              refine lv_iload hx hb dX9_sell_59 (lv_at hl 0 rfl) ?_
              refine lv_iadd hx hb dX9_sell_61 ?_
              refine lv_sipush (v := 999) hx hb dX9_sell_62 (by decide) ?_
              refine mr_icmp_le (tgt := 71) hx hb hM dX9_sell_65 (by decide) (fun hM => ?_) (fun hM => ?_)
              · exact hj71_5 () hM _ _ hP hD hS ls (lv_sub hl [1, 2, 3, 4, 0] rfl)
              · refine lv_bipush (v := (-3)) hx hb dX9_sell_68 (by decide) ?_
                have hM := Option.some.inj hM
                subst hM
                exact mr_iret hx hb hr hlocks hQ hP hD hS rfl dX9_sell_70
        · refine lv_bipush (v := (-4)) hx hb dX9_sell_41 (by decide) ?_
          have hM := Option.some.inj hM
          subst hM
          exact mr_iret hx hb hr hlocks hQ hP hD hS rfl dX9_sell_43
      · refine lv_iconst (v := (-1)) hx hb dX9_sell_22 (by decide) ?_
        have hM := Option.some.inj hM
        subst hM
        exact mr_iret hx hb hr hlocks hQ hP hD hS rfl dX9_sell_23

abbrev rmX9_copies : Room := { frames := 0, cells := 0, slots := 0, locals := 0 }
set_option maxHeartbeats 40000000 in
set_option maxRecDepth 100000 in
theorem k_Mod_copies (l : Launch) (D : va_G) (cI cB cZ cS cT : ClassId) (qt qt_state qt_readPage qt_tape qt_cuts qt_letters qt_queue qt_busyTo qt_servedIn qt_waysOn qt_costOn qt_aheads qt_seen qt_isKept qt_lanes qt_lengths qt_cells : Nat) (t_hasLaw t_hasCounters t_highest t_taped t_fault t_broken t_brokenAt t_spot t_here t_token t_value t_queued t_payed t_bestWait t_bestWhom t_bestCoins t_seenMany t_torn : Int32) (t_state t_readPage t_tape t_cuts t_letters t_queue t_busyTo t_servedIn t_waysOn t_costOn t_aheads t_seen t_isKept t_lanes t_lengths t_cells : Nat → Int32) (p1 p2 : Int32) (o : (Nat → Int32)) (hM : Mod_copies p1 p2 t_state = some o) : mtV l yX9_copies wsX9_copies rmX9_copies D (tys5 cI cB cZ cS cT) [.ref qt, .int p1, .int p2] (w_Mod cI cB cZ cS cT qt qt_state qt_readPage qt_tape qt_cuts qt_letters qt_queue qt_busyTo qt_servedIn qt_waysOn qt_costOn qt_aheads qt_seen qt_isKept qt_lanes qt_lengths qt_cells t_hasLaw t_hasCounters t_highest t_taped t_fault t_broken t_brokenAt t_spot t_here t_token t_value t_queued t_payed t_bestWait t_bestWhom t_bestCoins t_seenMany t_torn t_state t_readPage t_tape t_cuts t_letters t_queue t_busyTo t_servedIn t_waysOn t_costOn t_aheads t_seen t_isKept t_lanes t_lengths t_cells) (w_Mod cI cB cZ cS cT qt qt_state qt_readPage qt_tape qt_cuts qt_letters qt_queue qt_busyTo qt_servedIn qt_waysOn qt_costOn qt_aheads qt_seen qt_isKept qt_lanes qt_lengths qt_cells t_hasLaw t_hasCounters t_highest t_taped t_fault t_broken t_brokenAt t_spot t_here t_token t_value t_queued t_payed t_bestWait t_bestWhom t_bestCoins t_seenMany t_torn o t_readPage t_tape t_cuts t_letters t_queue t_busyTo t_servedIn t_waysOn t_costOn t_aheads t_seen t_isKept t_lanes t_lengths t_cells) := by
  refine mtV.of (cc := cX9_copies) (maxL := 4) (ret := none) (by decide) rfl (Nat.le_of_ble_eq_true rfl) ?_
  intro p e s m below meth c A Q av hav hQ hx hb hr hml hown hts hlocks hK hP hD hA hS ls hl
  have hown : s.vm.findClass RX9 = some m.cls := hown
  have hl : lv_has ls 4 [(0, .ref qt), (1, .int p1), (2, .int p2)] := hl
  unfold Mod_copies at hM
  have inX9w : ∀ w ∈ u_ws RX9 TX9 34, w ∈ wsX9_copies := by decide +kernel
  have hf7 := hts (.fieldLink RX9 7 "LetsInModel" "state" "[I") (by decide +kernel)
  refine lv_iconst (v := 0) hx hb dX9_copies_0 (by decide) ?_
  refine lv_istore_n (lv' := [(3, .int 0), (0, .ref qt), (1, .int p1), (2, .int p2)]) hx hb dX9_copies_1 rfl hl (by decide) rfl (fun ls hl => ?_)
  have hL2 : ∀ (K30 : (Nat → Int32) → Option ((Nat → Int32))), (∀ (t_state_6 : Nat → Int32), K30 t_state_6 = some o → ∀ (H : Heap) (locs : List Loc), va_P D vwCl (w_Mod cI cB cZ cS cT qt qt_state qt_readPage qt_tape qt_cuts qt_letters qt_queue qt_busyTo qt_servedIn qt_waysOn qt_costOn qt_aheads qt_seen qt_isKept qt_lanes qt_lengths qt_cells t_hasLaw t_hasCounters t_highest t_taped t_fault t_broken t_brokenAt t_spot t_here t_token t_value t_queued t_payed t_bestWait t_bestWhom t_bestCoins t_seenMany t_torn t_state_6 t_readPage t_tape t_cuts t_letters t_queue t_busyTo t_servedIn t_waysOn t_costOn t_aheads t_seen t_isKept t_lanes t_lengths t_cells) H → va_D A (w_Mod cI cB cZ cS cT qt qt_state qt_readPage qt_tape qt_cuts qt_letters qt_queue qt_busyTo qt_servedIn qt_waysOn qt_costOn qt_aheads qt_seen qt_isKept qt_lanes qt_lengths qt_cells t_hasLaw t_hasCounters t_highest t_taped t_fault t_broken t_brokenAt t_spot t_here t_token t_value t_queued t_payed t_bestWait t_bestWhom t_bestCoins t_seenMany t_torn t_state_6 t_readPage t_tape t_cuts t_letters t_queue t_busyTo t_servedIn t_waysOn t_costOn t_aheads t_seen t_isKept t_lanes t_lengths t_cells) → va_S A s.heap H locs → ∀ ls : Array Slot, lv_has ls 4 [] → W p l e rmX9_copies s m av below meth c H locs 0 0 Q (F0 m 30 ls [])) → ∀ (n : Nat) (x3_1 : Int32) (t_state_2 : Nat → Int32), Mod_copies_L2 p1 p2 K30 n x3_1 t_state_2 = some o → ∀ (H : Heap) (locs : List Loc), va_P D vwCl (w_Mod cI cB cZ cS cT qt qt_state qt_readPage qt_tape qt_cuts qt_letters qt_queue qt_busyTo qt_servedIn qt_waysOn qt_costOn qt_aheads qt_seen qt_isKept qt_lanes qt_lengths qt_cells t_hasLaw t_hasCounters t_highest t_taped t_fault t_broken t_brokenAt t_spot t_here t_token t_value t_queued t_payed t_bestWait t_bestWhom t_bestCoins t_seenMany t_torn t_state_2 t_readPage t_tape t_cuts t_letters t_queue t_busyTo t_servedIn t_waysOn t_costOn t_aheads t_seen t_isKept t_lanes t_lengths t_cells) H → va_D A (w_Mod cI cB cZ cS cT qt qt_state qt_readPage qt_tape qt_cuts qt_letters qt_queue qt_busyTo qt_servedIn qt_waysOn qt_costOn qt_aheads qt_seen qt_isKept qt_lanes qt_lengths qt_cells t_hasLaw t_hasCounters t_highest t_taped t_fault t_broken t_brokenAt t_spot t_here t_token t_value t_queued t_payed t_bestWait t_bestWhom t_bestCoins t_seenMany t_torn t_state_2 t_readPage t_tape t_cuts t_letters t_queue t_busyTo t_servedIn t_waysOn t_costOn t_aheads t_seen t_isKept t_lanes t_lengths t_cells) → va_S A s.heap H locs → ∀ ls : Array Slot, lv_has ls 4 [(0, .ref qt), (1, .int p1), (2, .int p2), (3, .int x3_1)] → W p l e rmX9_copies s m av below meth c H locs 0 0 Q (F0 m 2 ls []) := by
    intro K30 hK30 n
    induction n with
    | zero =>
      intro x3_1 t_state_2 hM
      rw [Mod_copies_L2] at hM
      cases hM
    | succ n ih =>
      intro x3_1 t_state_2 hM H locs hP hD hS ls hl
      rw [Mod_copies_L2] at hM
      refine lv_iload_n hx hb dX9_copies_2 rfl (lv_at hl 3 rfl) ?_
      refine lv_bipush (v := 94) hx hb dX9_copies_3 (by decide) ?_
      refine mr_icmp_ge (tgt := 30) hx hb hM dX9_copies_5 (by decide) (fun hM => ?_) (fun hM => ?_)
      · exact hK30 t_state_2 hM _ _ hP hD hS ls (lv_sub hl [] rfl)
      · refine lv_aload_n hx hb dX9_copies_8 rfl (lv_at hl 0 rfl) ?_
        refine va_get (D := D) (ci := 9) (v := .ref qt_state) (C := RX9) (T := TX9) (N := 34) hx hb hts inX9w hown hK hP 0 rfl rfl 0 (by decide) hf7 (fun _ h9 => h9) rfl dX9_copies_9 ?_
        refine lv_iload_n hx hb dX9_copies_12 rfl (lv_at hl 2 rfl) ?_
        refine lv_iload_n hx hb dX9_copies_13 rfl (lv_at hl 3 rfl) ?_
        refine lv_iadd hx hb dX9_copies_14 ?_
        refine lv_aload_n hx hb dX9_copies_15 rfl (lv_at hl 0 rfl) ?_
        refine va_get (D := D) (ci := 9) (v := .ref qt_state) (C := RX9) (T := TX9) (N := 34) hx hb hts inX9w hown hK hP 0 rfl rfl 0 (by decide) hf7 (fun _ h9 => h9) rfl dX9_copies_16 ?_
        refine lv_iload_n hx hb dX9_copies_19 rfl (lv_at hl 1 rfl) ?_
        refine lv_iload_n hx hb dX9_copies_20 rfl (lv_at hl 3 rfl) ?_
        refine lv_iadd hx hb dX9_copies_21 ?_
        refine mr_iald hx hb hK hP 1 0 rfl rfl hM dX9_copies_22 (fun v_3 hM => ?_)
        refine mr_iast hx hb hK hP hD hS 1 0 (fun t_state_4 => (w_Mod cI cB cZ cS cT qt qt_state qt_readPage qt_tape qt_cuts qt_letters qt_queue qt_busyTo qt_servedIn qt_waysOn qt_costOn qt_aheads qt_seen qt_isKept qt_lanes qt_lengths qt_cells t_hasLaw t_hasCounters t_highest t_taped t_fault t_broken t_brokenAt t_spot t_here t_token t_value t_queued t_payed t_bestWait t_bestWhom t_bestCoins t_seenMany t_torn t_state_4 t_readPage t_tape t_cuts t_letters t_queue t_busyTo t_servedIn t_waysOn t_costOn t_aheads t_seen t_isKept t_lanes t_lengths t_cells)) rfl rfl (fun _ => rfl) hM dX9_copies_23 (fun t_state_4 hM H locs hP hD hS => ?_)
        refine mr_iinc (k := 3) (d := 1) hx hb (fun x3_5 => [(3, .int x3_5), (0, .ref qt), (1, .int p1), (2, .int p2)]) hM (by decide) dX9_copies_24 hl rfl (by decide) (fun _ => rfl) (fun x3_5 hM ls hl => ?_)
        refine lv_goto (tgt := 2) hx hb dX9_copies_27 (by decide) ?_
        exact ih x3_5 t_state_4 hM _ _ hP hD hS ls (lv_sub hl [1, 2, 3, 0] rfl)
  refine hL2 _ (fun t_state_6 hM H locs hP hD hS ls hl => ?_) _ 0 t_state hM _ _ hP hD hS ls (lv_sub hl [1, 2, 3, 0] rfl)
  have hM := Option.some.inj hM
  subst hM
  exact mr_vret hx hb hr hlocks hQ hP hD hS dX9_copies_30

abbrev rmX9_comesTo : Room := { frames := 3, cells := 0, slots := 0, locals := 70 }
set_option maxHeartbeats 40000000 in
set_option maxRecDepth 100000 in
theorem k_Mod_comesTo (l : Launch) (D : va_G) (cI cB cZ cS cT : ClassId) (qt qt_state qt_readPage qt_tape qt_cuts qt_letters qt_queue qt_busyTo qt_servedIn qt_waysOn qt_costOn qt_aheads qt_seen qt_isKept qt_lanes qt_lengths qt_cells : Nat) (t_hasLaw t_hasCounters t_highest t_taped t_fault t_broken t_brokenAt t_spot t_here t_token t_value t_queued t_payed t_bestWait t_bestWhom t_bestCoins t_seenMany t_torn : Int32) (t_state t_readPage t_tape t_cuts t_letters t_queue t_busyTo t_servedIn t_waysOn t_costOn t_aheads t_seen t_isKept t_lanes t_lengths t_cells : Nat → Int32) (p1 p2 p3 : Int32) (o : Int32 × Int32 × (Nat → Int32) × (Nat → Int32)) (hM : Mod_comesTo p1 p2 p3 t_queued t_payed t_state t_queue = some o) : mtV l yX9_comesTo wsX9_comesTo rmX9_comesTo D (tys5 cI cB cZ cS cT) [.ref qt, .int p1, .int p2, .int p3] (w_Mod cI cB cZ cS cT qt qt_state qt_readPage qt_tape qt_cuts qt_letters qt_queue qt_busyTo qt_servedIn qt_waysOn qt_costOn qt_aheads qt_seen qt_isKept qt_lanes qt_lengths qt_cells t_hasLaw t_hasCounters t_highest t_taped t_fault t_broken t_brokenAt t_spot t_here t_token t_value t_queued t_payed t_bestWait t_bestWhom t_bestCoins t_seenMany t_torn t_state t_readPage t_tape t_cuts t_letters t_queue t_busyTo t_servedIn t_waysOn t_costOn t_aheads t_seen t_isKept t_lanes t_lengths t_cells) (w_Mod cI cB cZ cS cT qt qt_state qt_readPage qt_tape qt_cuts qt_letters qt_queue qt_busyTo qt_servedIn qt_waysOn qt_costOn qt_aheads qt_seen qt_isKept qt_lanes qt_lengths qt_cells t_hasLaw t_hasCounters t_highest t_taped t_fault t_broken t_brokenAt t_spot t_here t_token t_value o.1 o.2.1 t_bestWait t_bestWhom t_bestCoins t_seenMany t_torn o.2.2.1 t_readPage t_tape t_cuts t_letters o.2.2.2 t_busyTo t_servedIn t_waysOn t_costOn t_aheads t_seen t_isKept t_lanes t_lengths t_cells) := by
  refine mtV.of (cc := cX9_comesTo) (maxL := 8) (ret := none) (by decide) rfl (Nat.le_of_ble_eq_true rfl) ?_
  intro p e s m below meth c A Q av hav hQ hx hb hr hml hown hts hlocks hK hP hD hA hS ls hl
  have hown : s.vm.findClass RX9 = some m.cls := hown
  have hl : lv_has ls 8 [(0, .ref qt), (1, .int p1), (2, .int p2), (3, .int p3)] := hl
  unfold Mod_comesTo at hM
  have inX9w : ∀ w ∈ u_ws RX9 TX9 34, w ∈ wsX9_comesTo := by decide +kernel
  have hf187 := hts (.fieldLink RX9 187 "LetsInModel" "queued" "I") (by decide +kernel)
  have hf25 := hts (.fieldLink RX9 25 "LetsInModel" "queue" "[I") (by decide +kernel)
  have hf7 := hts (.fieldLink RX9 7 "LetsInModel" "state" "[I") (by decide +kernel)
  have hf190 := hts (.fieldLink RX9 190 "LetsInModel" "payed" "I") (by decide +kernel)
  refine lv_aload_n hx hb dX9_comesTo_0 rfl (lv_at hl 0 rfl) ?_
  refine va_get (D := D) (ci := 9) (v := .int t_queued) (C := RX9) (T := TX9) (N := 34) hx hb hts inX9w hown hK hP 0 rfl rfl 17 (by decide) hf187 (fun _ h9 => h9) rfl dX9_comesTo_1 ?_
  refine lv_istore (lv' := [(4, .int t_queued), (0, .ref qt), (1, .int p1), (2, .int p2), (3, .int p3)]) hx hb dX9_comesTo_4 hl (by decide) rfl (fun ls hl => ?_)
  refine lv_aload_n hx hb dX9_comesTo_6 rfl (lv_at hl 1 rfl) ?_
  refine va_get (D := D) (ci := 9) (v := .ref qt_queue) (C := RX9) (T := TX9) (N := 34) hx hb hts inX9w hown hK hP 0 rfl rfl 16 (by decide) hf25 (fun _ h9 => h9) rfl dX9_comesTo_7 ?_
  refine lv_iload hx hb dX9_comesTo_10 (lv_at hl 0 rfl) ?_
  refine lv_iload_n hx hb dX9_comesTo_12 rfl (lv_at hl 3 rfl) ?_
  refine mr_iast hx hb hK hP hD hS 6 0 (fun t_queue_1 => (w_Mod cI cB cZ cS cT qt qt_state qt_readPage qt_tape qt_cuts qt_letters qt_queue qt_busyTo qt_servedIn qt_waysOn qt_costOn qt_aheads qt_seen qt_isKept qt_lanes qt_lengths qt_cells t_hasLaw t_hasCounters t_highest t_taped t_fault t_broken t_brokenAt t_spot t_here t_token t_value t_queued t_payed t_bestWait t_bestWhom t_bestCoins t_seenMany t_torn t_state t_readPage t_tape t_cuts t_letters t_queue_1 t_busyTo t_servedIn t_waysOn t_costOn t_aheads t_seen t_isKept t_lanes t_lengths t_cells)) rfl rfl (fun _ => rfl) hM dX9_comesTo_13 (fun t_queue_1 hM H locs hP hD hS => ?_)
  refine lv_aload_n hx hb dX9_comesTo_14 rfl (lv_at hl 1 rfl) ?_
  refine lv_dup hx hb dX9_comesTo_15 rfl ?_
  refine va_get (D := D) (ci := 9) (v := .int t_queued) (C := RX9) (T := TX9) (N := 34) hx hb hts inX9w hown hK hP 0 rfl rfl 17 (by decide) hf187 (fun _ h9 => h9) rfl dX9_comesTo_16 ?_
  refine lv_iconst (v := 1) hx hb dX9_comesTo_19 (by decide) ?_
  refine lv_iadd hx hb dX9_comesTo_20 ?_
  refine mr_nmI hM (fun t_queued_2 hM => ?_)
  refine mr_put (D := D) (ci := 9) (v := .int t_queued_2) (ty := .int) (C := RX9) (T := TX9) (N := 34) hx hb hts inX9w tyX9 tyX9_ok nmX9 hown hK hP hD hS 0 rfl rfl 17 (by decide) hf187 (fun _ h9 => h9) rfl (by decide +kernel) rfl rfl (Nat.le_of_ble_eq_true rfl) dX9_comesTo_21 (w_Mod cI cB cZ cS cT qt qt_state qt_readPage qt_tape qt_cuts qt_letters qt_queue qt_busyTo qt_servedIn qt_waysOn qt_costOn qt_aheads qt_seen qt_isKept qt_lanes qt_lengths qt_cells t_hasLaw t_hasCounters t_highest t_taped t_fault t_broken t_brokenAt t_spot t_here t_token t_value t_queued_2 t_payed t_bestWait t_bestWhom t_bestCoins t_seenMany t_torn t_state t_readPage t_tape t_cuts t_letters t_queue_1 t_busyTo t_servedIn t_waysOn t_costOn t_aheads t_seen t_isKept t_lanes t_lengths t_cells) rfl (fun H locs hP hD hS => ?_)
  have hL24 : ∀ (K192 : Int32 → (Nat → Int32) → (Nat → Int32) → Option (Int32 × Int32 × (Nat → Int32) × (Nat → Int32))), (∀ (t_payed_23 : Int32) (t_state_24 t_queue_25 : Nat → Int32), K192 t_payed_23 t_state_24 t_queue_25 = some o → ∀ (H : Heap) (locs : List Loc), va_P D vwCl (w_Mod cI cB cZ cS cT qt qt_state qt_readPage qt_tape qt_cuts qt_letters qt_queue qt_busyTo qt_servedIn qt_waysOn qt_costOn qt_aheads qt_seen qt_isKept qt_lanes qt_lengths qt_cells t_hasLaw t_hasCounters t_highest t_taped t_fault t_broken t_brokenAt t_spot t_here t_token t_value t_queued_2 t_payed_23 t_bestWait t_bestWhom t_bestCoins t_seenMany t_torn t_state_24 t_readPage t_tape t_cuts t_letters t_queue_25 t_busyTo t_servedIn t_waysOn t_costOn t_aheads t_seen t_isKept t_lanes t_lengths t_cells) H → va_D A (w_Mod cI cB cZ cS cT qt qt_state qt_readPage qt_tape qt_cuts qt_letters qt_queue qt_busyTo qt_servedIn qt_waysOn qt_costOn qt_aheads qt_seen qt_isKept qt_lanes qt_lengths qt_cells t_hasLaw t_hasCounters t_highest t_taped t_fault t_broken t_brokenAt t_spot t_here t_token t_value t_queued_2 t_payed_23 t_bestWait t_bestWhom t_bestCoins t_seenMany t_torn t_state_24 t_readPage t_tape t_cuts t_letters t_queue_25 t_busyTo t_servedIn t_waysOn t_costOn t_aheads t_seen t_isKept t_lanes t_lengths t_cells) → va_S A s.heap H locs → ∀ ls : Array Slot, lv_has ls 8 [] → W p l e rmX9_comesTo s m av below meth c H locs 0 0 Q (F0 m 192 ls [])) → ∀ (n : Nat) (x4_3 t_payed_4 : Int32) (t_state_5 t_queue_6 : Nat → Int32), Mod_comesTo_L24 p1 p2 p3 K192 n x4_3 t_payed_4 t_state_5 t_queue_6 = some o → ∀ (H : Heap) (locs : List Loc), va_P D vwCl (w_Mod cI cB cZ cS cT qt qt_state qt_readPage qt_tape qt_cuts qt_letters qt_queue qt_busyTo qt_servedIn qt_waysOn qt_costOn qt_aheads qt_seen qt_isKept qt_lanes qt_lengths qt_cells t_hasLaw t_hasCounters t_highest t_taped t_fault t_broken t_brokenAt t_spot t_here t_token t_value t_queued_2 t_payed_4 t_bestWait t_bestWhom t_bestCoins t_seenMany t_torn t_state_5 t_readPage t_tape t_cuts t_letters t_queue_6 t_busyTo t_servedIn t_waysOn t_costOn t_aheads t_seen t_isKept t_lanes t_lengths t_cells) H → va_D A (w_Mod cI cB cZ cS cT qt qt_state qt_readPage qt_tape qt_cuts qt_letters qt_queue qt_busyTo qt_servedIn qt_waysOn qt_costOn qt_aheads qt_seen qt_isKept qt_lanes qt_lengths qt_cells t_hasLaw t_hasCounters t_highest t_taped t_fault t_broken t_brokenAt t_spot t_here t_token t_value t_queued_2 t_payed_4 t_bestWait t_bestWhom t_bestCoins t_seenMany t_torn t_state_5 t_readPage t_tape t_cuts t_letters t_queue_6 t_busyTo t_servedIn t_waysOn t_costOn t_aheads t_seen t_isKept t_lanes t_lengths t_cells) → va_S A s.heap H locs → ∀ ls : Array Slot, lv_has ls 8 [(0, .ref qt), (1, .int p1), (2, .int p2), (3, .int p3), (4, .int x4_3)] → W p l e rmX9_comesTo s m av below meth c H locs 0 0 Q (F0 m 24 ls []) := by
    intro K192 hK192 n
    induction n with
    | zero =>
      intro x4_3 t_payed_4 t_state_5 t_queue_6 hM
      rw [Mod_comesTo_L24] at hM
      cases hM
    | succ n ih =>
      intro x4_3 t_payed_4 t_state_5 t_queue_6 hM H locs hP hD hS ls hl
      rw [Mod_comesTo_L24] at hM
      refine lv_iload hx hb dX9_comesTo_24 (lv_at hl 4 rfl) ?_
      refine mr_if_le (tgt := 192) hx hb hM dX9_comesTo_26 (by decide) (fun hM => ?_) (fun hM => ?_)
      · exact hK192 t_payed_4 t_state_5 t_queue_6 hM _ _ hP hD hS ls (lv_sub hl [] rfl)
      · refine lv_aload_n hx hb dX9_comesTo_29 rfl (lv_at hl 0 rfl) ?_
        refine lv_iload_n hx hb dX9_comesTo_30 rfl (lv_at hl 1 rfl) ?_
        refine lv_aload_n hx hb dX9_comesTo_31 rfl (lv_at hl 0 rfl) ?_
        refine va_get (D := D) (ci := 9) (v := .ref qt_queue) (C := RX9) (T := TX9) (N := 34) hx hb hts inX9w hown hK hP 0 rfl rfl 16 (by decide) hf25 (fun _ h9 => h9) rfl dX9_comesTo_32 ?_
        refine lv_iload hx hb dX9_comesTo_35 (lv_at hl 4 rfl) ?_
        refine lv_iconst (v := 1) hx hb dX9_comesTo_37 (by decide) ?_
        refine lv_isub hx hb dX9_comesTo_38 ?_
        refine mr_iald hx hb hK hP 6 0 rfl rfl hM dX9_comesTo_39 (fun v_7 hM => ?_)
        refine lv_iload_n hx hb dX9_comesTo_40 rfl (lv_at hl 2 rfl) ?_
        obtain ⟨o_8, hc, hM⟩ := bind_so hM
        refine mr_callVi (As := [.int p1, .int v_7, .int p2]) (rest := []) (wr := []) ⟨hx, hb, hml, hown, hts⟩ (k_Mod_mustLet l D cI cB cZ cS cT qt qt_state qt_readPage qt_tape qt_cuts qt_letters qt_queue qt_busyTo qt_servedIn qt_waysOn qt_costOn qt_aheads qt_seen qt_isKept qt_lanes qt_lengths qt_cells t_hasLaw t_hasCounters t_highest t_taped t_fault t_broken t_brokenAt t_spot t_here t_token t_value t_queued_2 t_payed_4 t_bestWait t_bestWhom t_bestCoins t_seenMany t_torn t_state_5 t_readPage t_tape t_cuts t_letters t_queue_6 t_busyTo t_servedIn t_waysOn t_costOn t_aheads t_seen t_isKept t_lanes t_lengths t_cells p1 v_7 p2 _ hc) (cwV 3 hts gX9_comesTo_X9_mustLet rfl rfl rfl (by decide +kernel) ⟨Nat.le_of_ble_eq_true rfl, Nat.le_of_ble_eq_true rfl⟩) hK hP hD hS hA [0, 1, 2, 3, 4, 5, 6, 7, 8, 9, 10, 11, 12, 13, 14, 15, 16] [] [0, 1, 2, 3, 4, 5, 6, 7, 8, 9, 10, 11, 12, 13, 14, 15, 16] (w_Mod cI cB cZ cS cT qt qt_state qt_readPage qt_tape qt_cuts qt_letters qt_queue qt_busyTo qt_servedIn qt_waysOn qt_costOn qt_aheads qt_seen qt_isKept qt_lanes qt_lengths qt_cells t_hasLaw t_hasCounters t_highest t_taped t_fault t_broken t_brokenAt t_spot t_here t_token t_value t_queued_2 t_payed_4 t_bestWait t_bestWhom t_bestCoins t_seenMany t_torn t_state_5 t_readPage t_tape t_cuts t_letters t_queue_6 t_busyTo t_servedIn t_waysOn t_costOn t_aheads t_seen t_isKept t_lanes t_lengths t_cells) rfl rfl rfl rfl (by decide) rfl rfl 9 0 rfl rfl rfl rfl hl.1 rfl (Nat.le_of_ble_eq_true rfl) dX9_comesTo_41 ⟨Nat.zero_le _, Nat.zero_le _⟩ (fun H locs hP hD hS => ?_)
        refine mr_if_eq (tgt := 192) hx hb hM dX9_comesTo_44 (by decide) (fun hM => ?_) (fun hM => ?_)
        · exact hK192 t_payed_4 t_state_5 t_queue_6 hM _ _ hP hD hS ls (lv_sub hl [] rfl)
        · refine lv_aload_n hx hb dX9_comesTo_47 rfl (lv_at hl 0 rfl) ?_
          refine va_get (D := D) (ci := 9) (v := .ref qt_queue) (C := RX9) (T := TX9) (N := 34) hx hb hts inX9w hown hK hP 0 rfl rfl 16 (by decide) hf25 (fun _ h9 => h9) rfl dX9_comesTo_48 ?_
          refine lv_iload hx hb dX9_comesTo_51 (lv_at hl 4 rfl) ?_
          refine lv_iconst (v := 1) hx hb dX9_comesTo_53 (by decide) ?_
          refine lv_isub hx hb dX9_comesTo_54 ?_
          refine mr_iald hx hb hK hP 6 0 rfl rfl hM dX9_comesTo_55 (fun v_9 hM => ?_)
          refine lv_istore (lv' := [(5, .int v_9), (0, .ref qt), (1, .int p1), (2, .int p2), (3, .int p3), (4, .int x4_3)]) hx hb dX9_comesTo_56 hl (by decide) rfl (fun ls hl => ?_)
          refine lv_aload_n hx hb dX9_comesTo_58 rfl (lv_at hl 1 rfl) ?_
          refine va_get (D := D) (ci := 9) (v := .ref qt_state) (C := RX9) (T := TX9) (N := 34) hx hb hts inX9w hown hK hP 0 rfl rfl 0 (by decide) hf7 (fun _ h9 => h9) rfl dX9_comesTo_59 ?_
          refine lv_iload_n hx hb dX9_comesTo_62 rfl (lv_at hl 2 rfl) ?_
          refine lv_iload hx hb dX9_comesTo_63 (lv_at hl 0 rfl) ?_
          refine lv_iload_n hx hb dX9_comesTo_65 rfl (lv_at hl 3 rfl) ?_
          obtain ⟨o_10, hc, hM⟩ := bind_so hM
          refine mr_callSi (As := [.int v_9, .int p2]) (rest := [.int p1, .ref qt_state]) ⟨hx, hb, hml, hown, hts⟩ (k_Mod_debtAt l D cI cB cZ cS cT   v_9 p2 _ hc) (cwS 2 hts gX9_comesTo_X9_debtAt rfl rfl rfl (by decide +kernel) ⟨Nat.le_of_ble_eq_true rfl, Nat.le_of_ble_eq_true rfl⟩) hK hP hD hS hA rfl hl.1 rfl (Nat.le_of_ble_eq_true rfl) dX9_comesTo_66 ⟨Nat.zero_le _, Nat.zero_le _⟩ (fun H locs hP hS => ?_)
          refine lv_iadd hx hb dX9_comesTo_69 ?_
          refine mr_iald hx hb hK hP 1 0 rfl rfl hM dX9_comesTo_70 (fun v_11 hM => ?_)
          refine lv_istore (lv' := [(6, .int v_11), (5, .int v_9), (0, .ref qt), (1, .int p1), (2, .int p2), (3, .int p3), (4, .int x4_3)]) hx hb dX9_comesTo_71 hl (by decide) rfl (fun ls hl => ?_)
          refine lv_iload_n hx hb dX9_comesTo_73 rfl (lv_at hl 5 rfl) ?_
          refine mr_jn hM (fun j137_12 => ∀ (y_13 : Int32), j137_12 y_13 = some o → ∀ (H : Heap) (locs : List Loc), va_P D vwCl (w_Mod cI cB cZ cS cT qt qt_state qt_readPage qt_tape qt_cuts qt_letters qt_queue qt_busyTo qt_servedIn qt_waysOn qt_costOn qt_aheads qt_seen qt_isKept qt_lanes qt_lengths qt_cells t_hasLaw t_hasCounters t_highest t_taped t_fault t_broken t_brokenAt t_spot t_here t_token t_value t_queued_2 t_payed_4 t_bestWait t_bestWhom t_bestCoins t_seenMany t_torn t_state_5 t_readPage t_tape t_cuts t_letters t_queue_6 t_busyTo t_servedIn t_waysOn t_costOn t_aheads t_seen t_isKept t_lanes t_lengths t_cells) H → va_D A (w_Mod cI cB cZ cS cT qt qt_state qt_readPage qt_tape qt_cuts qt_letters qt_queue qt_busyTo qt_servedIn qt_waysOn qt_costOn qt_aheads qt_seen qt_isKept qt_lanes qt_lengths qt_cells t_hasLaw t_hasCounters t_highest t_taped t_fault t_broken t_brokenAt t_spot t_here t_token t_value t_queued_2 t_payed_4 t_bestWait t_bestWhom t_bestCoins t_seenMany t_torn t_state_5 t_readPage t_tape t_cuts t_letters t_queue_6 t_busyTo t_servedIn t_waysOn t_costOn t_aheads t_seen t_isKept t_lanes t_lengths t_cells) → va_S A s.heap H locs → ∀ ls : Array Slot, lv_has ls 8 [(0, .ref qt), (1, .int p1), (2, .int p2), (3, .int p3), (4, .int x4_3), (5, .int v_9), (6, .int v_11)] → W p l e rmX9_comesTo s m av below meth c H locs 0 0 Q (F0 m 137 ls [.int y_13])) (fun y_13 hM H locs hP hD hS ls hl => ?_) (fun j137_12 hj137_12 hM => ?_)
          · refine lv_istore (lv' := [(7, .int y_13), (0, .ref qt), (1, .int p1), (2, .int p2), (3, .int p3), (4, .int x4_3), (5, .int v_9), (6, .int v_11)]) hx hb dX9_comesTo_137 hl (by decide) rfl (fun ls hl => ?_)
            refine lv_iload hx hb dX9_comesTo_139 (lv_at hl 0 rfl) ?_
            refine mr_if_eq (tgt := 167) hx hb hM dX9_comesTo_141 (by decide) (fun hM => ?_) (fun hM => ?_)
            · refine lv_aload_n hx hb dX9_comesTo_167 rfl (lv_at hl 1 rfl) ?_
              refine va_get (D := D) (ci := 9) (v := .ref qt_queue) (C := RX9) (T := TX9) (N := 34) hx hb hts inX9w hown hK hP 0 rfl rfl 16 (by decide) hf25 (fun _ h9 => h9) rfl dX9_comesTo_168 ?_
              refine lv_iload hx hb dX9_comesTo_171 (lv_at hl 5 rfl) ?_
              refine lv_iload hx hb dX9_comesTo_173 (lv_at hl 6 rfl) ?_
              refine mr_iast hx hb hK hP hD hS 6 0 (fun t_queue_14 => (w_Mod cI cB cZ cS cT qt qt_state qt_readPage qt_tape qt_cuts qt_letters qt_queue qt_busyTo qt_servedIn qt_waysOn qt_costOn qt_aheads qt_seen qt_isKept qt_lanes qt_lengths qt_cells t_hasLaw t_hasCounters t_highest t_taped t_fault t_broken t_brokenAt t_spot t_here t_token t_value t_queued_2 t_payed_4 t_bestWait t_bestWhom t_bestCoins t_seenMany t_torn t_state_5 t_readPage t_tape t_cuts t_letters t_queue_14 t_busyTo t_servedIn t_waysOn t_costOn t_aheads t_seen t_isKept t_lanes t_lengths t_cells)) rfl rfl (fun _ => rfl) hM dX9_comesTo_175 (fun t_queue_14 hM H locs hP hD hS => ?_)
              refine lv_aload_n hx hb dX9_comesTo_176 rfl (lv_at hl 1 rfl) ?_
              refine va_get (D := D) (ci := 9) (v := .ref qt_queue) (C := RX9) (T := TX9) (N := 34) hx hb hts inX9w hown hK hP 0 rfl rfl 16 (by decide) hf25 (fun _ h9 => h9) rfl dX9_comesTo_177 ?_
              refine lv_iload hx hb dX9_comesTo_180 (lv_at hl 5 rfl) ?_
              refine lv_iconst (v := 1) hx hb dX9_comesTo_182 (by decide) ?_
              refine lv_isub hx hb dX9_comesTo_183 ?_
              refine lv_iload_n hx hb dX9_comesTo_184 rfl (lv_at hl 3 rfl) ?_
              refine mr_iast hx hb hK hP hD hS 6 0 (fun t_queue_15 => (w_Mod cI cB cZ cS cT qt qt_state qt_readPage qt_tape qt_cuts qt_letters qt_queue qt_busyTo qt_servedIn qt_waysOn qt_costOn qt_aheads qt_seen qt_isKept qt_lanes qt_lengths qt_cells t_hasLaw t_hasCounters t_highest t_taped t_fault t_broken t_brokenAt t_spot t_here t_token t_value t_queued_2 t_payed_4 t_bestWait t_bestWhom t_bestCoins t_seenMany t_torn t_state_5 t_readPage t_tape t_cuts t_letters t_queue_15 t_busyTo t_servedIn t_waysOn t_costOn t_aheads t_seen t_isKept t_lanes t_lengths t_cells)) rfl rfl (fun _ => rfl) hM dX9_comesTo_185 (fun t_queue_15 hM H locs hP hD hS => ?_)
              refine mr_iinc (k := 5) (d := (-1)) hx hb (fun x4_16 => [(4, .int x4_16), (7, .int y_13), (0, .ref qt), (1, .int p1), (2, .int p2), (3, .int p3), (5, .int v_9), (6, .int v_11)]) hM (by decide) dX9_comesTo_186 hl rfl (by decide) (fun _ => rfl) (fun x4_16 hM ls hl => ?_)
              refine lv_goto (tgt := 24) hx hb dX9_comesTo_189 (by decide) ?_
              exact ih x4_16 t_payed_4 t_state_5 t_queue_15 hM _ _ hP hD hS ls (lv_sub hl [2, 3, 4, 5, 0] rfl)
            · refine lv_aload_n hx hb dX9_comesTo_144 rfl (lv_at hl 1 rfl) ?_
              refine lv_iload_n hx hb dX9_comesTo_145 rfl (lv_at hl 2 rfl) ?_
              refine lv_iload hx hb dX9_comesTo_146 (lv_at hl 6 rfl) ?_
              refine lv_iload_n hx hb dX9_comesTo_148 rfl (lv_at hl 3 rfl) ?_
              obtain ⟨o_17, hc, hM⟩ := bind_so hM
              refine mr_callVi (As := [.int p1, .int v_9, .int p2]) (rest := []) (wr := []) ⟨hx, hb, hml, hown, hts⟩ (k_Mod_paysAll l D cI cB cZ cS cT qt qt_state qt_readPage qt_tape qt_cuts qt_letters qt_queue qt_busyTo qt_servedIn qt_waysOn qt_costOn qt_aheads qt_seen qt_isKept qt_lanes qt_lengths qt_cells t_hasLaw t_hasCounters t_highest t_taped t_fault t_broken t_brokenAt t_spot t_here t_token t_value t_queued_2 t_payed_4 t_bestWait t_bestWhom t_bestCoins t_seenMany t_torn t_state_5 t_readPage t_tape t_cuts t_letters t_queue_6 t_busyTo t_servedIn t_waysOn t_costOn t_aheads t_seen t_isKept t_lanes t_lengths t_cells p1 v_9 p2 _ hc) (cwV 3 hts gX9_comesTo_X9_paysAll rfl rfl rfl (by decide +kernel) ⟨Nat.le_of_ble_eq_true rfl, Nat.le_of_ble_eq_true rfl⟩) hK hP hD hS hA [0, 1, 2, 3, 4, 5, 6, 7, 8, 9, 10, 11, 12, 13, 14, 15, 16] [] [0, 1, 2, 3, 4, 5, 6, 7, 8, 9, 10, 11, 12, 13, 14, 15, 16] (w_Mod cI cB cZ cS cT qt qt_state qt_readPage qt_tape qt_cuts qt_letters qt_queue qt_busyTo qt_servedIn qt_waysOn qt_costOn qt_aheads qt_seen qt_isKept qt_lanes qt_lengths qt_cells t_hasLaw t_hasCounters t_highest t_taped t_fault t_broken t_brokenAt t_spot t_here t_token t_value t_queued_2 t_payed_4 t_bestWait t_bestWhom t_bestCoins t_seenMany t_torn o_17.2 t_readPage t_tape t_cuts t_letters t_queue_6 t_busyTo t_servedIn t_waysOn t_costOn t_aheads t_seen t_isKept t_lanes t_lengths t_cells) rfl rfl rfl rfl (by decide) rfl rfl 9 0 rfl rfl rfl rfl hl.1 rfl (Nat.le_of_ble_eq_true rfl) dX9_comesTo_149 ⟨Nat.zero_le _, Nat.zero_le _⟩ (fun H locs hP hD hS => ?_)
              refine lv_pop hx hb dX9_comesTo_152 rfl ?_
              refine lv_aload_n hx hb dX9_comesTo_153 rfl (lv_at hl 1 rfl) ?_
              refine lv_dup hx hb dX9_comesTo_154 rfl ?_
              refine va_get (D := D) (ci := 9) (v := .int t_payed_4) (C := RX9) (T := TX9) (N := 34) hx hb hts inX9w hown hK hP 0 rfl rfl 20 (by decide) hf190 (fun _ h9 => h9) rfl dX9_comesTo_155 ?_
              refine lv_iload hx hb dX9_comesTo_158 (lv_at hl 7 rfl) ?_
              refine lv_iadd hx hb dX9_comesTo_160 ?_
              refine mr_nmI hM (fun t_payed_18 hM => ?_)
              refine mr_put (D := D) (ci := 9) (v := .int t_payed_18) (ty := .int) (C := RX9) (T := TX9) (N := 34) hx hb hts inX9w tyX9 tyX9_ok nmX9 hown hK hP hD hS 0 rfl rfl 20 (by decide) hf190 (fun _ h9 => h9) rfl (by decide +kernel) rfl rfl (Nat.le_of_ble_eq_true rfl) dX9_comesTo_161 (w_Mod cI cB cZ cS cT qt qt_state qt_readPage qt_tape qt_cuts qt_letters qt_queue qt_busyTo qt_servedIn qt_waysOn qt_costOn qt_aheads qt_seen qt_isKept qt_lanes qt_lengths qt_cells t_hasLaw t_hasCounters t_highest t_taped t_fault t_broken t_brokenAt t_spot t_here t_token t_value t_queued_2 t_payed_18 t_bestWait t_bestWhom t_bestCoins t_seenMany t_torn o_17.2 t_readPage t_tape t_cuts t_letters t_queue_6 t_busyTo t_servedIn t_waysOn t_costOn t_aheads t_seen t_isKept t_lanes t_lengths t_cells) rfl (fun H locs hP hD hS => ?_)
              refine lv_goto (tgt := 189) hx hb dX9_comesTo_164 (by decide) ?_
              refine lv_goto (tgt := 24) hx hb dX9_comesTo_189 (by decide) ?_
              exact ih x4_3 t_payed_18 o_17.2 t_queue_6 hM _ _ hP hD hS ls (lv_sub hl [1, 2, 3, 4, 5] rfl)
          · refine mr_jn hM (fun j136_19 => ∀ _u : Unit, j136_19 _u = some o → ∀ (H : Heap) (locs : List Loc), va_P D vwCl (w_Mod cI cB cZ cS cT qt qt_state qt_readPage qt_tape qt_cuts qt_letters qt_queue qt_busyTo qt_servedIn qt_waysOn qt_costOn qt_aheads qt_seen qt_isKept qt_lanes qt_lengths qt_cells t_hasLaw t_hasCounters t_highest t_taped t_fault t_broken t_brokenAt t_spot t_here t_token t_value t_queued_2 t_payed_4 t_bestWait t_bestWhom t_bestCoins t_seenMany t_torn t_state_5 t_readPage t_tape t_cuts t_letters t_queue_6 t_busyTo t_servedIn t_waysOn t_costOn t_aheads t_seen t_isKept t_lanes t_lengths t_cells) H → va_D A (w_Mod cI cB cZ cS cT qt qt_state qt_readPage qt_tape qt_cuts qt_letters qt_queue qt_busyTo qt_servedIn qt_waysOn qt_costOn qt_aheads qt_seen qt_isKept qt_lanes qt_lengths qt_cells t_hasLaw t_hasCounters t_highest t_taped t_fault t_broken t_brokenAt t_spot t_here t_token t_value t_queued_2 t_payed_4 t_bestWait t_bestWhom t_bestCoins t_seenMany t_torn t_state_5 t_readPage t_tape t_cuts t_letters t_queue_6 t_busyTo t_servedIn t_waysOn t_costOn t_aheads t_seen t_isKept t_lanes t_lengths t_cells) → va_S A s.heap H locs → ∀ ls : Array Slot, lv_has ls 8 [(0, .ref qt), (1, .int p1), (2, .int p2), (3, .int p3), (4, .int x4_3), (5, .int v_9), (6, .int v_11)] → W p l e rmX9_comesTo s m av below meth c H locs 0 0 Q (F0 m 136 ls [])) (fun _u hM H locs hP hD hS ls hl => ?_) (fun j136_19 hj136_19 hM => ?_)
            · refine lv_iconst (v := 0) hx hb dX9_comesTo_136 (by decide) ?_
              exact hj137_12 0 hM _ _ hP hD hS ls (lv_sub hl [0, 1, 2, 3, 4, 5, 6] rfl)
            · refine mr_if_eq (tgt := 136) hx hb hM dX9_comesTo_74 (by decide) (fun hM => ?_) (fun hM => ?_)
              · exact hj136_19 () hM _ _ hP hD hS ls (lv_sub hl [2, 3, 4, 5, 6, 1, 0] rfl)
              · refine lv_aload_n hx hb dX9_comesTo_77 rfl (lv_at hl 2 rfl) ?_
                refine va_get (D := D) (ci := 9) (v := .ref qt_state) (C := RX9) (T := TX9) (N := 34) hx hb hts inX9w hown hK hP 0 rfl rfl 0 (by decide) hf7 (fun _ h9 => h9) rfl dX9_comesTo_78 ?_
                refine lv_iload_n hx hb dX9_comesTo_81 rfl (lv_at hl 3 rfl) ?_
                refine lv_bipush (v := 6) hx hb dX9_comesTo_82 (by decide) ?_
                refine lv_iload hx hb dX9_comesTo_84 (lv_at hl 1 rfl) ?_
                refine lv_imul hx hb dX9_comesTo_86 ?_
                refine lv_iadd hx hb dX9_comesTo_87 ?_
                refine mr_iald hx hb hK hP 1 0 rfl rfl hM dX9_comesTo_88 (fun v_20 hM => ?_)
                refine lv_iconst (v := 1) hx hb dX9_comesTo_89 (by decide) ?_
                refine mr_icmp_ne (tgt := 136) hx hb hM dX9_comesTo_90 (by decide) (fun hM => ?_) (fun hM => ?_)
                · exact hj136_19 () hM _ _ hP hD hS ls (lv_sub hl [2, 3, 4, 5, 6, 1, 0] rfl)
                · refine lv_aload_n hx hb dX9_comesTo_93 rfl (lv_at hl 2 rfl) ?_
                  refine va_get (D := D) (ci := 9) (v := .ref qt_state) (C := RX9) (T := TX9) (N := 34) hx hb hts inX9w hown hK hP 0 rfl rfl 0 (by decide) hf7 (fun _ h9 => h9) rfl dX9_comesTo_94 ?_
                  refine lv_iload_n hx hb dX9_comesTo_97 rfl (lv_at hl 3 rfl) ?_
                  refine lv_bipush (v := 6) hx hb dX9_comesTo_98 (by decide) ?_
                  refine lv_iload_n hx hb dX9_comesTo_100 rfl (lv_at hl 4 rfl) ?_
                  refine lv_imul hx hb dX9_comesTo_101 ?_
                  refine lv_iadd hx hb dX9_comesTo_102 ?_
                  refine mr_iald hx hb hK hP 1 0 rfl rfl hM dX9_comesTo_103 (fun v_21 hM => ?_)
                  refine lv_iconst (v := 3) hx hb dX9_comesTo_104 (by decide) ?_
                  refine mr_icmp_eq (tgt := 136) hx hb hM dX9_comesTo_105 (by decide) (fun hM => ?_) (fun hM => ?_)
                  · exact hj136_19 () hM _ _ hP hD hS ls (lv_sub hl [2, 3, 4, 5, 6, 1, 0] rfl)
                  · refine lv_iload hx hb dX9_comesTo_108 (lv_at hl 0 rfl) ?_
                    refine mr_if_le (tgt := 136) hx hb hM dX9_comesTo_110 (by decide) (fun hM => ?_) (fun hM => ?_)
                    · exact hj136_19 () hM _ _ hP hD hS ls (lv_sub hl [2, 3, 4, 5, 6, 1, 0] rfl)
                    · refine lv_aload_n hx hb dX9_comesTo_113 rfl (lv_at hl 2 rfl) ?_
                      refine va_get (D := D) (ci := 9) (v := .ref qt_state) (C := RX9) (T := TX9) (N := 34) hx hb hts inX9w hown hK hP 0 rfl rfl 0 (by decide) hf7 (fun _ h9 => h9) rfl dX9_comesTo_114 ?_
                      refine lv_iload_n hx hb dX9_comesTo_117 rfl (lv_at hl 3 rfl) ?_
                      refine lv_bipush (v := 6) hx hb dX9_comesTo_118 (by decide) ?_
                      refine lv_iload hx hb dX9_comesTo_120 (lv_at hl 1 rfl) ?_
                      refine lv_imul hx hb dX9_comesTo_122 ?_
                      refine lv_iadd hx hb dX9_comesTo_123 ?_
                      refine lv_iconst (v := 4) hx hb dX9_comesTo_124 (by decide) ?_
                      refine lv_iadd hx hb dX9_comesTo_125 ?_
                      refine mr_iald hx hb hK hP 1 0 rfl rfl hM dX9_comesTo_126 (fun v_22 hM => ?_)
                      refine lv_iload hx hb dX9_comesTo_127 (lv_at hl 0 rfl) ?_
                      refine mr_icmp_lt (tgt := 136) hx hb hM dX9_comesTo_129 (by decide) (fun hM => ?_) (fun hM => ?_)
                      · exact hj136_19 () hM _ _ hP hD hS ls (lv_sub hl [2, 3, 4, 5, 6, 1, 0] rfl)
                      · refine lv_iconst (v := 1) hx hb dX9_comesTo_132 (by decide) ?_
                        refine lv_goto (tgt := 137) hx hb dX9_comesTo_133 (by decide) ?_
                        exact hj137_12 1 hM _ _ hP hD hS ls (lv_sub hl [2, 3, 4, 5, 6, 1, 0] rfl)
  refine hL24 _ (fun t_payed_23 t_state_24 t_queue_25 hM H locs hP hD hS ls hl => ?_) _ t_queued t_payed t_state t_queue_1 hM _ _ hP hD hS ls (lv_sub hl [1, 2, 3, 4, 0] rfl)
  have hM := Option.some.inj hM
  subst hM
  exact mr_vret hx hb hr hlocks hQ hP hD hS dX9_comesTo_192

abbrev rmX9_takesFront : Room := { frames := 0, cells := 0, slots := 0, locals := 0 }
set_option maxHeartbeats 40000000 in
set_option maxRecDepth 100000 in
theorem k_Mod_takesFront (l : Launch) (D : va_G) (cI cB cZ cS cT : ClassId) (qt qt_state qt_readPage qt_tape qt_cuts qt_letters qt_queue qt_busyTo qt_servedIn qt_waysOn qt_costOn qt_aheads qt_seen qt_isKept qt_lanes qt_lengths qt_cells : Nat) (t_hasLaw t_hasCounters t_highest t_taped t_fault t_broken t_brokenAt t_spot t_here t_token t_value t_queued t_payed t_bestWait t_bestWhom t_bestCoins t_seenMany t_torn : Int32) (t_state t_readPage t_tape t_cuts t_letters t_queue t_busyTo t_servedIn t_waysOn t_costOn t_aheads t_seen t_isKept t_lanes t_lengths t_cells : Nat → Int32)  (o : Int32 × Int32 × (Nat → Int32)) (hM : Mod_takesFront t_queued t_queue = some o) : mtI l yX9_takesFront wsX9_takesFront rmX9_takesFront D (tys5 cI cB cZ cS cT) [.ref qt] (w_Mod cI cB cZ cS cT qt qt_state qt_readPage qt_tape qt_cuts qt_letters qt_queue qt_busyTo qt_servedIn qt_waysOn qt_costOn qt_aheads qt_seen qt_isKept qt_lanes qt_lengths qt_cells t_hasLaw t_hasCounters t_highest t_taped t_fault t_broken t_brokenAt t_spot t_here t_token t_value t_queued t_payed t_bestWait t_bestWhom t_bestCoins t_seenMany t_torn t_state t_readPage t_tape t_cuts t_letters t_queue t_busyTo t_servedIn t_waysOn t_costOn t_aheads t_seen t_isKept t_lanes t_lengths t_cells) (w_Mod cI cB cZ cS cT qt qt_state qt_readPage qt_tape qt_cuts qt_letters qt_queue qt_busyTo qt_servedIn qt_waysOn qt_costOn qt_aheads qt_seen qt_isKept qt_lanes qt_lengths qt_cells t_hasLaw t_hasCounters t_highest t_taped t_fault t_broken t_brokenAt t_spot t_here t_token t_value o.2.1 t_payed t_bestWait t_bestWhom t_bestCoins t_seenMany t_torn t_state t_readPage t_tape t_cuts t_letters o.2.2 t_busyTo t_servedIn t_waysOn t_costOn t_aheads t_seen t_isKept t_lanes t_lengths t_cells) o.1 := by
  refine mtI.of (cc := cX9_takesFront) (maxL := 3) (ret := (some .int)) (by decide) rfl (Nat.le_of_ble_eq_true rfl) ?_
  intro p e s m below meth c A Q av hav hQ hx hb hr hml hown hts hlocks hK hP hD hA hS ls hl
  have hown : s.vm.findClass RX9 = some m.cls := hown
  have hl : lv_has ls 3 [(0, .ref qt)] := hl
  unfold Mod_takesFront at hM
  have inX9w : ∀ w ∈ u_ws RX9 TX9 34, w ∈ wsX9_takesFront := by decide +kernel
  have hf25 := hts (.fieldLink RX9 25 "LetsInModel" "queue" "[I") (by decide +kernel)
  have hf187 := hts (.fieldLink RX9 187 "LetsInModel" "queued" "I") (by decide +kernel)
  refine lv_aload_n hx hb dX9_takesFront_0 rfl (lv_at hl 0 rfl) ?_
  refine va_get (D := D) (ci := 9) (v := .ref qt_queue) (C := RX9) (T := TX9) (N := 34) hx hb hts inX9w hown hK hP 0 rfl rfl 16 (by decide) hf25 (fun _ h9 => h9) rfl dX9_takesFront_1 ?_
  refine lv_iconst (v := 0) hx hb dX9_takesFront_4 (by decide) ?_
  refine mr_iald hx hb hK hP 6 0 rfl rfl hM dX9_takesFront_5 (fun v_1 hM => ?_)
  refine lv_istore_n (lv' := [(1, .int v_1), (0, .ref qt)]) hx hb dX9_takesFront_6 rfl hl (by decide) rfl (fun ls hl => ?_)
  refine lv_aload_n hx hb dX9_takesFront_7 rfl (lv_at hl 1 rfl) ?_
  refine lv_dup hx hb dX9_takesFront_8 rfl ?_
  refine va_get (D := D) (ci := 9) (v := .int t_queued) (C := RX9) (T := TX9) (N := 34) hx hb hts inX9w hown hK hP 0 rfl rfl 17 (by decide) hf187 (fun _ h9 => h9) rfl dX9_takesFront_9 ?_
  refine lv_iconst (v := 1) hx hb dX9_takesFront_12 (by decide) ?_
  refine lv_isub hx hb dX9_takesFront_13 ?_
  refine mr_nmI hM (fun t_queued_2 hM => ?_)
  refine mr_put (D := D) (ci := 9) (v := .int t_queued_2) (ty := .int) (C := RX9) (T := TX9) (N := 34) hx hb hts inX9w tyX9 tyX9_ok nmX9 hown hK hP hD hS 0 rfl rfl 17 (by decide) hf187 (fun _ h9 => h9) rfl (by decide +kernel) rfl rfl (Nat.le_of_ble_eq_true rfl) dX9_takesFront_14 (w_Mod cI cB cZ cS cT qt qt_state qt_readPage qt_tape qt_cuts qt_letters qt_queue qt_busyTo qt_servedIn qt_waysOn qt_costOn qt_aheads qt_seen qt_isKept qt_lanes qt_lengths qt_cells t_hasLaw t_hasCounters t_highest t_taped t_fault t_broken t_brokenAt t_spot t_here t_token t_value t_queued_2 t_payed t_bestWait t_bestWhom t_bestCoins t_seenMany t_torn t_state t_readPage t_tape t_cuts t_letters t_queue t_busyTo t_servedIn t_waysOn t_costOn t_aheads t_seen t_isKept t_lanes t_lengths t_cells) rfl (fun H locs hP hD hS => ?_)
  refine lv_iconst (v := 0) hx hb dX9_takesFront_17 (by decide) ?_
  refine lv_istore_n (lv' := [(2, .int 0), (1, .int v_1), (0, .ref qt)]) hx hb dX9_takesFront_18 rfl hl (by decide) rfl (fun ls hl => ?_)
  have hL19 : ∀ (K47 : (Nat → Int32) → Option (Int32 × Int32 × (Nat → Int32))), (∀ (t_queue_8 : Nat → Int32), K47 t_queue_8 = some o → ∀ (H : Heap) (locs : List Loc), va_P D vwCl (w_Mod cI cB cZ cS cT qt qt_state qt_readPage qt_tape qt_cuts qt_letters qt_queue qt_busyTo qt_servedIn qt_waysOn qt_costOn qt_aheads qt_seen qt_isKept qt_lanes qt_lengths qt_cells t_hasLaw t_hasCounters t_highest t_taped t_fault t_broken t_brokenAt t_spot t_here t_token t_value t_queued_2 t_payed t_bestWait t_bestWhom t_bestCoins t_seenMany t_torn t_state t_readPage t_tape t_cuts t_letters t_queue_8 t_busyTo t_servedIn t_waysOn t_costOn t_aheads t_seen t_isKept t_lanes t_lengths t_cells) H → va_D A (w_Mod cI cB cZ cS cT qt qt_state qt_readPage qt_tape qt_cuts qt_letters qt_queue qt_busyTo qt_servedIn qt_waysOn qt_costOn qt_aheads qt_seen qt_isKept qt_lanes qt_lengths qt_cells t_hasLaw t_hasCounters t_highest t_taped t_fault t_broken t_brokenAt t_spot t_here t_token t_value t_queued_2 t_payed t_bestWait t_bestWhom t_bestCoins t_seenMany t_torn t_state t_readPage t_tape t_cuts t_letters t_queue_8 t_busyTo t_servedIn t_waysOn t_costOn t_aheads t_seen t_isKept t_lanes t_lengths t_cells) → va_S A s.heap H locs → ∀ ls : Array Slot, lv_has ls 3 [(1, .int v_1)] → W p l e rmX9_takesFront s m av below meth c H locs 0 0 Q (F0 m 47 ls [])) → ∀ (n : Nat) (x2_3 : Int32) (t_queue_4 : Nat → Int32), Mod_takesFront_L19 t_queued_2 K47 n x2_3 t_queue_4 = some o → ∀ (H : Heap) (locs : List Loc), va_P D vwCl (w_Mod cI cB cZ cS cT qt qt_state qt_readPage qt_tape qt_cuts qt_letters qt_queue qt_busyTo qt_servedIn qt_waysOn qt_costOn qt_aheads qt_seen qt_isKept qt_lanes qt_lengths qt_cells t_hasLaw t_hasCounters t_highest t_taped t_fault t_broken t_brokenAt t_spot t_here t_token t_value t_queued_2 t_payed t_bestWait t_bestWhom t_bestCoins t_seenMany t_torn t_state t_readPage t_tape t_cuts t_letters t_queue_4 t_busyTo t_servedIn t_waysOn t_costOn t_aheads t_seen t_isKept t_lanes t_lengths t_cells) H → va_D A (w_Mod cI cB cZ cS cT qt qt_state qt_readPage qt_tape qt_cuts qt_letters qt_queue qt_busyTo qt_servedIn qt_waysOn qt_costOn qt_aheads qt_seen qt_isKept qt_lanes qt_lengths qt_cells t_hasLaw t_hasCounters t_highest t_taped t_fault t_broken t_brokenAt t_spot t_here t_token t_value t_queued_2 t_payed t_bestWait t_bestWhom t_bestCoins t_seenMany t_torn t_state t_readPage t_tape t_cuts t_letters t_queue_4 t_busyTo t_servedIn t_waysOn t_costOn t_aheads t_seen t_isKept t_lanes t_lengths t_cells) → va_S A s.heap H locs → ∀ ls : Array Slot, lv_has ls 3 [(0, .ref qt), (1, .int v_1), (2, .int x2_3)] → W p l e rmX9_takesFront s m av below meth c H locs 0 0 Q (F0 m 19 ls []) := by
    intro K47 hK47 n
    induction n with
    | zero =>
      intro x2_3 t_queue_4 hM
      rw [Mod_takesFront_L19] at hM
      cases hM
    | succ n ih =>
      intro x2_3 t_queue_4 hM H locs hP hD hS ls hl
      rw [Mod_takesFront_L19] at hM
      refine lv_iload_n hx hb dX9_takesFront_19 rfl (lv_at hl 2 rfl) ?_
      refine lv_aload_n hx hb dX9_takesFront_20 rfl (lv_at hl 0 rfl) ?_
      refine va_get (D := D) (ci := 9) (v := .int t_queued_2) (C := RX9) (T := TX9) (N := 34) hx hb hts inX9w hown hK hP 0 rfl rfl 17 (by decide) hf187 (fun _ h9 => h9) rfl dX9_takesFront_21 ?_
      refine mr_icmp_ge (tgt := 47) hx hb hM dX9_takesFront_24 (by decide) (fun hM => ?_) (fun hM => ?_)
      · exact hK47 t_queue_4 hM _ _ hP hD hS ls (lv_sub hl [1] rfl)
      · refine lv_aload_n hx hb dX9_takesFront_27 rfl (lv_at hl 0 rfl) ?_
        refine va_get (D := D) (ci := 9) (v := .ref qt_queue) (C := RX9) (T := TX9) (N := 34) hx hb hts inX9w hown hK hP 0 rfl rfl 16 (by decide) hf25 (fun _ h9 => h9) rfl dX9_takesFront_28 ?_
        refine lv_iload_n hx hb dX9_takesFront_31 rfl (lv_at hl 2 rfl) ?_
        refine lv_aload_n hx hb dX9_takesFront_32 rfl (lv_at hl 0 rfl) ?_
        refine va_get (D := D) (ci := 9) (v := .ref qt_queue) (C := RX9) (T := TX9) (N := 34) hx hb hts inX9w hown hK hP 0 rfl rfl 16 (by decide) hf25 (fun _ h9 => h9) rfl dX9_takesFront_33 ?_
        refine lv_iload_n hx hb dX9_takesFront_36 rfl (lv_at hl 2 rfl) ?_
        refine lv_iconst (v := 1) hx hb dX9_takesFront_37 (by decide) ?_
        refine lv_iadd hx hb dX9_takesFront_38 ?_
        refine mr_iald hx hb hK hP 6 0 rfl rfl hM dX9_takesFront_39 (fun v_5 hM => ?_)
        refine mr_iast hx hb hK hP hD hS 6 0 (fun t_queue_6 => (w_Mod cI cB cZ cS cT qt qt_state qt_readPage qt_tape qt_cuts qt_letters qt_queue qt_busyTo qt_servedIn qt_waysOn qt_costOn qt_aheads qt_seen qt_isKept qt_lanes qt_lengths qt_cells t_hasLaw t_hasCounters t_highest t_taped t_fault t_broken t_brokenAt t_spot t_here t_token t_value t_queued_2 t_payed t_bestWait t_bestWhom t_bestCoins t_seenMany t_torn t_state t_readPage t_tape t_cuts t_letters t_queue_6 t_busyTo t_servedIn t_waysOn t_costOn t_aheads t_seen t_isKept t_lanes t_lengths t_cells)) rfl rfl (fun _ => rfl) hM dX9_takesFront_40 (fun t_queue_6 hM H locs hP hD hS => ?_)
        refine mr_iinc (k := 2) (d := 1) hx hb (fun x2_7 => [(2, .int x2_7), (0, .ref qt), (1, .int v_1)]) hM (by decide) dX9_takesFront_41 hl rfl (by decide) (fun _ => rfl) (fun x2_7 hM ls hl => ?_)
        refine lv_goto (tgt := 19) hx hb dX9_takesFront_44 (by decide) ?_
        exact ih x2_7 t_queue_6 hM _ _ hP hD hS ls (lv_sub hl [1, 2, 0] rfl)
  refine hL19 _ (fun t_queue_8 hM H locs hP hD hS ls hl => ?_) _ 0 t_queue hM _ _ hP hD hS ls (lv_sub hl [2, 1, 0] rfl)
  refine lv_iload_n hx hb dX9_takesFront_47 rfl (lv_at hl 0 rfl) ?_
  have hM := Option.some.inj hM
  subst hM
  exact mr_iret hx hb hr hlocks hQ hP hD hS rfl dX9_takesFront_48

abbrev rmX9_runsTo : Room := { frames := 4, cells := 0, slots := 0, locals := 97 }
set_option maxHeartbeats 40000000 in
set_option maxRecDepth 100000 in
theorem k_Mod_runsTo (l : Launch) (D : va_G) (cI cB cZ cS cT : ClassId) (qt qt_state qt_readPage qt_tape qt_cuts qt_letters qt_queue qt_busyTo qt_servedIn qt_waysOn qt_costOn qt_aheads qt_seen qt_isKept qt_lanes qt_lengths qt_cells : Nat) (t_hasLaw t_hasCounters t_highest t_taped t_fault t_broken t_brokenAt t_spot t_here t_token t_value t_queued t_payed t_bestWait t_bestWhom t_bestCoins t_seenMany t_torn : Int32) (t_state t_readPage t_tape t_cuts t_letters t_queue t_busyTo t_servedIn t_waysOn t_costOn t_aheads t_seen t_isKept t_lanes t_lengths t_cells : Nat → Int32) (p1 : Int32) (o : Int32 × Int32 × (Nat → Int32) × (Nat → Int32) × (Nat → Int32) × (Nat → Int32)) (hM : Mod_runsTo p1 t_state t_queue t_busyTo t_servedIn = some o) : mtV l yX9_runsTo wsX9_runsTo rmX9_runsTo D (tys5 cI cB cZ cS cT) [.ref qt, .int p1] (w_Mod cI cB cZ cS cT qt qt_state qt_readPage qt_tape qt_cuts qt_letters qt_queue qt_busyTo qt_servedIn qt_waysOn qt_costOn qt_aheads qt_seen qt_isKept qt_lanes qt_lengths qt_cells t_hasLaw t_hasCounters t_highest t_taped t_fault t_broken t_brokenAt t_spot t_here t_token t_value t_queued t_payed t_bestWait t_bestWhom t_bestCoins t_seenMany t_torn t_state t_readPage t_tape t_cuts t_letters t_queue t_busyTo t_servedIn t_waysOn t_costOn t_aheads t_seen t_isKept t_lanes t_lengths t_cells) (w_Mod cI cB cZ cS cT qt qt_state qt_readPage qt_tape qt_cuts qt_letters qt_queue qt_busyTo qt_servedIn qt_waysOn qt_costOn qt_aheads qt_seen qt_isKept qt_lanes qt_lengths qt_cells t_hasLaw t_hasCounters t_highest t_taped t_fault t_broken t_brokenAt t_spot t_here t_token t_value o.1 o.2.1 t_bestWait t_bestWhom t_bestCoins t_seenMany t_torn o.2.2.1 t_readPage t_tape t_cuts t_letters o.2.2.2.1 o.2.2.2.2.1 o.2.2.2.2.2 t_waysOn t_costOn t_aheads t_seen t_isKept t_lanes t_lengths t_cells) := by
  refine mtV.of (cc := cX9_runsTo) (maxL := 5) (ret := none) (by decide) rfl (Nat.le_of_ble_eq_true rfl) ?_
  intro p e s m below meth c A Q av hav hQ hx hb hr hml hown hts hlocks hK hP hD hA hS ls hl
  have hown : s.vm.findClass RX9 = some m.cls := hown
  have hl : lv_has ls 5 [(0, .ref qt), (1, .int p1)] := hl
  unfold Mod_runsTo at hM
  have inX9w : ∀ w ∈ u_ws RX9 TX9 34, w ∈ wsX9_runsTo := by decide +kernel
  have hf187 := hts (.fieldLink RX9 187 "LetsInModel" "queued" "I") (by decide +kernel)
  have hf190 := hts (.fieldLink RX9 190 "LetsInModel" "payed" "I") (by decide +kernel)
  have hf28 := hts (.fieldLink RX9 28 "LetsInModel" "busyTo" "[I") (by decide +kernel)
  have hf31 := hts (.fieldLink RX9 31 "LetsInModel" "servedIn" "[I") (by decide +kernel)
  have hf7 := hts (.fieldLink RX9 7 "LetsInModel" "state" "[I") (by decide +kernel)
  refine lv_aload_n hx hb dX9_runsTo_0 rfl (lv_at hl 0 rfl) ?_
  refine lv_iconst (v := 0) hx hb dX9_runsTo_1 (by decide) ?_
  refine mr_put (D := D) (ci := 9) (v := .int 0) (ty := .int) (C := RX9) (T := TX9) (N := 34) hx hb hts inX9w tyX9 tyX9_ok nmX9 hown hK hP hD hS 0 rfl rfl 17 (by decide) hf187 (fun _ h9 => h9) rfl (by decide +kernel) rfl rfl (Nat.le_of_ble_eq_true rfl) dX9_runsTo_2 (w_Mod cI cB cZ cS cT qt qt_state qt_readPage qt_tape qt_cuts qt_letters qt_queue qt_busyTo qt_servedIn qt_waysOn qt_costOn qt_aheads qt_seen qt_isKept qt_lanes qt_lengths qt_cells t_hasLaw t_hasCounters t_highest t_taped t_fault t_broken t_brokenAt t_spot t_here t_token t_value 0 t_payed t_bestWait t_bestWhom t_bestCoins t_seenMany t_torn t_state t_readPage t_tape t_cuts t_letters t_queue t_busyTo t_servedIn t_waysOn t_costOn t_aheads t_seen t_isKept t_lanes t_lengths t_cells) rfl (fun H locs hP hD hS => ?_)
  refine lv_aload_n hx hb dX9_runsTo_5 rfl (lv_at hl 0 rfl) ?_
  refine lv_iconst (v := 0) hx hb dX9_runsTo_6 (by decide) ?_
  refine mr_put (D := D) (ci := 9) (v := .int 0) (ty := .int) (C := RX9) (T := TX9) (N := 34) hx hb hts inX9w tyX9 tyX9_ok nmX9 hown hK hP hD hS 0 rfl rfl 20 (by decide) hf190 (fun _ h9 => h9) rfl (by decide +kernel) rfl rfl (Nat.le_of_ble_eq_true rfl) dX9_runsTo_7 (w_Mod cI cB cZ cS cT qt qt_state qt_readPage qt_tape qt_cuts qt_letters qt_queue qt_busyTo qt_servedIn qt_waysOn qt_costOn qt_aheads qt_seen qt_isKept qt_lanes qt_lengths qt_cells t_hasLaw t_hasCounters t_highest t_taped t_fault t_broken t_brokenAt t_spot t_here t_token t_value 0 0 t_bestWait t_bestWhom t_bestCoins t_seenMany t_torn t_state t_readPage t_tape t_cuts t_letters t_queue t_busyTo t_servedIn t_waysOn t_costOn t_aheads t_seen t_isKept t_lanes t_lengths t_cells) rfl (fun H locs hP hD hS => ?_)
  refine lv_aload_n hx hb dX9_runsTo_10 rfl (lv_at hl 0 rfl) ?_
  refine va_get (D := D) (ci := 9) (v := .ref qt_busyTo) (C := RX9) (T := TX9) (N := 34) hx hb hts inX9w hown hK hP 0 rfl rfl 18 (by decide) hf28 (fun _ h9 => h9) rfl dX9_runsTo_11 ?_
  refine lv_iconst (v := 0) hx hb dX9_runsTo_14 (by decide) ?_
  refine lv_iconst (v := 0) hx hb dX9_runsTo_15 (by decide) ?_
  refine mr_iast hx hb hK hP hD hS 7 0 (fun t_busyTo_1 => (w_Mod cI cB cZ cS cT qt qt_state qt_readPage qt_tape qt_cuts qt_letters qt_queue qt_busyTo qt_servedIn qt_waysOn qt_costOn qt_aheads qt_seen qt_isKept qt_lanes qt_lengths qt_cells t_hasLaw t_hasCounters t_highest t_taped t_fault t_broken t_brokenAt t_spot t_here t_token t_value 0 0 t_bestWait t_bestWhom t_bestCoins t_seenMany t_torn t_state t_readPage t_tape t_cuts t_letters t_queue t_busyTo_1 t_servedIn t_waysOn t_costOn t_aheads t_seen t_isKept t_lanes t_lengths t_cells)) rfl rfl (fun _ => rfl) hM dX9_runsTo_16 (fun t_busyTo_1 hM H locs hP hD hS => ?_)
  refine lv_aload_n hx hb dX9_runsTo_17 rfl (lv_at hl 0 rfl) ?_
  refine va_get (D := D) (ci := 9) (v := .ref qt_busyTo) (C := RX9) (T := TX9) (N := 34) hx hb hts inX9w hown hK hP 0 rfl rfl 18 (by decide) hf28 (fun _ h9 => h9) rfl dX9_runsTo_18 ?_
  refine lv_iconst (v := 1) hx hb dX9_runsTo_21 (by decide) ?_
  refine lv_iconst (v := 0) hx hb dX9_runsTo_22 (by decide) ?_
  refine mr_iast hx hb hK hP hD hS 7 0 (fun t_busyTo_2 => (w_Mod cI cB cZ cS cT qt qt_state qt_readPage qt_tape qt_cuts qt_letters qt_queue qt_busyTo qt_servedIn qt_waysOn qt_costOn qt_aheads qt_seen qt_isKept qt_lanes qt_lengths qt_cells t_hasLaw t_hasCounters t_highest t_taped t_fault t_broken t_brokenAt t_spot t_here t_token t_value 0 0 t_bestWait t_bestWhom t_bestCoins t_seenMany t_torn t_state t_readPage t_tape t_cuts t_letters t_queue t_busyTo_2 t_servedIn t_waysOn t_costOn t_aheads t_seen t_isKept t_lanes t_lengths t_cells)) rfl rfl (fun _ => rfl) hM dX9_runsTo_23 (fun t_busyTo_2 hM H locs hP hD hS => ?_)
  refine lv_iconst (v := 0) hx hb dX9_runsTo_24 (by decide) ?_
  refine lv_istore_n (lv' := [(2, .int 0), (0, .ref qt), (1, .int p1)]) hx hb dX9_runsTo_25 rfl hl (by decide) rfl (fun ls hl => ?_)
  have hL26 : ∀ (K46 : (Nat → Int32) → Option (Int32 × Int32 × (Nat → Int32) × (Nat → Int32) × (Nat → Int32) × (Nat → Int32))), (∀ (t_servedIn_7 : Nat → Int32), K46 t_servedIn_7 = some o → ∀ (H : Heap) (locs : List Loc), va_P D vwCl (w_Mod cI cB cZ cS cT qt qt_state qt_readPage qt_tape qt_cuts qt_letters qt_queue qt_busyTo qt_servedIn qt_waysOn qt_costOn qt_aheads qt_seen qt_isKept qt_lanes qt_lengths qt_cells t_hasLaw t_hasCounters t_highest t_taped t_fault t_broken t_brokenAt t_spot t_here t_token t_value 0 0 t_bestWait t_bestWhom t_bestCoins t_seenMany t_torn t_state t_readPage t_tape t_cuts t_letters t_queue t_busyTo_2 t_servedIn_7 t_waysOn t_costOn t_aheads t_seen t_isKept t_lanes t_lengths t_cells) H → va_D A (w_Mod cI cB cZ cS cT qt qt_state qt_readPage qt_tape qt_cuts qt_letters qt_queue qt_busyTo qt_servedIn qt_waysOn qt_costOn qt_aheads qt_seen qt_isKept qt_lanes qt_lengths qt_cells t_hasLaw t_hasCounters t_highest t_taped t_fault t_broken t_brokenAt t_spot t_here t_token t_value 0 0 t_bestWait t_bestWhom t_bestCoins t_seenMany t_torn t_state t_readPage t_tape t_cuts t_letters t_queue t_busyTo_2 t_servedIn_7 t_waysOn t_costOn t_aheads t_seen t_isKept t_lanes t_lengths t_cells) → va_S A s.heap H locs → ∀ ls : Array Slot, lv_has ls 5 [(0, .ref qt), (1, .int p1)] → W p l e rmX9_runsTo s m av below meth c H locs 0 0 Q (F0 m 46 ls [])) → ∀ (n : Nat) (x2_3 : Int32) (t_servedIn_4 : Nat → Int32), Mod_runsTo_L26 K46 n x2_3 t_servedIn_4 = some o → ∀ (H : Heap) (locs : List Loc), va_P D vwCl (w_Mod cI cB cZ cS cT qt qt_state qt_readPage qt_tape qt_cuts qt_letters qt_queue qt_busyTo qt_servedIn qt_waysOn qt_costOn qt_aheads qt_seen qt_isKept qt_lanes qt_lengths qt_cells t_hasLaw t_hasCounters t_highest t_taped t_fault t_broken t_brokenAt t_spot t_here t_token t_value 0 0 t_bestWait t_bestWhom t_bestCoins t_seenMany t_torn t_state t_readPage t_tape t_cuts t_letters t_queue t_busyTo_2 t_servedIn_4 t_waysOn t_costOn t_aheads t_seen t_isKept t_lanes t_lengths t_cells) H → va_D A (w_Mod cI cB cZ cS cT qt qt_state qt_readPage qt_tape qt_cuts qt_letters qt_queue qt_busyTo qt_servedIn qt_waysOn qt_costOn qt_aheads qt_seen qt_isKept qt_lanes qt_lengths qt_cells t_hasLaw t_hasCounters t_highest t_taped t_fault t_broken t_brokenAt t_spot t_here t_token t_value 0 0 t_bestWait t_bestWhom t_bestCoins t_seenMany t_torn t_state t_readPage t_tape t_cuts t_letters t_queue t_busyTo_2 t_servedIn_4 t_waysOn t_costOn t_aheads t_seen t_isKept t_lanes t_lengths t_cells) → va_S A s.heap H locs → ∀ ls : Array Slot, lv_has ls 5 [(0, .ref qt), (1, .int p1), (2, .int x2_3)] → W p l e rmX9_runsTo s m av below meth c H locs 0 0 Q (F0 m 26 ls []) := by
    intro K46 hK46 n
    induction n with
    | zero =>
      intro x2_3 t_servedIn_4 hM
      rw [Mod_runsTo_L26] at hM
      cases hM
    | succ n ih =>
      intro x2_3 t_servedIn_4 hM H locs hP hD hS ls hl
      rw [Mod_runsTo_L26] at hM
      refine lv_iload_n hx hb dX9_runsTo_26 rfl (lv_at hl 2 rfl) ?_
      refine lv_bipush (v := 7) hx hb dX9_runsTo_27 (by decide) ?_
      refine mr_icmp_ge (tgt := 46) hx hb hM dX9_runsTo_29 (by decide) (fun hM => ?_) (fun hM => ?_)
      · exact hK46 t_servedIn_4 hM _ _ hP hD hS ls (lv_sub hl [0, 1] rfl)
      · refine lv_aload_n hx hb dX9_runsTo_32 rfl (lv_at hl 0 rfl) ?_
        refine va_get (D := D) (ci := 9) (v := .ref qt_servedIn) (C := RX9) (T := TX9) (N := 34) hx hb hts inX9w hown hK hP 0 rfl rfl 19 (by decide) hf31 (fun _ h9 => h9) rfl dX9_runsTo_33 ?_
        refine lv_iload_n hx hb dX9_runsTo_36 rfl (lv_at hl 2 rfl) ?_
        refine lv_bipush (v := (-4)) hx hb dX9_runsTo_37 (by decide) ?_
        refine mr_iast hx hb hK hP hD hS 8 0 (fun t_servedIn_5 => (w_Mod cI cB cZ cS cT qt qt_state qt_readPage qt_tape qt_cuts qt_letters qt_queue qt_busyTo qt_servedIn qt_waysOn qt_costOn qt_aheads qt_seen qt_isKept qt_lanes qt_lengths qt_cells t_hasLaw t_hasCounters t_highest t_taped t_fault t_broken t_brokenAt t_spot t_here t_token t_value 0 0 t_bestWait t_bestWhom t_bestCoins t_seenMany t_torn t_state t_readPage t_tape t_cuts t_letters t_queue t_busyTo_2 t_servedIn_5 t_waysOn t_costOn t_aheads t_seen t_isKept t_lanes t_lengths t_cells)) rfl rfl (fun _ => rfl) hM dX9_runsTo_39 (fun t_servedIn_5 hM H locs hP hD hS => ?_)
        refine mr_iinc (k := 2) (d := 1) hx hb (fun x2_6 => [(2, .int x2_6), (0, .ref qt), (1, .int p1)]) hM (by decide) dX9_runsTo_40 hl rfl (by decide) (fun _ => rfl) (fun x2_6 hM ls hl => ?_)
        refine lv_goto (tgt := 26) hx hb dX9_runsTo_43 (by decide) ?_
        exact ih x2_6 t_servedIn_5 hM _ _ hP hD hS ls (lv_sub hl [1, 2, 0] rfl)
  refine hL26 _ (fun t_servedIn_7 hM H locs hP hD hS ls hl => ?_) _ 0 t_servedIn hM _ _ hP hD hS ls (lv_sub hl [1, 2, 0] rfl)
  refine lv_iconst (v := 0) hx hb dX9_runsTo_46 (by decide) ?_
  refine lv_istore_n (lv' := [(2, .int 0), (0, .ref qt), (1, .int p1)]) hx hb dX9_runsTo_47 rfl hl (by decide) rfl (fun ls hl => ?_)
  have hL48 : ∀ (K182 : Int32 → Int32 → (Nat → Int32) → (Nat → Int32) → (Nat → Int32) → (Nat → Int32) → Option (Int32 × Int32 × (Nat → Int32) × (Nat → Int32) × (Nat → Int32) × (Nat → Int32))), (∀ (t_queued_48 t_payed_49 : Int32) (t_state_50 t_queue_51 t_busyTo_52 t_servedIn_53 : Nat → Int32), K182 t_queued_48 t_payed_49 t_state_50 t_queue_51 t_busyTo_52 t_servedIn_53 = some o → ∀ (H : Heap) (locs : List Loc), va_P D vwCl (w_Mod cI cB cZ cS cT qt qt_state qt_readPage qt_tape qt_cuts qt_letters qt_queue qt_busyTo qt_servedIn qt_waysOn qt_costOn qt_aheads qt_seen qt_isKept qt_lanes qt_lengths qt_cells t_hasLaw t_hasCounters t_highest t_taped t_fault t_broken t_brokenAt t_spot t_here t_token t_value t_queued_48 t_payed_49 t_bestWait t_bestWhom t_bestCoins t_seenMany t_torn t_state_50 t_readPage t_tape t_cuts t_letters t_queue_51 t_busyTo_52 t_servedIn_53 t_waysOn t_costOn t_aheads t_seen t_isKept t_lanes t_lengths t_cells) H → va_D A (w_Mod cI cB cZ cS cT qt qt_state qt_readPage qt_tape qt_cuts qt_letters qt_queue qt_busyTo qt_servedIn qt_waysOn qt_costOn qt_aheads qt_seen qt_isKept qt_lanes qt_lengths qt_cells t_hasLaw t_hasCounters t_highest t_taped t_fault t_broken t_brokenAt t_spot t_here t_token t_value t_queued_48 t_payed_49 t_bestWait t_bestWhom t_bestCoins t_seenMany t_torn t_state_50 t_readPage t_tape t_cuts t_letters t_queue_51 t_busyTo_52 t_servedIn_53 t_waysOn t_costOn t_aheads t_seen t_isKept t_lanes t_lengths t_cells) → va_S A s.heap H locs → ∀ ls : Array Slot, lv_has ls 5 [] → W p l e rmX9_runsTo s m av below meth c H locs 0 0 Q (F0 m 182 ls [])) → ∀ (n : Nat) (x2_8 t_queued_9 t_payed_10 : Int32) (t_state_11 t_queue_12 t_busyTo_13 t_servedIn_14 : Nat → Int32), Mod_runsTo_L48 p1 K182 n x2_8 t_queued_9 t_payed_10 t_state_11 t_queue_12 t_busyTo_13 t_servedIn_14 = some o → ∀ (H : Heap) (locs : List Loc), va_P D vwCl (w_Mod cI cB cZ cS cT qt qt_state qt_readPage qt_tape qt_cuts qt_letters qt_queue qt_busyTo qt_servedIn qt_waysOn qt_costOn qt_aheads qt_seen qt_isKept qt_lanes qt_lengths qt_cells t_hasLaw t_hasCounters t_highest t_taped t_fault t_broken t_brokenAt t_spot t_here t_token t_value t_queued_9 t_payed_10 t_bestWait t_bestWhom t_bestCoins t_seenMany t_torn t_state_11 t_readPage t_tape t_cuts t_letters t_queue_12 t_busyTo_13 t_servedIn_14 t_waysOn t_costOn t_aheads t_seen t_isKept t_lanes t_lengths t_cells) H → va_D A (w_Mod cI cB cZ cS cT qt qt_state qt_readPage qt_tape qt_cuts qt_letters qt_queue qt_busyTo qt_servedIn qt_waysOn qt_costOn qt_aheads qt_seen qt_isKept qt_lanes qt_lengths qt_cells t_hasLaw t_hasCounters t_highest t_taped t_fault t_broken t_brokenAt t_spot t_here t_token t_value t_queued_9 t_payed_10 t_bestWait t_bestWhom t_bestCoins t_seenMany t_torn t_state_11 t_readPage t_tape t_cuts t_letters t_queue_12 t_busyTo_13 t_servedIn_14 t_waysOn t_costOn t_aheads t_seen t_isKept t_lanes t_lengths t_cells) → va_S A s.heap H locs → ∀ ls : Array Slot, lv_has ls 5 [(0, .ref qt), (1, .int p1), (2, .int x2_8)] → W p l e rmX9_runsTo s m av below meth c H locs 0 0 Q (F0 m 48 ls []) := by
    intro K182 hK182 n
    induction n with
    | zero =>
      intro x2_8 t_queued_9 t_payed_10 t_state_11 t_queue_12 t_busyTo_13 t_servedIn_14 hM
      rw [Mod_runsTo_L48] at hM
      cases hM
    | succ n ih =>
      intro x2_8 t_queued_9 t_payed_10 t_state_11 t_queue_12 t_busyTo_13 t_servedIn_14 hM H locs hP hD hS ls hl
      rw [Mod_runsTo_L48] at hM
      refine lv_iload_n hx hb dX9_runsTo_48 rfl (lv_at hl 2 rfl) ?_
      refine lv_iload_n hx hb dX9_runsTo_49 rfl (lv_at hl 1 rfl) ?_
      refine mr_icmp_gt (tgt := 182) hx hb hM dX9_runsTo_50 (by decide) (fun hM => ?_) (fun hM => ?_)
      · exact hK182 t_queued_9 t_payed_10 t_state_11 t_queue_12 t_busyTo_13 t_servedIn_14 hM _ _ hP hD hS ls (lv_sub hl [] rfl)
      · refine lv_iconst (v := 0) hx hb dX9_runsTo_53 (by decide) ?_
        refine lv_istore_n (lv' := [(3, .int 0), (0, .ref qt), (1, .int p1), (2, .int x2_8)]) hx hb dX9_runsTo_54 rfl hl (by decide) rfl (fun ls hl => ?_)
        have hL55 : ∀ (K101 : Int32 → Int32 → (Nat → Int32) → (Nat → Int32) → Option (Int32 × Int32 × (Nat → Int32) × (Nat → Int32) × (Nat → Int32) × (Nat → Int32))), (∀ (t_queued_25 t_payed_26 : Int32) (t_state_27 t_queue_28 : Nat → Int32), K101 t_queued_25 t_payed_26 t_state_27 t_queue_28 = some o → ∀ (H : Heap) (locs : List Loc), va_P D vwCl (w_Mod cI cB cZ cS cT qt qt_state qt_readPage qt_tape qt_cuts qt_letters qt_queue qt_busyTo qt_servedIn qt_waysOn qt_costOn qt_aheads qt_seen qt_isKept qt_lanes qt_lengths qt_cells t_hasLaw t_hasCounters t_highest t_taped t_fault t_broken t_brokenAt t_spot t_here t_token t_value t_queued_25 t_payed_26 t_bestWait t_bestWhom t_bestCoins t_seenMany t_torn t_state_27 t_readPage t_tape t_cuts t_letters t_queue_28 t_busyTo_13 t_servedIn_14 t_waysOn t_costOn t_aheads t_seen t_isKept t_lanes t_lengths t_cells) H → va_D A (w_Mod cI cB cZ cS cT qt qt_state qt_readPage qt_tape qt_cuts qt_letters qt_queue qt_busyTo qt_servedIn qt_waysOn qt_costOn qt_aheads qt_seen qt_isKept qt_lanes qt_lengths qt_cells t_hasLaw t_hasCounters t_highest t_taped t_fault t_broken t_brokenAt t_spot t_here t_token t_value t_queued_25 t_payed_26 t_bestWait t_bestWhom t_bestCoins t_seenMany t_torn t_state_27 t_readPage t_tape t_cuts t_letters t_queue_28 t_busyTo_13 t_servedIn_14 t_waysOn t_costOn t_aheads t_seen t_isKept t_lanes t_lengths t_cells) → va_S A s.heap H locs → ∀ ls : Array Slot, lv_has ls 5 [(0, .ref qt), (1, .int p1), (2, .int x2_8)] → W p l e rmX9_runsTo s m av below meth c H locs 0 0 Q (F0 m 101 ls [])) → ∀ (n : Nat) (x3_15 t_queued_16 t_payed_17 : Int32) (t_state_18 t_queue_19 : Nat → Int32), Mod_runsTo_L55 x2_8 K101 n x3_15 t_queued_16 t_payed_17 t_state_18 t_queue_19 = some o → ∀ (H : Heap) (locs : List Loc), va_P D vwCl (w_Mod cI cB cZ cS cT qt qt_state qt_readPage qt_tape qt_cuts qt_letters qt_queue qt_busyTo qt_servedIn qt_waysOn qt_costOn qt_aheads qt_seen qt_isKept qt_lanes qt_lengths qt_cells t_hasLaw t_hasCounters t_highest t_taped t_fault t_broken t_brokenAt t_spot t_here t_token t_value t_queued_16 t_payed_17 t_bestWait t_bestWhom t_bestCoins t_seenMany t_torn t_state_18 t_readPage t_tape t_cuts t_letters t_queue_19 t_busyTo_13 t_servedIn_14 t_waysOn t_costOn t_aheads t_seen t_isKept t_lanes t_lengths t_cells) H → va_D A (w_Mod cI cB cZ cS cT qt qt_state qt_readPage qt_tape qt_cuts qt_letters qt_queue qt_busyTo qt_servedIn qt_waysOn qt_costOn qt_aheads qt_seen qt_isKept qt_lanes qt_lengths qt_cells t_hasLaw t_hasCounters t_highest t_taped t_fault t_broken t_brokenAt t_spot t_here t_token t_value t_queued_16 t_payed_17 t_bestWait t_bestWhom t_bestCoins t_seenMany t_torn t_state_18 t_readPage t_tape t_cuts t_letters t_queue_19 t_busyTo_13 t_servedIn_14 t_waysOn t_costOn t_aheads t_seen t_isKept t_lanes t_lengths t_cells) → va_S A s.heap H locs → ∀ ls : Array Slot, lv_has ls 5 [(0, .ref qt), (1, .int p1), (2, .int x2_8), (3, .int x3_15)] → W p l e rmX9_runsTo s m av below meth c H locs 0 0 Q (F0 m 55 ls []) := by
          intro K101 hK101 n
          induction n with
          | zero =>
            intro x3_15 t_queued_16 t_payed_17 t_state_18 t_queue_19 hM
            rw [Mod_runsTo_L55] at hM
            cases hM
          | succ n ih =>
            intro x3_15 t_queued_16 t_payed_17 t_state_18 t_queue_19 hM H locs hP hD hS ls hl
            rw [Mod_runsTo_L55] at hM
            refine lv_iload_n hx hb dX9_runsTo_55 rfl (lv_at hl 3 rfl) ?_
            refine lv_aload_n hx hb dX9_runsTo_56 rfl (lv_at hl 0 rfl) ?_
            refine va_get (D := D) (ci := 9) (v := .ref qt_state) (C := RX9) (T := TX9) (N := 34) hx hb hts inX9w hown hK hP 0 rfl rfl 0 (by decide) hf7 (fun _ h9 => h9) rfl dX9_runsTo_57 ?_
            refine lv_sipush (v := 375) hx hb dX9_runsTo_60 (by decide) ?_
            refine mr_iald hx hb hK hP 1 0 rfl rfl hM dX9_runsTo_63 (fun v_20 hM => ?_)
            refine mr_icmp_ge (tgt := 101) hx hb hM dX9_runsTo_64 (by decide) (fun hM => ?_) (fun hM => ?_)
            · exact hK101 t_queued_16 t_payed_17 t_state_18 t_queue_19 hM _ _ hP hD hS ls (lv_sub hl [0, 1, 2] rfl)
            · refine lv_aload_n hx hb dX9_runsTo_67 rfl (lv_at hl 0 rfl) ?_
              refine va_get (D := D) (ci := 9) (v := .ref qt_state) (C := RX9) (T := TX9) (N := 34) hx hb hts inX9w hown hK hP 0 rfl rfl 0 (by decide) hf7 (fun _ h9 => h9) rfl dX9_runsTo_68 ?_
              refine lv_sipush (v := 282) hx hb dX9_runsTo_71 (by decide) ?_
              refine lv_bipush (v := 6) hx hb dX9_runsTo_74 (by decide) ?_
              refine lv_iload_n hx hb dX9_runsTo_76 rfl (lv_at hl 3 rfl) ?_
              refine lv_imul hx hb dX9_runsTo_77 ?_
              refine lv_iadd hx hb dX9_runsTo_78 ?_
              refine lv_iconst (v := 1) hx hb dX9_runsTo_79 (by decide) ?_
              refine lv_iadd hx hb dX9_runsTo_80 ?_
              refine mr_iald hx hb hK hP 1 0 rfl rfl hM dX9_runsTo_81 (fun v_21 hM => ?_)
              refine lv_iload_n hx hb dX9_runsTo_82 rfl (lv_at hl 2 rfl) ?_
              refine mr_icmp_ne (tgt := 95) hx hb hM dX9_runsTo_83 (by decide) (fun hM => ?_) (fun hM => ?_)
              · refine mr_iinc (k := 3) (d := 1) hx hb (fun x3_22 => [(3, .int x3_22), (0, .ref qt), (1, .int p1), (2, .int x2_8)]) hM (by decide) dX9_runsTo_95 hl rfl (by decide) (fun _ => rfl) (fun x3_22 hM ls hl => ?_)
                refine lv_goto (tgt := 55) hx hb dX9_runsTo_98 (by decide) ?_
                exact ih x3_22 t_queued_16 t_payed_17 t_state_18 t_queue_19 hM _ _ hP hD hS ls (lv_sub hl [1, 2, 3, 0] rfl)
              · refine lv_aload_n hx hb dX9_runsTo_86 rfl (lv_at hl 0 rfl) ?_
                refine lv_sipush (v := 282) hx hb dX9_runsTo_87 (by decide) ?_
                refine lv_iload_n hx hb dX9_runsTo_90 rfl (lv_at hl 3 rfl) ?_
                refine lv_iconst (v := 1) hx hb dX9_runsTo_91 (by decide) ?_
                obtain ⟨o_23, hc, hM⟩ := bind_so hM
                refine mr_callVv (As := [.int 282, .int x3_15, .int 1]) (rest := []) (wr := []) ⟨hx, hb, hml, hown, hts⟩ (k_Mod_comesTo l D cI cB cZ cS cT qt qt_state qt_readPage qt_tape qt_cuts qt_letters qt_queue qt_busyTo qt_servedIn qt_waysOn qt_costOn qt_aheads qt_seen qt_isKept qt_lanes qt_lengths qt_cells t_hasLaw t_hasCounters t_highest t_taped t_fault t_broken t_brokenAt t_spot t_here t_token t_value t_queued_16 t_payed_17 t_bestWait t_bestWhom t_bestCoins t_seenMany t_torn t_state_18 t_readPage t_tape t_cuts t_letters t_queue_19 t_busyTo_13 t_servedIn_14 t_waysOn t_costOn t_aheads t_seen t_isKept t_lanes t_lengths t_cells 282 x3_15 1 _ hc) (cwV 3 hts gX9_runsTo_X9_comesTo rfl rfl rfl (by decide +kernel) ⟨Nat.le_of_ble_eq_true rfl, Nat.le_of_ble_eq_true rfl⟩) hK hP hD hS hA [0, 1, 2, 3, 4, 5, 6, 7, 8, 9, 10, 11, 12, 13, 14, 15, 16] [] [0, 1, 2, 3, 4, 5, 6, 7, 8, 9, 10, 11, 12, 13, 14, 15, 16] (w_Mod cI cB cZ cS cT qt qt_state qt_readPage qt_tape qt_cuts qt_letters qt_queue qt_busyTo qt_servedIn qt_waysOn qt_costOn qt_aheads qt_seen qt_isKept qt_lanes qt_lengths qt_cells t_hasLaw t_hasCounters t_highest t_taped t_fault t_broken t_brokenAt t_spot t_here t_token t_value o_23.1 o_23.2.1 t_bestWait t_bestWhom t_bestCoins t_seenMany t_torn o_23.2.2.1 t_readPage t_tape t_cuts t_letters o_23.2.2.2 t_busyTo_13 t_servedIn_14 t_waysOn t_costOn t_aheads t_seen t_isKept t_lanes t_lengths t_cells) rfl rfl rfl rfl (by decide) rfl rfl 9 0 rfl rfl rfl rfl hl.1 rfl (Nat.le_of_ble_eq_true rfl) dX9_runsTo_92 ⟨Nat.zero_le _, Nat.zero_le _⟩ (fun H locs hP hD hS => ?_)
                refine mr_iinc (k := 3) (d := 1) hx hb (fun x3_24 => [(3, .int x3_24), (0, .ref qt), (1, .int p1), (2, .int x2_8)]) hM (by decide) dX9_runsTo_95 hl rfl (by decide) (fun _ => rfl) (fun x3_24 hM ls hl => ?_)
                refine lv_goto (tgt := 55) hx hb dX9_runsTo_98 (by decide) ?_
                exact ih x3_24 o_23.1 o_23.2.1 o_23.2.2.1 o_23.2.2.2 hM _ _ hP hD hS ls (lv_sub hl [1, 2, 3, 0] rfl)
        refine hL55 _ (fun t_queued_25 t_payed_26 t_state_27 t_queue_28 hM H locs hP hD hS ls hl => ?_) _ 0 t_queued_9 t_payed_10 t_state_11 t_queue_12 hM _ _ hP hD hS ls (lv_sub hl [1, 2, 3, 0] rfl)
        refine lv_iconst (v := 0) hx hb dX9_runsTo_101 (by decide) ?_
        refine lv_istore_n (lv' := [(3, .int 0), (0, .ref qt), (1, .int p1), (2, .int x2_8)]) hx hb dX9_runsTo_102 rfl hl (by decide) rfl (fun ls hl => ?_)
        have hL103 : ∀ (K176 : Int32 → (Nat → Int32) → (Nat → Int32) → (Nat → Int32) → Option (Int32 × Int32 × (Nat → Int32) × (Nat → Int32) × (Nat → Int32) × (Nat → Int32))), (∀ (t_queued_43 : Int32) (t_queue_44 t_busyTo_45 t_servedIn_46 : Nat → Int32), K176 t_queued_43 t_queue_44 t_busyTo_45 t_servedIn_46 = some o → ∀ (H : Heap) (locs : List Loc), va_P D vwCl (w_Mod cI cB cZ cS cT qt qt_state qt_readPage qt_tape qt_cuts qt_letters qt_queue qt_busyTo qt_servedIn qt_waysOn qt_costOn qt_aheads qt_seen qt_isKept qt_lanes qt_lengths qt_cells t_hasLaw t_hasCounters t_highest t_taped t_fault t_broken t_brokenAt t_spot t_here t_token t_value t_queued_43 t_payed_26 t_bestWait t_bestWhom t_bestCoins t_seenMany t_torn t_state_27 t_readPage t_tape t_cuts t_letters t_queue_44 t_busyTo_45 t_servedIn_46 t_waysOn t_costOn t_aheads t_seen t_isKept t_lanes t_lengths t_cells) H → va_D A (w_Mod cI cB cZ cS cT qt qt_state qt_readPage qt_tape qt_cuts qt_letters qt_queue qt_busyTo qt_servedIn qt_waysOn qt_costOn qt_aheads qt_seen qt_isKept qt_lanes qt_lengths qt_cells t_hasLaw t_hasCounters t_highest t_taped t_fault t_broken t_brokenAt t_spot t_here t_token t_value t_queued_43 t_payed_26 t_bestWait t_bestWhom t_bestCoins t_seenMany t_torn t_state_27 t_readPage t_tape t_cuts t_letters t_queue_44 t_busyTo_45 t_servedIn_46 t_waysOn t_costOn t_aheads t_seen t_isKept t_lanes t_lengths t_cells) → va_S A s.heap H locs → ∀ ls : Array Slot, lv_has ls 5 [(0, .ref qt), (1, .int p1), (2, .int x2_8)] → W p l e rmX9_runsTo s m av below meth c H locs 0 0 Q (F0 m 176 ls [])) → ∀ (n : Nat) (x3_29 t_queued_30 : Int32) (t_queue_31 t_busyTo_32 t_servedIn_33 : Nat → Int32), Mod_runsTo_L103 x2_8 t_state_27 K176 n x3_29 t_queued_30 t_queue_31 t_busyTo_32 t_servedIn_33 = some o → ∀ (H : Heap) (locs : List Loc), va_P D vwCl (w_Mod cI cB cZ cS cT qt qt_state qt_readPage qt_tape qt_cuts qt_letters qt_queue qt_busyTo qt_servedIn qt_waysOn qt_costOn qt_aheads qt_seen qt_isKept qt_lanes qt_lengths qt_cells t_hasLaw t_hasCounters t_highest t_taped t_fault t_broken t_brokenAt t_spot t_here t_token t_value t_queued_30 t_payed_26 t_bestWait t_bestWhom t_bestCoins t_seenMany t_torn t_state_27 t_readPage t_tape t_cuts t_letters t_queue_31 t_busyTo_32 t_servedIn_33 t_waysOn t_costOn t_aheads t_seen t_isKept t_lanes t_lengths t_cells) H → va_D A (w_Mod cI cB cZ cS cT qt qt_state qt_readPage qt_tape qt_cuts qt_letters qt_queue qt_busyTo qt_servedIn qt_waysOn qt_costOn qt_aheads qt_seen qt_isKept qt_lanes qt_lengths qt_cells t_hasLaw t_hasCounters t_highest t_taped t_fault t_broken t_brokenAt t_spot t_here t_token t_value t_queued_30 t_payed_26 t_bestWait t_bestWhom t_bestCoins t_seenMany t_torn t_state_27 t_readPage t_tape t_cuts t_letters t_queue_31 t_busyTo_32 t_servedIn_33 t_waysOn t_costOn t_aheads t_seen t_isKept t_lanes t_lengths t_cells) → va_S A s.heap H locs → ∀ ls : Array Slot, lv_has ls 5 [(0, .ref qt), (1, .int p1), (2, .int x2_8), (3, .int x3_29)] → W p l e rmX9_runsTo s m av below meth c H locs 0 0 Q (F0 m 103 ls []) := by
          intro K176 hK176 n
          induction n with
          | zero =>
            intro x3_29 t_queued_30 t_queue_31 t_busyTo_32 t_servedIn_33 hM
            rw [Mod_runsTo_L103] at hM
            cases hM
          | succ n ih =>
            intro x3_29 t_queued_30 t_queue_31 t_busyTo_32 t_servedIn_33 hM H locs hP hD hS ls hl
            rw [Mod_runsTo_L103] at hM
            refine lv_iload_n hx hb dX9_runsTo_103 rfl (lv_at hl 3 rfl) ?_
            refine lv_aload_n hx hb dX9_runsTo_104 rfl (lv_at hl 0 rfl) ?_
            refine va_get (D := D) (ci := 9) (v := .ref qt_state) (C := RX9) (T := TX9) (N := 34) hx hb hts inX9w hown hK hP 0 rfl rfl 0 (by decide) hf7 (fun _ h9 => h9) rfl dX9_runsTo_105 ?_
            refine lv_sipush (v := 374) hx hb dX9_runsTo_108 (by decide) ?_
            refine mr_iald hx hb hK hP 1 0 rfl rfl hM dX9_runsTo_111 (fun v_34 hM => ?_)
            refine mr_icmp_gt (tgt := 176) hx hb hM dX9_runsTo_112 (by decide) (fun hM => ?_) (fun hM => ?_)
            · exact hK176 t_queued_30 t_queue_31 t_busyTo_32 t_servedIn_33 hM _ _ hP hD hS ls (lv_sub hl [0, 1, 2] rfl)
            · refine lv_aload_n hx hb dX9_runsTo_115 rfl (lv_at hl 0 rfl) ?_
              refine va_get (D := D) (ci := 9) (v := .ref qt_busyTo) (C := RX9) (T := TX9) (N := 34) hx hb hts inX9w hown hK hP 0 rfl rfl 18 (by decide) hf28 (fun _ h9 => h9) rfl dX9_runsTo_116 ?_
              refine lv_iload_n hx hb dX9_runsTo_119 rfl (lv_at hl 3 rfl) ?_
              refine mr_iald hx hb hK hP 7 0 rfl rfl hM dX9_runsTo_120 (fun v_35 hM => ?_)
              refine lv_iload_n hx hb dX9_runsTo_121 rfl (lv_at hl 2 rfl) ?_
              refine mr_icmp_gt (tgt := 170) hx hb hM dX9_runsTo_122 (by decide) (fun hM => ?_) (fun hM => ?_)
              · refine mr_iinc (k := 3) (d := 1) hx hb (fun x3_36 => [(3, .int x3_36), (0, .ref qt), (1, .int p1), (2, .int x2_8)]) hM (by decide) dX9_runsTo_170 hl rfl (by decide) (fun _ => rfl) (fun x3_36 hM ls hl => ?_)
                refine lv_goto (tgt := 103) hx hb dX9_runsTo_173 (by decide) ?_
                exact ih x3_36 t_queued_30 t_queue_31 t_busyTo_32 t_servedIn_33 hM _ _ hP hD hS ls (lv_sub hl [1, 2, 3, 0] rfl)
              · refine lv_aload_n hx hb dX9_runsTo_125 rfl (lv_at hl 0 rfl) ?_
                refine va_get (D := D) (ci := 9) (v := .int t_queued_30) (C := RX9) (T := TX9) (N := 34) hx hb hts inX9w hown hK hP 0 rfl rfl 17 (by decide) hf187 (fun _ h9 => h9) rfl dX9_runsTo_126 ?_
                refine mr_if_le (tgt := 170) hx hb hM dX9_runsTo_129 (by decide) (fun hM => ?_) (fun hM => ?_)
                · refine mr_iinc (k := 3) (d := 1) hx hb (fun x3_37 => [(3, .int x3_37), (0, .ref qt), (1, .int p1), (2, .int x2_8)]) hM (by decide) dX9_runsTo_170 hl rfl (by decide) (fun _ => rfl) (fun x3_37 hM ls hl => ?_)
                  refine lv_goto (tgt := 103) hx hb dX9_runsTo_173 (by decide) ?_
                  exact ih x3_37 t_queued_30 t_queue_31 t_busyTo_32 t_servedIn_33 hM _ _ hP hD hS ls (lv_sub hl [1, 2, 3, 0] rfl)
                · refine lv_aload_n hx hb dX9_runsTo_132 rfl (lv_at hl 0 rfl) ?_
                  obtain ⟨o_38, hc, hM⟩ := bind_so hM
                  refine mr_callVi (As := []) (rest := []) (wr := []) ⟨hx, hb, hml, hown, hts⟩ (k_Mod_takesFront l D cI cB cZ cS cT qt qt_state qt_readPage qt_tape qt_cuts qt_letters qt_queue qt_busyTo qt_servedIn qt_waysOn qt_costOn qt_aheads qt_seen qt_isKept qt_lanes qt_lengths qt_cells t_hasLaw t_hasCounters t_highest t_taped t_fault t_broken t_brokenAt t_spot t_here t_token t_value t_queued_30 t_payed_26 t_bestWait t_bestWhom t_bestCoins t_seenMany t_torn t_state_27 t_readPage t_tape t_cuts t_letters t_queue_31 t_busyTo_32 t_servedIn_33 t_waysOn t_costOn t_aheads t_seen t_isKept t_lanes t_lengths t_cells  _ hc) (cwV 0 hts gX9_runsTo_X9_takesFront rfl rfl rfl (by decide +kernel) ⟨Nat.le_of_ble_eq_true rfl, Nat.le_of_ble_eq_true rfl⟩) hK hP hD hS hA [0, 1, 2, 3, 4, 5, 6, 7, 8, 9, 10, 11, 12, 13, 14, 15, 16] [] [0, 1, 2, 3, 4, 5, 6, 7, 8, 9, 10, 11, 12, 13, 14, 15, 16] (w_Mod cI cB cZ cS cT qt qt_state qt_readPage qt_tape qt_cuts qt_letters qt_queue qt_busyTo qt_servedIn qt_waysOn qt_costOn qt_aheads qt_seen qt_isKept qt_lanes qt_lengths qt_cells t_hasLaw t_hasCounters t_highest t_taped t_fault t_broken t_brokenAt t_spot t_here t_token t_value o_38.2.1 t_payed_26 t_bestWait t_bestWhom t_bestCoins t_seenMany t_torn t_state_27 t_readPage t_tape t_cuts t_letters o_38.2.2 t_busyTo_32 t_servedIn_33 t_waysOn t_costOn t_aheads t_seen t_isKept t_lanes t_lengths t_cells) rfl rfl rfl rfl (by decide) rfl rfl 9 0 rfl rfl rfl rfl hl.1 rfl (Nat.le_of_ble_eq_true rfl) dX9_runsTo_133 ⟨Nat.zero_le _, Nat.zero_le _⟩ (fun H locs hP hD hS => ?_)
                  refine lv_istore (lv' := [(4, .int o_38.1), (0, .ref qt), (1, .int p1), (2, .int x2_8), (3, .int x3_29)]) hx hb dX9_runsTo_136 hl (by decide) rfl (fun ls hl => ?_)
                  refine lv_aload_n hx hb dX9_runsTo_138 rfl (lv_at hl 1 rfl) ?_
                  refine va_get (D := D) (ci := 9) (v := .ref qt_servedIn) (C := RX9) (T := TX9) (N := 34) hx hb hts inX9w hown hK hP 0 rfl rfl 19 (by decide) hf31 (fun _ h9 => h9) rfl dX9_runsTo_139 ?_
                  refine lv_iload hx hb dX9_runsTo_142 (lv_at hl 0 rfl) ?_
                  refine lv_iload_n hx hb dX9_runsTo_144 rfl (lv_at hl 3 rfl) ?_
                  refine mr_iast hx hb hK hP hD hS 8 0 (fun t_servedIn_39 => (w_Mod cI cB cZ cS cT qt qt_state qt_readPage qt_tape qt_cuts qt_letters qt_queue qt_busyTo qt_servedIn qt_waysOn qt_costOn qt_aheads qt_seen qt_isKept qt_lanes qt_lengths qt_cells t_hasLaw t_hasCounters t_highest t_taped t_fault t_broken t_brokenAt t_spot t_here t_token t_value o_38.2.1 t_payed_26 t_bestWait t_bestWhom t_bestCoins t_seenMany t_torn t_state_27 t_readPage t_tape t_cuts t_letters o_38.2.2 t_busyTo_32 t_servedIn_39 t_waysOn t_costOn t_aheads t_seen t_isKept t_lanes t_lengths t_cells)) rfl rfl (fun _ => rfl) hM dX9_runsTo_145 (fun t_servedIn_39 hM H locs hP hD hS => ?_)
                  refine lv_aload_n hx hb dX9_runsTo_146 rfl (lv_at hl 1 rfl) ?_
                  refine va_get (D := D) (ci := 9) (v := .ref qt_busyTo) (C := RX9) (T := TX9) (N := 34) hx hb hts inX9w hown hK hP 0 rfl rfl 18 (by decide) hf28 (fun _ h9 => h9) rfl dX9_runsTo_147 ?_
                  refine lv_iload_n hx hb dX9_runsTo_150 rfl (lv_at hl 4 rfl) ?_
                  refine lv_iload_n hx hb dX9_runsTo_151 rfl (lv_at hl 3 rfl) ?_
                  refine lv_aload_n hx hb dX9_runsTo_152 rfl (lv_at hl 1 rfl) ?_
                  refine va_get (D := D) (ci := 9) (v := .ref qt_state) (C := RX9) (T := TX9) (N := 34) hx hb hts inX9w hown hK hP 0 rfl rfl 0 (by decide) hf7 (fun _ h9 => h9) rfl dX9_runsTo_153 ?_
                  refine lv_sipush (v := 282) hx hb dX9_runsTo_156 (by decide) ?_
                  refine lv_bipush (v := 6) hx hb dX9_runsTo_159 (by decide) ?_
                  refine lv_iload hx hb dX9_runsTo_161 (lv_at hl 0 rfl) ?_
                  refine lv_imul hx hb dX9_runsTo_163 ?_
                  refine lv_iadd hx hb dX9_runsTo_164 ?_
                  refine lv_iconst (v := 2) hx hb dX9_runsTo_165 (by decide) ?_
                  refine lv_iadd hx hb dX9_runsTo_166 ?_
                  refine mr_iald hx hb hK hP 1 0 rfl rfl hM dX9_runsTo_167 (fun v_40 hM => ?_)
                  refine lv_iadd hx hb dX9_runsTo_168 ?_
                  refine mr_iast hx hb hK hP hD hS 7 0 (fun t_busyTo_41 => (w_Mod cI cB cZ cS cT qt qt_state qt_readPage qt_tape qt_cuts qt_letters qt_queue qt_busyTo qt_servedIn qt_waysOn qt_costOn qt_aheads qt_seen qt_isKept qt_lanes qt_lengths qt_cells t_hasLaw t_hasCounters t_highest t_taped t_fault t_broken t_brokenAt t_spot t_here t_token t_value o_38.2.1 t_payed_26 t_bestWait t_bestWhom t_bestCoins t_seenMany t_torn t_state_27 t_readPage t_tape t_cuts t_letters o_38.2.2 t_busyTo_41 t_servedIn_39 t_waysOn t_costOn t_aheads t_seen t_isKept t_lanes t_lengths t_cells)) rfl rfl (fun _ => rfl) hM dX9_runsTo_169 (fun t_busyTo_41 hM H locs hP hD hS => ?_)
                  refine mr_iinc (k := 4) (d := 1) hx hb (fun x3_42 => [(3, .int x3_42), (4, .int o_38.1), (0, .ref qt), (1, .int p1), (2, .int x2_8)]) hM (by decide) dX9_runsTo_170 hl rfl (by decide) (fun _ => rfl) (fun x3_42 hM ls hl => ?_)
                  refine lv_goto (tgt := 103) hx hb dX9_runsTo_173 (by decide) ?_
                  exact ih x3_42 o_38.2.1 o_38.2.2 t_busyTo_41 t_servedIn_39 hM _ _ hP hD hS ls (lv_sub hl [2, 3, 4, 0] rfl)
        refine hL103 _ (fun t_queued_43 t_queue_44 t_busyTo_45 t_servedIn_46 hM H locs hP hD hS ls hl => ?_) _ 0 t_queued_25 t_queue_28 t_busyTo_13 t_servedIn_14 hM _ _ hP hD hS ls (lv_sub hl [1, 2, 3, 0] rfl)
        refine mr_iinc (k := 2) (d := 1) hx hb (fun x2_47 => [(2, .int x2_47), (0, .ref qt), (1, .int p1)]) hM (by decide) dX9_runsTo_176 hl rfl (by decide) (fun _ => rfl) (fun x2_47 hM ls hl => ?_)
        refine lv_goto (tgt := 48) hx hb dX9_runsTo_179 (by decide) ?_
        exact ih x2_47 t_queued_43 t_payed_26 t_state_27 t_queue_44 t_busyTo_45 t_servedIn_46 hM _ _ hP hD hS ls (lv_sub hl [1, 2, 0] rfl)
  refine hL48 _ (fun t_queued_48 t_payed_49 t_state_50 t_queue_51 t_busyTo_52 t_servedIn_53 hM H locs hP hD hS ls hl => ?_) _ 0 0 0 t_state t_queue t_busyTo_2 t_servedIn_7 hM _ _ hP hD hS ls (lv_sub hl [1, 2, 0] rfl)
  have hM := Option.some.inj hM
  subst hM
  exact mr_vret hx hb hr hlocks hQ hP hD hS dX9_runsTo_182

abbrev rmX9_runsAll : Room := { frames := 5, cells := 0, slots := 0, locals := 121 }
set_option maxHeartbeats 40000000 in
set_option maxRecDepth 100000 in
theorem k_Mod_runsAll (l : Launch) (D : va_G) (cI cB cZ cS cT : ClassId) (qt qt_state qt_readPage qt_tape qt_cuts qt_letters qt_queue qt_busyTo qt_servedIn qt_waysOn qt_costOn qt_aheads qt_seen qt_isKept qt_lanes qt_lengths qt_cells : Nat) (t_hasLaw t_hasCounters t_highest t_taped t_fault t_broken t_brokenAt t_spot t_here t_token t_value t_queued t_payed t_bestWait t_bestWhom t_bestCoins t_seenMany t_torn : Int32) (t_state t_readPage t_tape t_cuts t_letters t_queue t_busyTo t_servedIn t_waysOn t_costOn t_aheads t_seen t_isKept t_lanes t_lengths t_cells : Nat → Int32)  (o : Int32 × Int32 × (Nat → Int32) × (Nat → Int32) × (Nat → Int32) × (Nat → Int32)) (hM : Mod_runsAll t_state t_queue t_busyTo t_servedIn = some o) : mtV l yX9_runsAll wsX9_runsAll rmX9_runsAll D (tys5 cI cB cZ cS cT) [.ref qt] (w_Mod cI cB cZ cS cT qt qt_state qt_readPage qt_tape qt_cuts qt_letters qt_queue qt_busyTo qt_servedIn qt_waysOn qt_costOn qt_aheads qt_seen qt_isKept qt_lanes qt_lengths qt_cells t_hasLaw t_hasCounters t_highest t_taped t_fault t_broken t_brokenAt t_spot t_here t_token t_value t_queued t_payed t_bestWait t_bestWhom t_bestCoins t_seenMany t_torn t_state t_readPage t_tape t_cuts t_letters t_queue t_busyTo t_servedIn t_waysOn t_costOn t_aheads t_seen t_isKept t_lanes t_lengths t_cells) (w_Mod cI cB cZ cS cT qt qt_state qt_readPage qt_tape qt_cuts qt_letters qt_queue qt_busyTo qt_servedIn qt_waysOn qt_costOn qt_aheads qt_seen qt_isKept qt_lanes qt_lengths qt_cells t_hasLaw t_hasCounters t_highest t_taped t_fault t_broken t_brokenAt t_spot t_here t_token t_value o.1 o.2.1 t_bestWait t_bestWhom t_bestCoins t_seenMany t_torn o.2.2.1 t_readPage t_tape t_cuts t_letters o.2.2.2.1 o.2.2.2.2.1 o.2.2.2.2.2 t_waysOn t_costOn t_aheads t_seen t_isKept t_lanes t_lengths t_cells) := by
  refine mtV.of (cc := cX9_runsAll) (maxL := 1) (ret := none) (by decide) rfl (Nat.le_of_ble_eq_true rfl) ?_
  intro p e s m below meth c A Q av hav hQ hx hb hr hml hown hts hlocks hK hP hD hA hS ls hl
  have hown : s.vm.findClass RX9 = some m.cls := hown
  have hl : lv_has ls 1 [(0, .ref qt)] := hl
  unfold Mod_runsAll at hM
  refine lv_aload_n hx hb dX9_runsAll_0 rfl (lv_at hl 0 rfl) ?_
  refine lv_iconst (v := 0) hx hb dX9_runsAll_1 (by decide) ?_
  refine lv_sipush (v := 282) hx hb dX9_runsAll_2 (by decide) ?_
  obtain ⟨o_1, hc, hM⟩ := bind_so hM
  refine mr_callVv (As := [.int 0, .int 282]) (rest := []) (wr := []) ⟨hx, hb, hml, hown, hts⟩ (k_Mod_copies l D cI cB cZ cS cT qt qt_state qt_readPage qt_tape qt_cuts qt_letters qt_queue qt_busyTo qt_servedIn qt_waysOn qt_costOn qt_aheads qt_seen qt_isKept qt_lanes qt_lengths qt_cells t_hasLaw t_hasCounters t_highest t_taped t_fault t_broken t_brokenAt t_spot t_here t_token t_value t_queued t_payed t_bestWait t_bestWhom t_bestCoins t_seenMany t_torn t_state t_readPage t_tape t_cuts t_letters t_queue t_busyTo t_servedIn t_waysOn t_costOn t_aheads t_seen t_isKept t_lanes t_lengths t_cells 0 282 _ hc) (cwV 2 hts gX9_runsAll_X9_copies rfl rfl rfl (by decide +kernel) ⟨Nat.le_of_ble_eq_true rfl, Nat.le_of_ble_eq_true rfl⟩) hK hP hD hS hA [0, 1, 2, 3, 4, 5, 6, 7, 8, 9, 10, 11, 12, 13, 14, 15, 16] [] [0, 1, 2, 3, 4, 5, 6, 7, 8, 9, 10, 11, 12, 13, 14, 15, 16] (w_Mod cI cB cZ cS cT qt qt_state qt_readPage qt_tape qt_cuts qt_letters qt_queue qt_busyTo qt_servedIn qt_waysOn qt_costOn qt_aheads qt_seen qt_isKept qt_lanes qt_lengths qt_cells t_hasLaw t_hasCounters t_highest t_taped t_fault t_broken t_brokenAt t_spot t_here t_token t_value t_queued t_payed t_bestWait t_bestWhom t_bestCoins t_seenMany t_torn o_1 t_readPage t_tape t_cuts t_letters t_queue t_busyTo t_servedIn t_waysOn t_costOn t_aheads t_seen t_isKept t_lanes t_lengths t_cells) rfl rfl rfl rfl (by decide) rfl rfl 9 0 rfl rfl rfl rfl hl.1 rfl (Nat.le_of_ble_eq_true rfl) dX9_runsAll_5 ⟨Nat.zero_le _, Nat.zero_le _⟩ (fun H locs hP hD hS => ?_)
  refine lv_aload_n hx hb dX9_runsAll_8 rfl (lv_at hl 0 rfl) ?_
  refine lv_sipush (v := 130) hx hb dX9_runsAll_9 (by decide) ?_
  obtain ⟨o_2, hc, hM⟩ := bind_so hM
  refine mr_callVv (As := [.int 130]) (rest := []) (wr := []) ⟨hx, hb, hml, hown, hts⟩ (k_Mod_runsTo l D cI cB cZ cS cT qt qt_state qt_readPage qt_tape qt_cuts qt_letters qt_queue qt_busyTo qt_servedIn qt_waysOn qt_costOn qt_aheads qt_seen qt_isKept qt_lanes qt_lengths qt_cells t_hasLaw t_hasCounters t_highest t_taped t_fault t_broken t_brokenAt t_spot t_here t_token t_value t_queued t_payed t_bestWait t_bestWhom t_bestCoins t_seenMany t_torn o_1 t_readPage t_tape t_cuts t_letters t_queue t_busyTo t_servedIn t_waysOn t_costOn t_aheads t_seen t_isKept t_lanes t_lengths t_cells 130 _ hc) (cwV 1 hts gX9_runsAll_X9_runsTo rfl rfl rfl (by decide +kernel) ⟨Nat.le_of_ble_eq_true rfl, Nat.le_of_ble_eq_true rfl⟩) hK hP hD hS hA [0, 1, 2, 3, 4, 5, 6, 7, 8, 9, 10, 11, 12, 13, 14, 15, 16] [] [0, 1, 2, 3, 4, 5, 6, 7, 8, 9, 10, 11, 12, 13, 14, 15, 16] (w_Mod cI cB cZ cS cT qt qt_state qt_readPage qt_tape qt_cuts qt_letters qt_queue qt_busyTo qt_servedIn qt_waysOn qt_costOn qt_aheads qt_seen qt_isKept qt_lanes qt_lengths qt_cells t_hasLaw t_hasCounters t_highest t_taped t_fault t_broken t_brokenAt t_spot t_here t_token t_value o_2.1 o_2.2.1 t_bestWait t_bestWhom t_bestCoins t_seenMany t_torn o_2.2.2.1 t_readPage t_tape t_cuts t_letters o_2.2.2.2.1 o_2.2.2.2.2.1 o_2.2.2.2.2.2 t_waysOn t_costOn t_aheads t_seen t_isKept t_lanes t_lengths t_cells) rfl rfl rfl rfl (by decide) rfl rfl 9 0 rfl rfl rfl rfl hl.1 rfl (Nat.le_of_ble_eq_true rfl) dX9_runsAll_12 ⟨Nat.zero_le _, Nat.zero_le _⟩ (fun H locs hP hD hS => ?_)
  have hM := Option.some.inj hM
  subst hM
  exact mr_vret hx hb hr hlocks hQ hP hD hS dX9_runsAll_15

abbrev rmX9_served : Room := { frames := 6, cells := 0, slots := 0, locals := 141 }
set_option maxHeartbeats 40000000 in
set_option maxRecDepth 100000 in
theorem k_Mod_served (l : Launch) (D : va_G) (cI cB cZ cS cT : ClassId) (qt qt_state qt_readPage qt_tape qt_cuts qt_letters qt_queue qt_busyTo qt_servedIn qt_waysOn qt_costOn qt_aheads qt_seen qt_isKept qt_lanes qt_lengths qt_cells : Nat) (t_hasLaw t_hasCounters t_highest t_taped t_fault t_broken t_brokenAt t_spot t_here t_token t_value t_queued t_payed t_bestWait t_bestWhom t_bestCoins t_seenMany t_torn : Int32) (t_state t_readPage t_tape t_cuts t_letters t_queue t_busyTo t_servedIn t_waysOn t_costOn t_aheads t_seen t_isKept t_lanes t_lengths t_cells : Nat → Int32) (p1 : Int32) (o : Int32 × Int32 × Int32 × (Nat → Int32) × (Nat → Int32) × (Nat → Int32) × (Nat → Int32)) (hM : Mod_served p1 t_queued t_payed t_state t_queue t_busyTo t_servedIn = some o) : mtI l yX9_served wsX9_served rmX9_served D (tys5 cI cB cZ cS cT) [.ref qt, .int p1] (w_Mod cI cB cZ cS cT qt qt_state qt_readPage qt_tape qt_cuts qt_letters qt_queue qt_busyTo qt_servedIn qt_waysOn qt_costOn qt_aheads qt_seen qt_isKept qt_lanes qt_lengths qt_cells t_hasLaw t_hasCounters t_highest t_taped t_fault t_broken t_brokenAt t_spot t_here t_token t_value t_queued t_payed t_bestWait t_bestWhom t_bestCoins t_seenMany t_torn t_state t_readPage t_tape t_cuts t_letters t_queue t_busyTo t_servedIn t_waysOn t_costOn t_aheads t_seen t_isKept t_lanes t_lengths t_cells) (w_Mod cI cB cZ cS cT qt qt_state qt_readPage qt_tape qt_cuts qt_letters qt_queue qt_busyTo qt_servedIn qt_waysOn qt_costOn qt_aheads qt_seen qt_isKept qt_lanes qt_lengths qt_cells t_hasLaw t_hasCounters t_highest t_taped t_fault t_broken t_brokenAt t_spot t_here t_token t_value o.2.1 o.2.2.1 t_bestWait t_bestWhom t_bestCoins t_seenMany t_torn o.2.2.2.1 t_readPage t_tape t_cuts t_letters o.2.2.2.2.1 o.2.2.2.2.2.1 o.2.2.2.2.2.2 t_waysOn t_costOn t_aheads t_seen t_isKept t_lanes t_lengths t_cells) o.1 := by
  refine mtI.of (cc := cX9_served) (maxL := 2) (ret := (some .int)) (by decide) rfl (Nat.le_of_ble_eq_true rfl) ?_
  intro p e s m below meth c A Q av hav hQ hx hb hr hml hown hts hlocks hK hP hD hA hS ls hl
  have hown : s.vm.findClass RX9 = some m.cls := hown
  have hl : lv_has ls 2 [(0, .ref qt), (1, .int p1)] := hl
  unfold Mod_served at hM
  have inX9w : ∀ w ∈ u_ws RX9 TX9 34, w ∈ wsX9_served := by decide +kernel
  have hf31 := hts (.fieldLink RX9 31 "LetsInModel" "servedIn" "[I") (by decide +kernel)
  refine lv_aload_n hx hb dX9_served_0 rfl (lv_at hl 0 rfl) ?_
  refine lv_iload_n hx hb dX9_served_1 rfl (lv_at hl 1 rfl) ?_
  obtain ⟨o_1, hc, hM⟩ := bind_so hM
  refine mr_callVi (As := [.int p1]) (rest := []) (wr := []) ⟨hx, hb, hml, hown, hts⟩ (k_Mod_isOne l D cI cB cZ cS cT qt qt_state qt_readPage qt_tape qt_cuts qt_letters qt_queue qt_busyTo qt_servedIn qt_waysOn qt_costOn qt_aheads qt_seen qt_isKept qt_lanes qt_lengths qt_cells t_hasLaw t_hasCounters t_highest t_taped t_fault t_broken t_brokenAt t_spot t_here t_token t_value t_queued t_payed t_bestWait t_bestWhom t_bestCoins t_seenMany t_torn t_state t_readPage t_tape t_cuts t_letters t_queue t_busyTo t_servedIn t_waysOn t_costOn t_aheads t_seen t_isKept t_lanes t_lengths t_cells p1 _ hc) (cwV 1 hts gX9_served_X9_isOne rfl rfl rfl (by decide +kernel) ⟨Nat.le_of_ble_eq_true rfl, Nat.le_of_ble_eq_true rfl⟩) hK hP hD hS hA [0, 1, 2, 3, 4, 5, 6, 7, 8, 9, 10, 11, 12, 13, 14, 15, 16] [] [0, 1, 2, 3, 4, 5, 6, 7, 8, 9, 10, 11, 12, 13, 14, 15, 16] (w_Mod cI cB cZ cS cT qt qt_state qt_readPage qt_tape qt_cuts qt_letters qt_queue qt_busyTo qt_servedIn qt_waysOn qt_costOn qt_aheads qt_seen qt_isKept qt_lanes qt_lengths qt_cells t_hasLaw t_hasCounters t_highest t_taped t_fault t_broken t_brokenAt t_spot t_here t_token t_value t_queued t_payed t_bestWait t_bestWhom t_bestCoins t_seenMany t_torn t_state t_readPage t_tape t_cuts t_letters t_queue t_busyTo t_servedIn t_waysOn t_costOn t_aheads t_seen t_isKept t_lanes t_lengths t_cells) rfl rfl rfl rfl (by decide) rfl rfl 9 0 rfl rfl rfl rfl hl.1 rfl (Nat.le_of_ble_eq_true rfl) dX9_served_2 ⟨Nat.zero_le _, Nat.zero_le _⟩ (fun H locs hP hD hS => ?_)
  refine mr_if_ne (tgt := 10) hx hb hM dX9_served_5 (by decide) (fun hM => ?_) (fun hM => ?_)
  · refine lv_aload_n hx hb dX9_served_10 rfl (lv_at hl 0 rfl) ?_
    obtain ⟨o_2, hc, hM⟩ := bind_so hM
    refine mr_callVv (As := []) (rest := []) (wr := []) ⟨hx, hb, hml, hown, hts⟩ (k_Mod_runsAll l D cI cB cZ cS cT qt qt_state qt_readPage qt_tape qt_cuts qt_letters qt_queue qt_busyTo qt_servedIn qt_waysOn qt_costOn qt_aheads qt_seen qt_isKept qt_lanes qt_lengths qt_cells t_hasLaw t_hasCounters t_highest t_taped t_fault t_broken t_brokenAt t_spot t_here t_token t_value t_queued t_payed t_bestWait t_bestWhom t_bestCoins t_seenMany t_torn t_state t_readPage t_tape t_cuts t_letters t_queue t_busyTo t_servedIn t_waysOn t_costOn t_aheads t_seen t_isKept t_lanes t_lengths t_cells  _ hc) (cwV 0 hts gX9_served_X9_runsAll rfl rfl rfl (by decide +kernel) ⟨Nat.le_of_ble_eq_true rfl, Nat.le_of_ble_eq_true rfl⟩) hK hP hD hS hA [0, 1, 2, 3, 4, 5, 6, 7, 8, 9, 10, 11, 12, 13, 14, 15, 16] [] [0, 1, 2, 3, 4, 5, 6, 7, 8, 9, 10, 11, 12, 13, 14, 15, 16] (w_Mod cI cB cZ cS cT qt qt_state qt_readPage qt_tape qt_cuts qt_letters qt_queue qt_busyTo qt_servedIn qt_waysOn qt_costOn qt_aheads qt_seen qt_isKept qt_lanes qt_lengths qt_cells t_hasLaw t_hasCounters t_highest t_taped t_fault t_broken t_brokenAt t_spot t_here t_token t_value o_2.1 o_2.2.1 t_bestWait t_bestWhom t_bestCoins t_seenMany t_torn o_2.2.2.1 t_readPage t_tape t_cuts t_letters o_2.2.2.2.1 o_2.2.2.2.2.1 o_2.2.2.2.2.2 t_waysOn t_costOn t_aheads t_seen t_isKept t_lanes t_lengths t_cells) rfl rfl rfl rfl (by decide) rfl rfl 9 0 rfl rfl rfl rfl hl.1 rfl (Nat.le_of_ble_eq_true rfl) dX9_served_11 ⟨Nat.zero_le _, Nat.zero_le _⟩ (fun H locs hP hD hS => ?_)
    refine lv_aload_n hx hb dX9_served_14 rfl (lv_at hl 0 rfl) ?_
    refine va_get (D := D) (ci := 9) (v := .ref qt_servedIn) (C := RX9) (T := TX9) (N := 34) hx hb hts inX9w hown hK hP 0 rfl rfl 19 (by decide) hf31 (fun _ h9 => h9) rfl dX9_served_15 ?_
    refine lv_iload_n hx hb dX9_served_18 rfl (lv_at hl 1 rfl) ?_
    refine mr_iald hx hb hK hP 8 0 rfl rfl hM dX9_served_19 (fun v_3 hM => ?_)
    have hM := Option.some.inj hM
    subst hM
    exact mr_iret hx hb hr hlocks hQ hP hD hS rfl dX9_served_20
  · refine lv_iconst (v := (-1)) hx hb dX9_served_8 (by decide) ?_
    have hM := Option.some.inj hM
    subst hM
    exact mr_iret hx hb hr hlocks hQ hP hD hS rfl dX9_served_9

abbrev rmX9_waitOf : Room := { frames := 0, cells := 0, slots := 0, locals := 0 }
set_option maxHeartbeats 40000000 in
set_option maxRecDepth 100000 in
theorem k_Mod_waitOf (l : Launch) (D : va_G) (cI cB cZ cS cT : ClassId) (qt qt_state qt_readPage qt_tape qt_cuts qt_letters qt_queue qt_busyTo qt_servedIn qt_waysOn qt_costOn qt_aheads qt_seen qt_isKept qt_lanes qt_lengths qt_cells : Nat) (t_hasLaw t_hasCounters t_highest t_taped t_fault t_broken t_brokenAt t_spot t_here t_token t_value t_queued t_payed t_bestWait t_bestWhom t_bestCoins t_seenMany t_torn : Int32) (t_state t_readPage t_tape t_cuts t_letters t_queue t_busyTo t_servedIn t_waysOn t_costOn t_aheads t_seen t_isKept t_lanes t_lengths t_cells : Nat → Int32) (p1 : Int32) (o : Int32) (hM : Mod_waitOf p1 t_state t_servedIn = some o) : mtI l yX9_waitOf wsX9_waitOf rmX9_waitOf D (tys5 cI cB cZ cS cT) [.ref qt, .int p1] (w_Mod cI cB cZ cS cT qt qt_state qt_readPage qt_tape qt_cuts qt_letters qt_queue qt_busyTo qt_servedIn qt_waysOn qt_costOn qt_aheads qt_seen qt_isKept qt_lanes qt_lengths qt_cells t_hasLaw t_hasCounters t_highest t_taped t_fault t_broken t_brokenAt t_spot t_here t_token t_value t_queued t_payed t_bestWait t_bestWhom t_bestCoins t_seenMany t_torn t_state t_readPage t_tape t_cuts t_letters t_queue t_busyTo t_servedIn t_waysOn t_costOn t_aheads t_seen t_isKept t_lanes t_lengths t_cells) (w_Mod cI cB cZ cS cT qt qt_state qt_readPage qt_tape qt_cuts qt_letters qt_queue qt_busyTo qt_servedIn qt_waysOn qt_costOn qt_aheads qt_seen qt_isKept qt_lanes qt_lengths qt_cells t_hasLaw t_hasCounters t_highest t_taped t_fault t_broken t_brokenAt t_spot t_here t_token t_value t_queued t_payed t_bestWait t_bestWhom t_bestCoins t_seenMany t_torn t_state t_readPage t_tape t_cuts t_letters t_queue t_busyTo t_servedIn t_waysOn t_costOn t_aheads t_seen t_isKept t_lanes t_lengths t_cells) o := by
  refine mtI.of (cc := cX9_waitOf) (maxL := 2) (ret := (some .int)) (by decide) rfl (Nat.le_of_ble_eq_true rfl) ?_
  intro p e s m below meth c A Q av hav hQ hx hb hr hml hown hts hlocks hK hP hD hA hS ls hl
  have hown : s.vm.findClass RX9 = some m.cls := hown
  have hl : lv_has ls 2 [(0, .ref qt), (1, .int p1)] := hl
  unfold Mod_waitOf at hM
  have inX9w : ∀ w ∈ u_ws RX9 TX9 34, w ∈ wsX9_waitOf := by decide +kernel
  have hf31 := hts (.fieldLink RX9 31 "LetsInModel" "servedIn" "[I") (by decide +kernel)
  have hf7 := hts (.fieldLink RX9 7 "LetsInModel" "state" "[I") (by decide +kernel)
  refine lv_aload_n hx hb dX9_waitOf_0 rfl (lv_at hl 0 rfl) ?_
  refine va_get (D := D) (ci := 9) (v := .ref qt_servedIn) (C := RX9) (T := TX9) (N := 34) hx hb hts inX9w hown hK hP 0 rfl rfl 19 (by decide) hf31 (fun _ h9 => h9) rfl dX9_waitOf_1 ?_
  refine lv_iload_n hx hb dX9_waitOf_4 rfl (lv_at hl 1 rfl) ?_
  refine mr_iald hx hb hK hP 8 0 rfl rfl hM dX9_waitOf_5 (fun v_1 hM => ?_)
  refine lv_aload_n hx hb dX9_waitOf_6 rfl (lv_at hl 0 rfl) ?_
  refine va_get (D := D) (ci := 9) (v := .ref qt_state) (C := RX9) (T := TX9) (N := 34) hx hb hts inX9w hown hK hP 0 rfl rfl 0 (by decide) hf7 (fun _ h9 => h9) rfl dX9_waitOf_7 ?_
  refine lv_sipush (v := 282) hx hb dX9_waitOf_10 (by decide) ?_
  refine lv_bipush (v := 6) hx hb dX9_waitOf_13 (by decide) ?_
  refine lv_iload_n hx hb dX9_waitOf_15 rfl (lv_at hl 1 rfl) ?_
  refine lv_imul hx hb dX9_waitOf_16 ?_
  refine lv_iadd hx hb dX9_waitOf_17 ?_
  refine lv_iconst (v := 1) hx hb dX9_waitOf_18 (by decide) ?_
  refine lv_iadd hx hb dX9_waitOf_19 ?_
  refine mr_iald hx hb hK hP 1 0 rfl rfl hM dX9_waitOf_20 (fun v_2 hM => ?_)
  refine lv_isub hx hb dX9_waitOf_21 ?_
  have hM := Option.some.inj hM
  subst hM
  exact mr_iret hx hb hr hlocks hQ hP hD hS rfl dX9_waitOf_22

abbrev rmX9_waits : Room := { frames := 6, cells := 0, slots := 0, locals := 141 }
set_option maxHeartbeats 40000000 in
set_option maxRecDepth 100000 in
theorem k_Mod_waits (l : Launch) (D : va_G) (cI cB cZ cS cT : ClassId) (qt qt_state qt_readPage qt_tape qt_cuts qt_letters qt_queue qt_busyTo qt_servedIn qt_waysOn qt_costOn qt_aheads qt_seen qt_isKept qt_lanes qt_lengths qt_cells : Nat) (t_hasLaw t_hasCounters t_highest t_taped t_fault t_broken t_brokenAt t_spot t_here t_token t_value t_queued t_payed t_bestWait t_bestWhom t_bestCoins t_seenMany t_torn : Int32) (t_state t_readPage t_tape t_cuts t_letters t_queue t_busyTo t_servedIn t_waysOn t_costOn t_aheads t_seen t_isKept t_lanes t_lengths t_cells : Nat → Int32) (p1 : Int32) (o : Int32 × Int32 × Int32 × (Nat → Int32) × (Nat → Int32) × (Nat → Int32) × (Nat → Int32)) (hM : Mod_waits p1 t_queued t_payed t_state t_queue t_busyTo t_servedIn = some o) : mtI l yX9_waits wsX9_waits rmX9_waits D (tys5 cI cB cZ cS cT) [.ref qt, .int p1] (w_Mod cI cB cZ cS cT qt qt_state qt_readPage qt_tape qt_cuts qt_letters qt_queue qt_busyTo qt_servedIn qt_waysOn qt_costOn qt_aheads qt_seen qt_isKept qt_lanes qt_lengths qt_cells t_hasLaw t_hasCounters t_highest t_taped t_fault t_broken t_brokenAt t_spot t_here t_token t_value t_queued t_payed t_bestWait t_bestWhom t_bestCoins t_seenMany t_torn t_state t_readPage t_tape t_cuts t_letters t_queue t_busyTo t_servedIn t_waysOn t_costOn t_aheads t_seen t_isKept t_lanes t_lengths t_cells) (w_Mod cI cB cZ cS cT qt qt_state qt_readPage qt_tape qt_cuts qt_letters qt_queue qt_busyTo qt_servedIn qt_waysOn qt_costOn qt_aheads qt_seen qt_isKept qt_lanes qt_lengths qt_cells t_hasLaw t_hasCounters t_highest t_taped t_fault t_broken t_brokenAt t_spot t_here t_token t_value o.2.1 o.2.2.1 t_bestWait t_bestWhom t_bestCoins t_seenMany t_torn o.2.2.2.1 t_readPage t_tape t_cuts t_letters o.2.2.2.2.1 o.2.2.2.2.2.1 o.2.2.2.2.2.2 t_waysOn t_costOn t_aheads t_seen t_isKept t_lanes t_lengths t_cells) o.1 := by
  refine mtI.of (cc := cX9_waits) (maxL := 2) (ret := (some .int)) (by decide) rfl (Nat.le_of_ble_eq_true rfl) ?_
  intro p e s m below meth c A Q av hav hQ hx hb hr hml hown hts hlocks hK hP hD hA hS ls hl
  have hown : s.vm.findClass RX9 = some m.cls := hown
  have hl : lv_has ls 2 [(0, .ref qt), (1, .int p1)] := hl
  unfold Mod_waits at hM
  refine lv_aload_n hx hb dX9_waits_0 rfl (lv_at hl 0 rfl) ?_
  refine lv_iload_n hx hb dX9_waits_1 rfl (lv_at hl 1 rfl) ?_
  obtain ⟨o_1, hc, hM⟩ := bind_so hM
  refine mr_callVi (As := [.int p1]) (rest := []) (wr := []) ⟨hx, hb, hml, hown, hts⟩ (k_Mod_isOne l D cI cB cZ cS cT qt qt_state qt_readPage qt_tape qt_cuts qt_letters qt_queue qt_busyTo qt_servedIn qt_waysOn qt_costOn qt_aheads qt_seen qt_isKept qt_lanes qt_lengths qt_cells t_hasLaw t_hasCounters t_highest t_taped t_fault t_broken t_brokenAt t_spot t_here t_token t_value t_queued t_payed t_bestWait t_bestWhom t_bestCoins t_seenMany t_torn t_state t_readPage t_tape t_cuts t_letters t_queue t_busyTo t_servedIn t_waysOn t_costOn t_aheads t_seen t_isKept t_lanes t_lengths t_cells p1 _ hc) (cwV 1 hts gX9_waits_X9_isOne rfl rfl rfl (by decide +kernel) ⟨Nat.le_of_ble_eq_true rfl, Nat.le_of_ble_eq_true rfl⟩) hK hP hD hS hA [0, 1, 2, 3, 4, 5, 6, 7, 8, 9, 10, 11, 12, 13, 14, 15, 16] [] [0, 1, 2, 3, 4, 5, 6, 7, 8, 9, 10, 11, 12, 13, 14, 15, 16] (w_Mod cI cB cZ cS cT qt qt_state qt_readPage qt_tape qt_cuts qt_letters qt_queue qt_busyTo qt_servedIn qt_waysOn qt_costOn qt_aheads qt_seen qt_isKept qt_lanes qt_lengths qt_cells t_hasLaw t_hasCounters t_highest t_taped t_fault t_broken t_brokenAt t_spot t_here t_token t_value t_queued t_payed t_bestWait t_bestWhom t_bestCoins t_seenMany t_torn t_state t_readPage t_tape t_cuts t_letters t_queue t_busyTo t_servedIn t_waysOn t_costOn t_aheads t_seen t_isKept t_lanes t_lengths t_cells) rfl rfl rfl rfl (by decide) rfl rfl 9 0 rfl rfl rfl rfl hl.1 rfl (Nat.le_of_ble_eq_true rfl) dX9_waits_2 ⟨Nat.zero_le _, Nat.zero_le _⟩ (fun H locs hP hD hS => ?_)
  refine mr_if_ne (tgt := 10) hx hb hM dX9_waits_5 (by decide) (fun hM => ?_) (fun hM => ?_)
  · refine lv_aload_n hx hb dX9_waits_10 rfl (lv_at hl 0 rfl) ?_
    obtain ⟨o_2, hc, hM⟩ := bind_so hM
    refine mr_callVv (As := []) (rest := []) (wr := []) ⟨hx, hb, hml, hown, hts⟩ (k_Mod_runsAll l D cI cB cZ cS cT qt qt_state qt_readPage qt_tape qt_cuts qt_letters qt_queue qt_busyTo qt_servedIn qt_waysOn qt_costOn qt_aheads qt_seen qt_isKept qt_lanes qt_lengths qt_cells t_hasLaw t_hasCounters t_highest t_taped t_fault t_broken t_brokenAt t_spot t_here t_token t_value t_queued t_payed t_bestWait t_bestWhom t_bestCoins t_seenMany t_torn t_state t_readPage t_tape t_cuts t_letters t_queue t_busyTo t_servedIn t_waysOn t_costOn t_aheads t_seen t_isKept t_lanes t_lengths t_cells  _ hc) (cwV 0 hts gX9_waits_X9_runsAll rfl rfl rfl (by decide +kernel) ⟨Nat.le_of_ble_eq_true rfl, Nat.le_of_ble_eq_true rfl⟩) hK hP hD hS hA [0, 1, 2, 3, 4, 5, 6, 7, 8, 9, 10, 11, 12, 13, 14, 15, 16] [] [0, 1, 2, 3, 4, 5, 6, 7, 8, 9, 10, 11, 12, 13, 14, 15, 16] (w_Mod cI cB cZ cS cT qt qt_state qt_readPage qt_tape qt_cuts qt_letters qt_queue qt_busyTo qt_servedIn qt_waysOn qt_costOn qt_aheads qt_seen qt_isKept qt_lanes qt_lengths qt_cells t_hasLaw t_hasCounters t_highest t_taped t_fault t_broken t_brokenAt t_spot t_here t_token t_value o_2.1 o_2.2.1 t_bestWait t_bestWhom t_bestCoins t_seenMany t_torn o_2.2.2.1 t_readPage t_tape t_cuts t_letters o_2.2.2.2.1 o_2.2.2.2.2.1 o_2.2.2.2.2.2 t_waysOn t_costOn t_aheads t_seen t_isKept t_lanes t_lengths t_cells) rfl rfl rfl rfl (by decide) rfl rfl 9 0 rfl rfl rfl rfl hl.1 rfl (Nat.le_of_ble_eq_true rfl) dX9_waits_11 ⟨Nat.zero_le _, Nat.zero_le _⟩ (fun H locs hP hD hS => ?_)
    refine lv_aload_n hx hb dX9_waits_14 rfl (lv_at hl 0 rfl) ?_
    refine lv_iload_n hx hb dX9_waits_15 rfl (lv_at hl 1 rfl) ?_
    obtain ⟨o_3, hc, hM⟩ := bind_so hM
    refine mr_callVi (As := [.int p1]) (rest := []) (wr := []) ⟨hx, hb, hml, hown, hts⟩ (k_Mod_waitOf l D cI cB cZ cS cT qt qt_state qt_readPage qt_tape qt_cuts qt_letters qt_queue qt_busyTo qt_servedIn qt_waysOn qt_costOn qt_aheads qt_seen qt_isKept qt_lanes qt_lengths qt_cells t_hasLaw t_hasCounters t_highest t_taped t_fault t_broken t_brokenAt t_spot t_here t_token t_value o_2.1 o_2.2.1 t_bestWait t_bestWhom t_bestCoins t_seenMany t_torn o_2.2.2.1 t_readPage t_tape t_cuts t_letters o_2.2.2.2.1 o_2.2.2.2.2.1 o_2.2.2.2.2.2 t_waysOn t_costOn t_aheads t_seen t_isKept t_lanes t_lengths t_cells p1 _ hc) (cwV 1 hts gX9_waits_X9_waitOf rfl rfl rfl (by decide +kernel) ⟨Nat.le_of_ble_eq_true rfl, Nat.le_of_ble_eq_true rfl⟩) hK hP hD hS hA [0, 1, 2, 3, 4, 5, 6, 7, 8, 9, 10, 11, 12, 13, 14, 15, 16] [] [0, 1, 2, 3, 4, 5, 6, 7, 8, 9, 10, 11, 12, 13, 14, 15, 16] (w_Mod cI cB cZ cS cT qt qt_state qt_readPage qt_tape qt_cuts qt_letters qt_queue qt_busyTo qt_servedIn qt_waysOn qt_costOn qt_aheads qt_seen qt_isKept qt_lanes qt_lengths qt_cells t_hasLaw t_hasCounters t_highest t_taped t_fault t_broken t_brokenAt t_spot t_here t_token t_value o_2.1 o_2.2.1 t_bestWait t_bestWhom t_bestCoins t_seenMany t_torn o_2.2.2.1 t_readPage t_tape t_cuts t_letters o_2.2.2.2.1 o_2.2.2.2.2.1 o_2.2.2.2.2.2 t_waysOn t_costOn t_aheads t_seen t_isKept t_lanes t_lengths t_cells) rfl rfl rfl rfl (by decide) rfl rfl 9 0 rfl rfl rfl rfl hl.1 rfl (Nat.le_of_ble_eq_true rfl) dX9_waits_16 ⟨Nat.zero_le _, Nat.zero_le _⟩ (fun H locs hP hD hS => ?_)
    have hM := Option.some.inj hM
    subst hM
    exact mr_iret hx hb hr hlocks hQ hP hD hS rfl dX9_waits_19
  · refine lv_iconst (v := (-1)) hx hb dX9_waits_8 (by decide) ?_
    have hM := Option.some.inj hM
    subst hM
    exact mr_iret hx hb hr hlocks hQ hP hD hS rfl dX9_waits_9

abbrev rmX9_place : Room := { frames := 5, cells := 0, slots := 0, locals := 121 }
set_option maxHeartbeats 40000000 in
set_option maxRecDepth 100000 in
theorem k_Mod_place (l : Launch) (D : va_G) (cI cB cZ cS cT : ClassId) (qt qt_state qt_readPage qt_tape qt_cuts qt_letters qt_queue qt_busyTo qt_servedIn qt_waysOn qt_costOn qt_aheads qt_seen qt_isKept qt_lanes qt_lengths qt_cells : Nat) (t_hasLaw t_hasCounters t_highest t_taped t_fault t_broken t_brokenAt t_spot t_here t_token t_value t_queued t_payed t_bestWait t_bestWhom t_bestCoins t_seenMany t_torn : Int32) (t_state t_readPage t_tape t_cuts t_letters t_queue t_busyTo t_servedIn t_waysOn t_costOn t_aheads t_seen t_isKept t_lanes t_lengths t_cells : Nat → Int32) (p1 p2 : Int32) (o : Int32 × Int32 × Int32 × (Nat → Int32) × (Nat → Int32) × (Nat → Int32) × (Nat → Int32)) (hM : Mod_place p1 p2 t_queued t_payed t_state t_queue t_busyTo t_servedIn = some o) : mtI l yX9_place wsX9_place rmX9_place D (tys5 cI cB cZ cS cT) [.ref qt, .int p1, .int p2] (w_Mod cI cB cZ cS cT qt qt_state qt_readPage qt_tape qt_cuts qt_letters qt_queue qt_busyTo qt_servedIn qt_waysOn qt_costOn qt_aheads qt_seen qt_isKept qt_lanes qt_lengths qt_cells t_hasLaw t_hasCounters t_highest t_taped t_fault t_broken t_brokenAt t_spot t_here t_token t_value t_queued t_payed t_bestWait t_bestWhom t_bestCoins t_seenMany t_torn t_state t_readPage t_tape t_cuts t_letters t_queue t_busyTo t_servedIn t_waysOn t_costOn t_aheads t_seen t_isKept t_lanes t_lengths t_cells) (w_Mod cI cB cZ cS cT qt qt_state qt_readPage qt_tape qt_cuts qt_letters qt_queue qt_busyTo qt_servedIn qt_waysOn qt_costOn qt_aheads qt_seen qt_isKept qt_lanes qt_lengths qt_cells t_hasLaw t_hasCounters t_highest t_taped t_fault t_broken t_brokenAt t_spot t_here t_token t_value o.2.1 o.2.2.1 t_bestWait t_bestWhom t_bestCoins t_seenMany t_torn o.2.2.2.1 t_readPage t_tape t_cuts t_letters o.2.2.2.2.1 o.2.2.2.2.2.1 o.2.2.2.2.2.2 t_waysOn t_costOn t_aheads t_seen t_isKept t_lanes t_lengths t_cells) o.1 := by
  refine mtI.of (cc := cX9_place) (maxL := 4) (ret := (some .int)) (by decide) rfl (Nat.le_of_ble_eq_true rfl) ?_
  intro p e s m below meth c A Q av hav hQ hx hb hr hml hown hts hlocks hK hP hD hA hS ls hl
  have hown : s.vm.findClass RX9 = some m.cls := hown
  have hl : lv_has ls 4 [(0, .ref qt), (1, .int p1), (2, .int p2)] := hl
  unfold Mod_place at hM
  have inX9w : ∀ w ∈ u_ws RX9 TX9 34, w ∈ wsX9_place := by decide +kernel
  have hfc213 := hts (.constantLong RX9 213 130) (by decide +kernel)
  have hf187 := hts (.fieldLink RX9 187 "LetsInModel" "queued" "I") (by decide +kernel)
  have hf25 := hts (.fieldLink RX9 25 "LetsInModel" "queue" "[I") (by decide +kernel)
  refine lv_aload_n hx hb dX9_place_0 rfl (lv_at hl 0 rfl) ?_
  refine lv_iload_n hx hb dX9_place_1 rfl (lv_at hl 1 rfl) ?_
  obtain ⟨o_1, hc, hM⟩ := bind_so hM
  refine mr_callVi (As := [.int p1]) (rest := []) (wr := []) ⟨hx, hb, hml, hown, hts⟩ (k_Mod_isOne l D cI cB cZ cS cT qt qt_state qt_readPage qt_tape qt_cuts qt_letters qt_queue qt_busyTo qt_servedIn qt_waysOn qt_costOn qt_aheads qt_seen qt_isKept qt_lanes qt_lengths qt_cells t_hasLaw t_hasCounters t_highest t_taped t_fault t_broken t_brokenAt t_spot t_here t_token t_value t_queued t_payed t_bestWait t_bestWhom t_bestCoins t_seenMany t_torn t_state t_readPage t_tape t_cuts t_letters t_queue t_busyTo t_servedIn t_waysOn t_costOn t_aheads t_seen t_isKept t_lanes t_lengths t_cells p1 _ hc) (cwV 1 hts gX9_place_X9_isOne rfl rfl rfl (by decide +kernel) ⟨Nat.le_of_ble_eq_true rfl, Nat.le_of_ble_eq_true rfl⟩) hK hP hD hS hA [0, 1, 2, 3, 4, 5, 6, 7, 8, 9, 10, 11, 12, 13, 14, 15, 16] [] [0, 1, 2, 3, 4, 5, 6, 7, 8, 9, 10, 11, 12, 13, 14, 15, 16] (w_Mod cI cB cZ cS cT qt qt_state qt_readPage qt_tape qt_cuts qt_letters qt_queue qt_busyTo qt_servedIn qt_waysOn qt_costOn qt_aheads qt_seen qt_isKept qt_lanes qt_lengths qt_cells t_hasLaw t_hasCounters t_highest t_taped t_fault t_broken t_brokenAt t_spot t_here t_token t_value t_queued t_payed t_bestWait t_bestWhom t_bestCoins t_seenMany t_torn t_state t_readPage t_tape t_cuts t_letters t_queue t_busyTo t_servedIn t_waysOn t_costOn t_aheads t_seen t_isKept t_lanes t_lengths t_cells) rfl rfl rfl rfl (by decide) rfl rfl 9 0 rfl rfl rfl rfl hl.1 rfl (Nat.le_of_ble_eq_true rfl) dX9_place_2 ⟨Nat.zero_le _, Nat.zero_le _⟩ (fun H locs hP hD hS => ?_)
  refine mr_if_eq (tgt := 20) hx hb hM dX9_place_5 (by decide) (fun hM => ?_) (fun hM => ?_)
  · refine lv_iconst (v := (-1)) hx hb dX9_place_20 (by decide) ?_
    have hM := Option.some.inj hM
    subst hM
    exact mr_iret hx hb hr hlocks hQ hP hD hS rfl dX9_place_21
  · refine lv_iload_n hx hb dX9_place_8 rfl (lv_at hl 2 rfl) ?_
    refine lv_i2l hx hb dX9_place_9 rfl ?_
    refine lv_lconst (v := 0) hx hb dX9_place_10 (by decide) ?_
    refine lv_ldc2 (v := 130) hx hb hown hfc213 dX9_place_11 ?_
    obtain ⟨o_2, hc, hM⟩ := bind_so hM
    refine mr_callSi (As := [.long p2.toInt64, .long 0, .long 130]) (rest := []) ⟨hx, hb, hml, hown, hts⟩ (k_Mod_in l D cI cB cZ cS cT   p2.toInt64 0 130 _ hc) (cwS 3 hts gX9_place_X9_in rfl rfl rfl (by decide +kernel) ⟨Nat.le_of_ble_eq_true rfl, Nat.le_of_ble_eq_true rfl⟩) hK hP hD hS hA rfl hl.1 rfl (Nat.le_of_ble_eq_true rfl) dX9_place_14 ⟨Nat.zero_le _, Nat.zero_le _⟩ (fun H locs hP hS => ?_)
    refine mr_if_ne (tgt := 22) hx hb hM dX9_place_17 (by decide) (fun hM => ?_) (fun hM => ?_)
    · refine lv_aload_n hx hb dX9_place_22 rfl (lv_at hl 0 rfl) ?_
      refine lv_iconst (v := 0) hx hb dX9_place_23 (by decide) ?_
      refine lv_sipush (v := 282) hx hb dX9_place_24 (by decide) ?_
      obtain ⟨o_3, hc, hM⟩ := bind_so hM
      refine mr_callVv (As := [.int 0, .int 282]) (rest := []) (wr := []) ⟨hx, hb, hml, hown, hts⟩ (k_Mod_copies l D cI cB cZ cS cT qt qt_state qt_readPage qt_tape qt_cuts qt_letters qt_queue qt_busyTo qt_servedIn qt_waysOn qt_costOn qt_aheads qt_seen qt_isKept qt_lanes qt_lengths qt_cells t_hasLaw t_hasCounters t_highest t_taped t_fault t_broken t_brokenAt t_spot t_here t_token t_value t_queued t_payed t_bestWait t_bestWhom t_bestCoins t_seenMany t_torn t_state t_readPage t_tape t_cuts t_letters t_queue t_busyTo t_servedIn t_waysOn t_costOn t_aheads t_seen t_isKept t_lanes t_lengths t_cells 0 282 _ hc) (cwV 2 hts gX9_place_X9_copies rfl rfl rfl (by decide +kernel) ⟨Nat.le_of_ble_eq_true rfl, Nat.le_of_ble_eq_true rfl⟩) hK hP hD hS hA [0, 1, 2, 3, 4, 5, 6, 7, 8, 9, 10, 11, 12, 13, 14, 15, 16] [] [0, 1, 2, 3, 4, 5, 6, 7, 8, 9, 10, 11, 12, 13, 14, 15, 16] (w_Mod cI cB cZ cS cT qt qt_state qt_readPage qt_tape qt_cuts qt_letters qt_queue qt_busyTo qt_servedIn qt_waysOn qt_costOn qt_aheads qt_seen qt_isKept qt_lanes qt_lengths qt_cells t_hasLaw t_hasCounters t_highest t_taped t_fault t_broken t_brokenAt t_spot t_here t_token t_value t_queued t_payed t_bestWait t_bestWhom t_bestCoins t_seenMany t_torn o_3 t_readPage t_tape t_cuts t_letters t_queue t_busyTo t_servedIn t_waysOn t_costOn t_aheads t_seen t_isKept t_lanes t_lengths t_cells) rfl rfl rfl rfl (by decide) rfl rfl 9 0 rfl rfl rfl rfl hl.1 rfl (Nat.le_of_ble_eq_true rfl) dX9_place_27 ⟨Nat.zero_le _, Nat.zero_le _⟩ (fun H locs hP hD hS => ?_)
      refine lv_aload_n hx hb dX9_place_30 rfl (lv_at hl 0 rfl) ?_
      refine lv_iload_n hx hb dX9_place_31 rfl (lv_at hl 2 rfl) ?_
      obtain ⟨o_4, hc, hM⟩ := bind_so hM
      refine mr_callVv (As := [.int p2]) (rest := []) (wr := []) ⟨hx, hb, hml, hown, hts⟩ (k_Mod_runsTo l D cI cB cZ cS cT qt qt_state qt_readPage qt_tape qt_cuts qt_letters qt_queue qt_busyTo qt_servedIn qt_waysOn qt_costOn qt_aheads qt_seen qt_isKept qt_lanes qt_lengths qt_cells t_hasLaw t_hasCounters t_highest t_taped t_fault t_broken t_brokenAt t_spot t_here t_token t_value t_queued t_payed t_bestWait t_bestWhom t_bestCoins t_seenMany t_torn o_3 t_readPage t_tape t_cuts t_letters t_queue t_busyTo t_servedIn t_waysOn t_costOn t_aheads t_seen t_isKept t_lanes t_lengths t_cells p2 _ hc) (cwV 1 hts gX9_place_X9_runsTo rfl rfl rfl (by decide +kernel) ⟨Nat.le_of_ble_eq_true rfl, Nat.le_of_ble_eq_true rfl⟩) hK hP hD hS hA [0, 1, 2, 3, 4, 5, 6, 7, 8, 9, 10, 11, 12, 13, 14, 15, 16] [] [0, 1, 2, 3, 4, 5, 6, 7, 8, 9, 10, 11, 12, 13, 14, 15, 16] (w_Mod cI cB cZ cS cT qt qt_state qt_readPage qt_tape qt_cuts qt_letters qt_queue qt_busyTo qt_servedIn qt_waysOn qt_costOn qt_aheads qt_seen qt_isKept qt_lanes qt_lengths qt_cells t_hasLaw t_hasCounters t_highest t_taped t_fault t_broken t_brokenAt t_spot t_here t_token t_value o_4.1 o_4.2.1 t_bestWait t_bestWhom t_bestCoins t_seenMany t_torn o_4.2.2.1 t_readPage t_tape t_cuts t_letters o_4.2.2.2.1 o_4.2.2.2.2.1 o_4.2.2.2.2.2 t_waysOn t_costOn t_aheads t_seen t_isKept t_lanes t_lengths t_cells) rfl rfl rfl rfl (by decide) rfl rfl 9 0 rfl rfl rfl rfl hl.1 rfl (Nat.le_of_ble_eq_true rfl) dX9_place_32 ⟨Nat.zero_le _, Nat.zero_le _⟩ (fun H locs hP hD hS => ?_)
      refine lv_iconst (v := 0) hx hb dX9_place_35 (by decide) ?_
      refine lv_istore_n (lv' := [(3, .int 0), (0, .ref qt), (1, .int p1), (2, .int p2)]) hx hb dX9_place_36 rfl hl (by decide) rfl (fun ls hl => ?_)
      have hL37 : ∀ (K55 : Int32 → Option (Int32 × Int32 × Int32 × (Nat → Int32) × (Nat → Int32) × (Nat → Int32) × (Nat → Int32))) (K63 : Option (Int32 × Int32 × Int32 × (Nat → Int32) × (Nat → Int32) × (Nat → Int32) × (Nat → Int32))), (∀ (x3_8 : Int32), K55 x3_8 = some o → ∀ (H : Heap) (locs : List Loc), va_P D vwCl (w_Mod cI cB cZ cS cT qt qt_state qt_readPage qt_tape qt_cuts qt_letters qt_queue qt_busyTo qt_servedIn qt_waysOn qt_costOn qt_aheads qt_seen qt_isKept qt_lanes qt_lengths qt_cells t_hasLaw t_hasCounters t_highest t_taped t_fault t_broken t_brokenAt t_spot t_here t_token t_value o_4.1 o_4.2.1 t_bestWait t_bestWhom t_bestCoins t_seenMany t_torn o_4.2.2.1 t_readPage t_tape t_cuts t_letters o_4.2.2.2.1 o_4.2.2.2.2.1 o_4.2.2.2.2.2 t_waysOn t_costOn t_aheads t_seen t_isKept t_lanes t_lengths t_cells) H → va_D A (w_Mod cI cB cZ cS cT qt qt_state qt_readPage qt_tape qt_cuts qt_letters qt_queue qt_busyTo qt_servedIn qt_waysOn qt_costOn qt_aheads qt_seen qt_isKept qt_lanes qt_lengths qt_cells t_hasLaw t_hasCounters t_highest t_taped t_fault t_broken t_brokenAt t_spot t_here t_token t_value o_4.1 o_4.2.1 t_bestWait t_bestWhom t_bestCoins t_seenMany t_torn o_4.2.2.1 t_readPage t_tape t_cuts t_letters o_4.2.2.2.1 o_4.2.2.2.2.1 o_4.2.2.2.2.2 t_waysOn t_costOn t_aheads t_seen t_isKept t_lanes t_lengths t_cells) → va_S A s.heap H locs → ∀ ls : Array Slot, lv_has ls 4 [(3, .int x3_8)] → W p l e rmX9_place s m av below meth c H locs 0 0 Q (F0 m 55 ls [])) → (K63  = some o → ∀ (H : Heap) (locs : List Loc), va_P D vwCl (w_Mod cI cB cZ cS cT qt qt_state qt_readPage qt_tape qt_cuts qt_letters qt_queue qt_busyTo qt_servedIn qt_waysOn qt_costOn qt_aheads qt_seen qt_isKept qt_lanes qt_lengths qt_cells t_hasLaw t_hasCounters t_highest t_taped t_fault t_broken t_brokenAt t_spot t_here t_token t_value o_4.1 o_4.2.1 t_bestWait t_bestWhom t_bestCoins t_seenMany t_torn o_4.2.2.1 t_readPage t_tape t_cuts t_letters o_4.2.2.2.1 o_4.2.2.2.2.1 o_4.2.2.2.2.2 t_waysOn t_costOn t_aheads t_seen t_isKept t_lanes t_lengths t_cells) H → va_D A (w_Mod cI cB cZ cS cT qt qt_state qt_readPage qt_tape qt_cuts qt_letters qt_queue qt_busyTo qt_servedIn qt_waysOn qt_costOn qt_aheads qt_seen qt_isKept qt_lanes qt_lengths qt_cells t_hasLaw t_hasCounters t_highest t_taped t_fault t_broken t_brokenAt t_spot t_here t_token t_value o_4.1 o_4.2.1 t_bestWait t_bestWhom t_bestCoins t_seenMany t_torn o_4.2.2.1 t_readPage t_tape t_cuts t_letters o_4.2.2.2.1 o_4.2.2.2.2.1 o_4.2.2.2.2.2 t_waysOn t_costOn t_aheads t_seen t_isKept t_lanes t_lengths t_cells) → va_S A s.heap H locs → ∀ ls : Array Slot, lv_has ls 4 [] → W p l e rmX9_place s m av below meth c H locs 0 0 Q (F0 m 63 ls [])) → ∀ (n : Nat) (x3_5 : Int32), Mod_place_L37 p1 o_4 K55 K63 n x3_5 = some o → ∀ (H : Heap) (locs : List Loc), va_P D vwCl (w_Mod cI cB cZ cS cT qt qt_state qt_readPage qt_tape qt_cuts qt_letters qt_queue qt_busyTo qt_servedIn qt_waysOn qt_costOn qt_aheads qt_seen qt_isKept qt_lanes qt_lengths qt_cells t_hasLaw t_hasCounters t_highest t_taped t_fault t_broken t_brokenAt t_spot t_here t_token t_value o_4.1 o_4.2.1 t_bestWait t_bestWhom t_bestCoins t_seenMany t_torn o_4.2.2.1 t_readPage t_tape t_cuts t_letters o_4.2.2.2.1 o_4.2.2.2.2.1 o_4.2.2.2.2.2 t_waysOn t_costOn t_aheads t_seen t_isKept t_lanes t_lengths t_cells) H → va_D A (w_Mod cI cB cZ cS cT qt qt_state qt_readPage qt_tape qt_cuts qt_letters qt_queue qt_busyTo qt_servedIn qt_waysOn qt_costOn qt_aheads qt_seen qt_isKept qt_lanes qt_lengths qt_cells t_hasLaw t_hasCounters t_highest t_taped t_fault t_broken t_brokenAt t_spot t_here t_token t_value o_4.1 o_4.2.1 t_bestWait t_bestWhom t_bestCoins t_seenMany t_torn o_4.2.2.1 t_readPage t_tape t_cuts t_letters o_4.2.2.2.1 o_4.2.2.2.2.1 o_4.2.2.2.2.2 t_waysOn t_costOn t_aheads t_seen t_isKept t_lanes t_lengths t_cells) → va_S A s.heap H locs → ∀ ls : Array Slot, lv_has ls 4 [(0, .ref qt), (1, .int p1), (3, .int x3_5)] → W p l e rmX9_place s m av below meth c H locs 0 0 Q (F0 m 37 ls []) := by
        intro K55 K63 hK55 hK63 n
        induction n with
        | zero =>
          intro x3_5 hM
          rw [Mod_place_L37] at hM
          cases hM
        | succ n ih =>
          intro x3_5 hM H locs hP hD hS ls hl
          rw [Mod_place_L37] at hM
          refine lv_iload_n hx hb dX9_place_37 rfl (lv_at hl 2 rfl) ?_
          refine lv_aload_n hx hb dX9_place_38 rfl (lv_at hl 0 rfl) ?_
          refine va_get (D := D) (ci := 9) (v := .int o_4.1) (C := RX9) (T := TX9) (N := 34) hx hb hts inX9w hown hK hP 0 rfl rfl 17 (by decide) hf187 (fun _ h9 => h9) rfl dX9_place_39 ?_
          refine mr_icmp_ge (tgt := 63) hx hb hM dX9_place_42 (by decide) (fun hM => ?_) (fun hM => ?_)
          · exact hK63  hM _ _ hP hD hS ls (lv_sub hl [] rfl)
          · refine lv_aload_n hx hb dX9_place_45 rfl (lv_at hl 0 rfl) ?_
            refine va_get (D := D) (ci := 9) (v := .ref qt_queue) (C := RX9) (T := TX9) (N := 34) hx hb hts inX9w hown hK hP 0 rfl rfl 16 (by decide) hf25 (fun _ h9 => h9) rfl dX9_place_46 ?_
            refine lv_iload_n hx hb dX9_place_49 rfl (lv_at hl 2 rfl) ?_
            refine mr_iald hx hb hK hP 6 0 rfl rfl hM dX9_place_50 (fun v_6 hM => ?_)
            refine lv_iload_n hx hb dX9_place_51 rfl (lv_at hl 1 rfl) ?_
            refine mr_icmp_ne (tgt := 57) hx hb hM dX9_place_52 (by decide) (fun hM => ?_) (fun hM => ?_)
            · refine mr_iinc (k := 2) (d := 1) hx hb (fun x3_7 => [(3, .int x3_7), (0, .ref qt), (1, .int p1)]) hM (by decide) dX9_place_57 hl rfl (by decide) (fun _ => rfl) (fun x3_7 hM ls hl => ?_)
              refine lv_goto (tgt := 37) hx hb dX9_place_60 (by decide) ?_
              exact ih x3_7 hM _ _ hP hD hS ls (lv_sub hl [1, 2, 0] rfl)
            · exact hK55 x3_5 hM _ _ hP hD hS ls (lv_sub hl [2] rfl)
      refine hL37 _ _ (fun x3_8 hM H locs hP hD hS ls hl => ?_) (fun  hM H locs hP hD hS ls hl => ?_) _ 0 hM _ _ hP hD hS ls (lv_sub hl [1, 2, 0] rfl)
      · refine lv_iload_n hx hb dX9_place_55 rfl (lv_at hl 0 rfl) ?_
        have hM := Option.some.inj hM
        subst hM
        exact mr_iret hx hb hr hlocks hQ hP hD hS rfl dX9_place_56
      · refine lv_bipush (v := (-4)) hx hb dX9_place_63 (by decide) ?_
        have hM := Option.some.inj hM
        subst hM
        exact mr_iret hx hb hr hlocks hQ hP hD hS rfl dX9_place_65
    · refine lv_iconst (v := (-1)) hx hb dX9_place_20 (by decide) ?_
      have hM := Option.some.inj hM
      subst hM
      exact mr_iret hx hb hr hlocks hQ hP hD hS rfl dX9_place_21

abbrev rmX9_row : Room := { frames := 5, cells := 0, slots := 0, locals := 121 }
set_option maxHeartbeats 40000000 in
set_option maxRecDepth 100000 in
theorem k_Mod_row (l : Launch) (D : va_G) (cI cB cZ cS cT : ClassId) (qt qt_state qt_readPage qt_tape qt_cuts qt_letters qt_queue qt_busyTo qt_servedIn qt_waysOn qt_costOn qt_aheads qt_seen qt_isKept qt_lanes qt_lengths qt_cells : Nat) (t_hasLaw t_hasCounters t_highest t_taped t_fault t_broken t_brokenAt t_spot t_here t_token t_value t_queued t_payed t_bestWait t_bestWhom t_bestCoins t_seenMany t_torn : Int32) (t_state t_readPage t_tape t_cuts t_letters t_queue t_busyTo t_servedIn t_waysOn t_costOn t_aheads t_seen t_isKept t_lanes t_lengths t_cells : Nat → Int32) (p1 p2 : Int32) (o : Int32 × Int32 × Int32 × (Nat → Int32) × (Nat → Int32) × (Nat → Int32) × (Nat → Int32)) (hM : Mod_row p1 p2 t_queued t_payed t_state t_queue t_busyTo t_servedIn = some o) : mtI l yX9_row wsX9_row rmX9_row D (tys5 cI cB cZ cS cT) [.ref qt, .int p1, .int p2] (w_Mod cI cB cZ cS cT qt qt_state qt_readPage qt_tape qt_cuts qt_letters qt_queue qt_busyTo qt_servedIn qt_waysOn qt_costOn qt_aheads qt_seen qt_isKept qt_lanes qt_lengths qt_cells t_hasLaw t_hasCounters t_highest t_taped t_fault t_broken t_brokenAt t_spot t_here t_token t_value t_queued t_payed t_bestWait t_bestWhom t_bestCoins t_seenMany t_torn t_state t_readPage t_tape t_cuts t_letters t_queue t_busyTo t_servedIn t_waysOn t_costOn t_aheads t_seen t_isKept t_lanes t_lengths t_cells) (w_Mod cI cB cZ cS cT qt qt_state qt_readPage qt_tape qt_cuts qt_letters qt_queue qt_busyTo qt_servedIn qt_waysOn qt_costOn qt_aheads qt_seen qt_isKept qt_lanes qt_lengths qt_cells t_hasLaw t_hasCounters t_highest t_taped t_fault t_broken t_brokenAt t_spot t_here t_token t_value o.2.1 o.2.2.1 t_bestWait t_bestWhom t_bestCoins t_seenMany t_torn o.2.2.2.1 t_readPage t_tape t_cuts t_letters o.2.2.2.2.1 o.2.2.2.2.2.1 o.2.2.2.2.2.2 t_waysOn t_costOn t_aheads t_seen t_isKept t_lanes t_lengths t_cells) o.1 := by
  refine mtI.of (cc := cX9_row) (maxL := 3) (ret := (some .int)) (by decide) rfl (Nat.le_of_ble_eq_true rfl) ?_
  intro p e s m below meth c A Q av hav hQ hx hb hr hml hown hts hlocks hK hP hD hA hS ls hl
  have hown : s.vm.findClass RX9 = some m.cls := hown
  have hl : lv_has ls 3 [(0, .ref qt), (1, .int p1), (2, .int p2)] := hl
  unfold Mod_row at hM
  have inX9w : ∀ w ∈ u_ws RX9 TX9 34, w ∈ wsX9_row := by decide +kernel
  have hfc213 := hts (.constantLong RX9 213 130) (by decide +kernel)
  have hfc215 := hts (.constantLong RX9 215 6) (by decide +kernel)
  have hf187 := hts (.fieldLink RX9 187 "LetsInModel" "queued" "I") (by decide +kernel)
  have hf25 := hts (.fieldLink RX9 25 "LetsInModel" "queue" "[I") (by decide +kernel)
  refine lv_iload_n hx hb dX9_row_0 rfl (lv_at hl 1 rfl) ?_
  refine lv_i2l hx hb dX9_row_1 rfl ?_
  refine lv_lconst (v := 0) hx hb dX9_row_2 (by decide) ?_
  refine lv_ldc2 (v := 130) hx hb hown hfc213 dX9_row_3 ?_
  obtain ⟨o_1, hc, hM⟩ := bind_so hM
  refine mr_callSi (As := [.long p1.toInt64, .long 0, .long 130]) (rest := []) ⟨hx, hb, hml, hown, hts⟩ (k_Mod_in l D cI cB cZ cS cT   p1.toInt64 0 130 _ hc) (cwS 3 hts gX9_row_X9_in rfl rfl rfl (by decide +kernel) ⟨Nat.le_of_ble_eq_true rfl, Nat.le_of_ble_eq_true rfl⟩) hK hP hD hS hA rfl hl.1 rfl (Nat.le_of_ble_eq_true rfl) dX9_row_6 ⟨Nat.zero_le _, Nat.zero_le _⟩ (fun H locs hP hS => ?_)
  refine mr_if_eq (tgt := 24) hx hb hM dX9_row_9 (by decide) (fun hM => ?_) (fun hM => ?_)
  · refine lv_iconst (v := (-1)) hx hb dX9_row_24 (by decide) ?_
    have hM := Option.some.inj hM
    subst hM
    exact mr_iret hx hb hr hlocks hQ hP hD hS rfl dX9_row_25
  · refine lv_iload_n hx hb dX9_row_12 rfl (lv_at hl 2 rfl) ?_
    refine lv_i2l hx hb dX9_row_13 rfl ?_
    refine lv_lconst (v := 0) hx hb dX9_row_14 (by decide) ?_
    refine lv_ldc2 (v := 6) hx hb hown hfc215 dX9_row_15 ?_
    obtain ⟨o_2, hc, hM⟩ := bind_so hM
    refine mr_callSi (As := [.long p2.toInt64, .long 0, .long 6]) (rest := []) ⟨hx, hb, hml, hown, hts⟩ (k_Mod_in l D cI cB cZ cS cT   p2.toInt64 0 6 _ hc) (cwS 3 hts gX9_row_X9_in rfl rfl rfl (by decide +kernel) ⟨Nat.le_of_ble_eq_true rfl, Nat.le_of_ble_eq_true rfl⟩) hK hP hD hS hA rfl hl.1 rfl (Nat.le_of_ble_eq_true rfl) dX9_row_18 ⟨Nat.zero_le _, Nat.zero_le _⟩ (fun H locs hP hS => ?_)
    refine mr_if_ne (tgt := 26) hx hb hM dX9_row_21 (by decide) (fun hM => ?_) (fun hM => ?_)
    · refine lv_aload_n hx hb dX9_row_26 rfl (lv_at hl 0 rfl) ?_
      refine lv_iconst (v := 0) hx hb dX9_row_27 (by decide) ?_
      refine lv_sipush (v := 282) hx hb dX9_row_28 (by decide) ?_
      obtain ⟨o_3, hc, hM⟩ := bind_so hM
      refine mr_callVv (As := [.int 0, .int 282]) (rest := []) (wr := []) ⟨hx, hb, hml, hown, hts⟩ (k_Mod_copies l D cI cB cZ cS cT qt qt_state qt_readPage qt_tape qt_cuts qt_letters qt_queue qt_busyTo qt_servedIn qt_waysOn qt_costOn qt_aheads qt_seen qt_isKept qt_lanes qt_lengths qt_cells t_hasLaw t_hasCounters t_highest t_taped t_fault t_broken t_brokenAt t_spot t_here t_token t_value t_queued t_payed t_bestWait t_bestWhom t_bestCoins t_seenMany t_torn t_state t_readPage t_tape t_cuts t_letters t_queue t_busyTo t_servedIn t_waysOn t_costOn t_aheads t_seen t_isKept t_lanes t_lengths t_cells 0 282 _ hc) (cwV 2 hts gX9_row_X9_copies rfl rfl rfl (by decide +kernel) ⟨Nat.le_of_ble_eq_true rfl, Nat.le_of_ble_eq_true rfl⟩) hK hP hD hS hA [0, 1, 2, 3, 4, 5, 6, 7, 8, 9, 10, 11, 12, 13, 14, 15, 16] [] [0, 1, 2, 3, 4, 5, 6, 7, 8, 9, 10, 11, 12, 13, 14, 15, 16] (w_Mod cI cB cZ cS cT qt qt_state qt_readPage qt_tape qt_cuts qt_letters qt_queue qt_busyTo qt_servedIn qt_waysOn qt_costOn qt_aheads qt_seen qt_isKept qt_lanes qt_lengths qt_cells t_hasLaw t_hasCounters t_highest t_taped t_fault t_broken t_brokenAt t_spot t_here t_token t_value t_queued t_payed t_bestWait t_bestWhom t_bestCoins t_seenMany t_torn o_3 t_readPage t_tape t_cuts t_letters t_queue t_busyTo t_servedIn t_waysOn t_costOn t_aheads t_seen t_isKept t_lanes t_lengths t_cells) rfl rfl rfl rfl (by decide) rfl rfl 9 0 rfl rfl rfl rfl hl.1 rfl (Nat.le_of_ble_eq_true rfl) dX9_row_31 ⟨Nat.zero_le _, Nat.zero_le _⟩ (fun H locs hP hD hS => ?_)
      refine lv_aload_n hx hb dX9_row_34 rfl (lv_at hl 0 rfl) ?_
      refine lv_iload_n hx hb dX9_row_35 rfl (lv_at hl 1 rfl) ?_
      obtain ⟨o_4, hc, hM⟩ := bind_so hM
      refine mr_callVv (As := [.int p1]) (rest := []) (wr := []) ⟨hx, hb, hml, hown, hts⟩ (k_Mod_runsTo l D cI cB cZ cS cT qt qt_state qt_readPage qt_tape qt_cuts qt_letters qt_queue qt_busyTo qt_servedIn qt_waysOn qt_costOn qt_aheads qt_seen qt_isKept qt_lanes qt_lengths qt_cells t_hasLaw t_hasCounters t_highest t_taped t_fault t_broken t_brokenAt t_spot t_here t_token t_value t_queued t_payed t_bestWait t_bestWhom t_bestCoins t_seenMany t_torn o_3 t_readPage t_tape t_cuts t_letters t_queue t_busyTo t_servedIn t_waysOn t_costOn t_aheads t_seen t_isKept t_lanes t_lengths t_cells p1 _ hc) (cwV 1 hts gX9_row_X9_runsTo rfl rfl rfl (by decide +kernel) ⟨Nat.le_of_ble_eq_true rfl, Nat.le_of_ble_eq_true rfl⟩) hK hP hD hS hA [0, 1, 2, 3, 4, 5, 6, 7, 8, 9, 10, 11, 12, 13, 14, 15, 16] [] [0, 1, 2, 3, 4, 5, 6, 7, 8, 9, 10, 11, 12, 13, 14, 15, 16] (w_Mod cI cB cZ cS cT qt qt_state qt_readPage qt_tape qt_cuts qt_letters qt_queue qt_busyTo qt_servedIn qt_waysOn qt_costOn qt_aheads qt_seen qt_isKept qt_lanes qt_lengths qt_cells t_hasLaw t_hasCounters t_highest t_taped t_fault t_broken t_brokenAt t_spot t_here t_token t_value o_4.1 o_4.2.1 t_bestWait t_bestWhom t_bestCoins t_seenMany t_torn o_4.2.2.1 t_readPage t_tape t_cuts t_letters o_4.2.2.2.1 o_4.2.2.2.2.1 o_4.2.2.2.2.2 t_waysOn t_costOn t_aheads t_seen t_isKept t_lanes t_lengths t_cells) rfl rfl rfl rfl (by decide) rfl rfl 9 0 rfl rfl rfl rfl hl.1 rfl (Nat.le_of_ble_eq_true rfl) dX9_row_36 ⟨Nat.zero_le _, Nat.zero_le _⟩ (fun H locs hP hD hS => ?_)
      refine lv_iload_n hx hb dX9_row_39 rfl (lv_at hl 2 rfl) ?_
      refine lv_aload_n hx hb dX9_row_40 rfl (lv_at hl 0 rfl) ?_
      refine va_get (D := D) (ci := 9) (v := .int o_4.1) (C := RX9) (T := TX9) (N := 34) hx hb hts inX9w hown hK hP 0 rfl rfl 17 (by decide) hf187 (fun _ h9 => h9) rfl dX9_row_41 ?_
      refine mr_icmp_ge (tgt := 56) hx hb hM dX9_row_44 (by decide) (fun hM => ?_) (fun hM => ?_)
      · refine lv_bipush (v := (-4)) hx hb dX9_row_56 (by decide) ?_
        have hM := Option.some.inj hM
        subst hM
        exact mr_iret hx hb hr hlocks hQ hP hD hS rfl dX9_row_58
      · refine lv_aload_n hx hb dX9_row_47 rfl (lv_at hl 0 rfl) ?_
        refine va_get (D := D) (ci := 9) (v := .ref qt_queue) (C := RX9) (T := TX9) (N := 34) hx hb hts inX9w hown hK hP 0 rfl rfl 16 (by decide) hf25 (fun _ h9 => h9) rfl dX9_row_48 ?_
        refine lv_iload_n hx hb dX9_row_51 rfl (lv_at hl 2 rfl) ?_
        refine mr_iald hx hb hK hP 6 0 rfl rfl hM dX9_row_52 (fun v_5 hM => ?_)
        refine lv_goto (tgt := 58) hx hb dX9_row_53 (by decide) ?_
        have hM := Option.some.inj hM
        subst hM
        exact mr_iret hx hb hr hlocks hQ hP hD hS rfl dX9_row_58
    · refine lv_iconst (v := (-1)) hx hb dX9_row_24 (by decide) ?_
      have hM := Option.some.inj hM
      subst hM
      exact mr_iret hx hb hr hlocks hQ hP hD hS rfl dX9_row_25

abbrev rmX9_allOf : Room := { frames := 1, cells := 0, slots := 0, locals := 21 }
set_option maxHeartbeats 40000000 in
set_option maxRecDepth 100000 in
theorem k_Mod_allOf (l : Launch) (D : va_G) (cI cB cZ cS cT : ClassId) (qt qt_state qt_readPage qt_tape qt_cuts qt_letters qt_queue qt_busyTo qt_servedIn qt_waysOn qt_costOn qt_aheads qt_seen qt_isKept qt_lanes qt_lengths qt_cells : Nat) (t_hasLaw t_hasCounters t_highest t_taped t_fault t_broken t_brokenAt t_spot t_here t_token t_value t_queued t_payed t_bestWait t_bestWhom t_bestCoins t_seenMany t_torn : Int32) (t_state t_readPage t_tape t_cuts t_letters t_queue t_busyTo t_servedIn t_waysOn t_costOn t_aheads t_seen t_isKept t_lanes t_lengths t_cells : Nat → Int32) (p1 : Int32) (o : Int32) (hM : Mod_allOf p1 t_payed t_state t_servedIn = some o) : mtI l yX9_allOf wsX9_allOf rmX9_allOf D (tys5 cI cB cZ cS cT) [.ref qt, .int p1] (w_Mod cI cB cZ cS cT qt qt_state qt_readPage qt_tape qt_cuts qt_letters qt_queue qt_busyTo qt_servedIn qt_waysOn qt_costOn qt_aheads qt_seen qt_isKept qt_lanes qt_lengths qt_cells t_hasLaw t_hasCounters t_highest t_taped t_fault t_broken t_brokenAt t_spot t_here t_token t_value t_queued t_payed t_bestWait t_bestWhom t_bestCoins t_seenMany t_torn t_state t_readPage t_tape t_cuts t_letters t_queue t_busyTo t_servedIn t_waysOn t_costOn t_aheads t_seen t_isKept t_lanes t_lengths t_cells) (w_Mod cI cB cZ cS cT qt qt_state qt_readPage qt_tape qt_cuts qt_letters qt_queue qt_busyTo qt_servedIn qt_waysOn qt_costOn qt_aheads qt_seen qt_isKept qt_lanes qt_lengths qt_cells t_hasLaw t_hasCounters t_highest t_taped t_fault t_broken t_brokenAt t_spot t_here t_token t_value t_queued t_payed t_bestWait t_bestWhom t_bestCoins t_seenMany t_torn t_state t_readPage t_tape t_cuts t_letters t_queue t_busyTo t_servedIn t_waysOn t_costOn t_aheads t_seen t_isKept t_lanes t_lengths t_cells) o := by
  refine mtI.of (cc := cX9_allOf) (maxL := 6) (ret := (some .int)) (by decide) rfl (Nat.le_of_ble_eq_true rfl) ?_
  intro p e s m below meth c A Q av hav hQ hx hb hr hml hown hts hlocks hK hP hD hA hS ls hl
  have hown : s.vm.findClass RX9 = some m.cls := hown
  have hl : lv_has ls 6 [(0, .ref qt), (1, .int p1)] := hl
  unfold Mod_allOf at hM
  have inX9w : ∀ w ∈ u_ws RX9 TX9 34, w ∈ wsX9_allOf := by decide +kernel
  have hf31 := hts (.fieldLink RX9 31 "LetsInModel" "servedIn" "[I") (by decide +kernel)
  have hf7 := hts (.fieldLink RX9 7 "LetsInModel" "state" "[I") (by decide +kernel)
  have hf190 := hts (.fieldLink RX9 190 "LetsInModel" "payed" "I") (by decide +kernel)
  refine lv_iconst (v := 0) hx hb dX9_allOf_0 (by decide) ?_
  refine lv_istore_n (lv' := [(2, .int 0), (0, .ref qt), (1, .int p1)]) hx hb dX9_allOf_1 rfl hl (by decide) rfl (fun ls hl => ?_)
  refine lv_iconst (v := 0) hx hb dX9_allOf_2 (by decide) ?_
  refine lv_istore_n (lv' := [(3, .int 0), (2, .int 0), (0, .ref qt), (1, .int p1)]) hx hb dX9_allOf_3 rfl hl (by decide) rfl (fun ls hl => ?_)
  refine lv_iconst (v := 0) hx hb dX9_allOf_4 (by decide) ?_
  refine lv_istore (lv' := [(4, .int 0), (3, .int 0), (2, .int 0), (0, .ref qt), (1, .int p1)]) hx hb dX9_allOf_5 hl (by decide) rfl (fun ls hl => ?_)
  have hL7 : ∀ (K100 : Int32 → Int32 → Option (Int32)), (∀ (x2_17 x3_18 : Int32), K100 x2_17 x3_18 = some o → ∀ (H : Heap) (locs : List Loc), va_P D vwCl (w_Mod cI cB cZ cS cT qt qt_state qt_readPage qt_tape qt_cuts qt_letters qt_queue qt_busyTo qt_servedIn qt_waysOn qt_costOn qt_aheads qt_seen qt_isKept qt_lanes qt_lengths qt_cells t_hasLaw t_hasCounters t_highest t_taped t_fault t_broken t_brokenAt t_spot t_here t_token t_value t_queued t_payed t_bestWait t_bestWhom t_bestCoins t_seenMany t_torn t_state t_readPage t_tape t_cuts t_letters t_queue t_busyTo t_servedIn t_waysOn t_costOn t_aheads t_seen t_isKept t_lanes t_lengths t_cells) H → va_D A (w_Mod cI cB cZ cS cT qt qt_state qt_readPage qt_tape qt_cuts qt_letters qt_queue qt_busyTo qt_servedIn qt_waysOn qt_costOn qt_aheads qt_seen qt_isKept qt_lanes qt_lengths qt_cells t_hasLaw t_hasCounters t_highest t_taped t_fault t_broken t_brokenAt t_spot t_here t_token t_value t_queued t_payed t_bestWait t_bestWhom t_bestCoins t_seenMany t_torn t_state t_readPage t_tape t_cuts t_letters t_queue t_busyTo t_servedIn t_waysOn t_costOn t_aheads t_seen t_isKept t_lanes t_lengths t_cells) → va_S A s.heap H locs → ∀ ls : Array Slot, lv_has ls 6 [(0, .ref qt), (1, .int p1), (2, .int x2_17), (3, .int x3_18)] → W p l e rmX9_allOf s m av below meth c H locs 0 0 Q (F0 m 100 ls [])) → ∀ (n : Nat) (x2_1 x3_2 x4_3 : Int32), Mod_allOf_L7 t_state t_servedIn p1 K100 n x2_1 x3_2 x4_3 = some o → ∀ (H : Heap) (locs : List Loc), va_P D vwCl (w_Mod cI cB cZ cS cT qt qt_state qt_readPage qt_tape qt_cuts qt_letters qt_queue qt_busyTo qt_servedIn qt_waysOn qt_costOn qt_aheads qt_seen qt_isKept qt_lanes qt_lengths qt_cells t_hasLaw t_hasCounters t_highest t_taped t_fault t_broken t_brokenAt t_spot t_here t_token t_value t_queued t_payed t_bestWait t_bestWhom t_bestCoins t_seenMany t_torn t_state t_readPage t_tape t_cuts t_letters t_queue t_busyTo t_servedIn t_waysOn t_costOn t_aheads t_seen t_isKept t_lanes t_lengths t_cells) H → va_D A (w_Mod cI cB cZ cS cT qt qt_state qt_readPage qt_tape qt_cuts qt_letters qt_queue qt_busyTo qt_servedIn qt_waysOn qt_costOn qt_aheads qt_seen qt_isKept qt_lanes qt_lengths qt_cells t_hasLaw t_hasCounters t_highest t_taped t_fault t_broken t_brokenAt t_spot t_here t_token t_value t_queued t_payed t_bestWait t_bestWhom t_bestCoins t_seenMany t_torn t_state t_readPage t_tape t_cuts t_letters t_queue t_busyTo t_servedIn t_waysOn t_costOn t_aheads t_seen t_isKept t_lanes t_lengths t_cells) → va_S A s.heap H locs → ∀ ls : Array Slot, lv_has ls 6 [(0, .ref qt), (1, .int p1), (2, .int x2_1), (3, .int x3_2), (4, .int x4_3)] → W p l e rmX9_allOf s m av below meth c H locs 0 0 Q (F0 m 7 ls []) := by
    intro K100 hK100 n
    induction n with
    | zero =>
      intro x2_1 x3_2 x4_3 hM
      rw [Mod_allOf_L7] at hM
      cases hM
    | succ n ih =>
      intro x2_1 x3_2 x4_3 hM H locs hP hD hS ls hl
      rw [Mod_allOf_L7] at hM
      refine lv_iload hx hb dX9_allOf_7 (lv_at hl 4 rfl) ?_
      refine lv_aload_n hx hb dX9_allOf_9 rfl (lv_at hl 0 rfl) ?_
      obtain ⟨o_4, hc, hM⟩ := bind_so hM
      refine mr_callVi (As := []) (rest := [.int x4_3]) (wr := []) ⟨hx, hb, hml, hown, hts⟩ (k_Mod_many l D cI cB cZ cS cT qt qt_state qt_readPage qt_tape qt_cuts qt_letters qt_queue qt_busyTo qt_servedIn qt_waysOn qt_costOn qt_aheads qt_seen qt_isKept qt_lanes qt_lengths qt_cells t_hasLaw t_hasCounters t_highest t_taped t_fault t_broken t_brokenAt t_spot t_here t_token t_value t_queued t_payed t_bestWait t_bestWhom t_bestCoins t_seenMany t_torn t_state t_readPage t_tape t_cuts t_letters t_queue t_busyTo t_servedIn t_waysOn t_costOn t_aheads t_seen t_isKept t_lanes t_lengths t_cells  _ hc) (cwV 0 hts gX9_allOf_X9_many rfl rfl rfl (by decide +kernel) ⟨Nat.le_of_ble_eq_true rfl, Nat.le_of_ble_eq_true rfl⟩) hK hP hD hS hA [0, 1, 2, 3, 4, 5, 6, 7, 8, 9, 10, 11, 12, 13, 14, 15, 16] [] [0, 1, 2, 3, 4, 5, 6, 7, 8, 9, 10, 11, 12, 13, 14, 15, 16] (w_Mod cI cB cZ cS cT qt qt_state qt_readPage qt_tape qt_cuts qt_letters qt_queue qt_busyTo qt_servedIn qt_waysOn qt_costOn qt_aheads qt_seen qt_isKept qt_lanes qt_lengths qt_cells t_hasLaw t_hasCounters t_highest t_taped t_fault t_broken t_brokenAt t_spot t_here t_token t_value t_queued t_payed t_bestWait t_bestWhom t_bestCoins t_seenMany t_torn t_state t_readPage t_tape t_cuts t_letters t_queue t_busyTo t_servedIn t_waysOn t_costOn t_aheads t_seen t_isKept t_lanes t_lengths t_cells) rfl rfl rfl rfl (by decide) rfl rfl 9 0 rfl rfl rfl rfl hl.1 rfl (Nat.le_of_ble_eq_true rfl) dX9_allOf_10 ⟨Nat.zero_le _, Nat.zero_le _⟩ (fun H locs hP hD hS => ?_)
      refine mr_icmp_ge (tgt := 100) hx hb hM dX9_allOf_13 (by decide) (fun hM => ?_) (fun hM => ?_)
      · exact hK100 x2_1 x3_2 hM _ _ hP hD hS ls (lv_sub hl [0, 1, 2, 3] rfl)
      · refine lv_iload_n hx hb dX9_allOf_16 rfl (lv_at hl 2 rfl) ?_
        refine lv_iload_n hx hb dX9_allOf_17 rfl (lv_at hl 1 rfl) ?_
        refine mr_jn hM (fun j53_5 => ∀ (y_6 y_7 : Int32), j53_5 y_6 y_7 = some o → ∀ (H : Heap) (locs : List Loc), va_P D vwCl (w_Mod cI cB cZ cS cT qt qt_state qt_readPage qt_tape qt_cuts qt_letters qt_queue qt_busyTo qt_servedIn qt_waysOn qt_costOn qt_aheads qt_seen qt_isKept qt_lanes qt_lengths qt_cells t_hasLaw t_hasCounters t_highest t_taped t_fault t_broken t_brokenAt t_spot t_here t_token t_value t_queued t_payed t_bestWait t_bestWhom t_bestCoins t_seenMany t_torn t_state t_readPage t_tape t_cuts t_letters t_queue t_busyTo t_servedIn t_waysOn t_costOn t_aheads t_seen t_isKept t_lanes t_lengths t_cells) H → va_D A (w_Mod cI cB cZ cS cT qt qt_state qt_readPage qt_tape qt_cuts qt_letters qt_queue qt_busyTo qt_servedIn qt_waysOn qt_costOn qt_aheads qt_seen qt_isKept qt_lanes qt_lengths qt_cells t_hasLaw t_hasCounters t_highest t_taped t_fault t_broken t_brokenAt t_spot t_here t_token t_value t_queued t_payed t_bestWait t_bestWhom t_bestCoins t_seenMany t_torn t_state t_readPage t_tape t_cuts t_letters t_queue t_busyTo t_servedIn t_waysOn t_costOn t_aheads t_seen t_isKept t_lanes t_lengths t_cells) → va_S A s.heap H locs → ∀ ls : Array Slot, lv_has ls 6 [(0, .ref qt), (1, .int p1), (3, .int x3_2), (4, .int x4_3)] → W p l e rmX9_allOf s m av below meth c H locs 0 0 Q (F0 m 53 ls [.int y_7, .int y_6])) (fun y_6 y_7 hM H locs hP hD hS ls hl => ?_) (fun j53_5 hj53_5 hM => ?_)
        · refine lv_iadd hx hb dX9_allOf_53 ?_
          refine mr_nmI hM (fun x2_8 hM => ?_)
          refine lv_istore_n (lv' := [(2, .int x2_8), (0, .ref qt), (1, .int p1), (3, .int x3_2), (4, .int x4_3)]) hx hb dX9_allOf_54 rfl hl (by decide) rfl (fun ls hl => ?_)
          refine lv_aload_n hx hb dX9_allOf_55 rfl (lv_at hl 1 rfl) ?_
          refine va_get (D := D) (ci := 9) (v := .ref qt_servedIn) (C := RX9) (T := TX9) (N := 34) hx hb hts inX9w hown hK hP 0 rfl rfl 19 (by decide) hf31 (fun _ h9 => h9) rfl dX9_allOf_56 ?_
          refine lv_iload hx hb dX9_allOf_59 (lv_at hl 4 rfl) ?_
          refine mr_iald hx hb hK hP 8 0 rfl rfl hM dX9_allOf_61 (fun v_9 hM => ?_)
          refine lv_aload_n hx hb dX9_allOf_62 rfl (lv_at hl 1 rfl) ?_
          refine va_get (D := D) (ci := 9) (v := .ref qt_state) (C := RX9) (T := TX9) (N := 34) hx hb hts inX9w hown hK hP 0 rfl rfl 0 (by decide) hf7 (fun _ h9 => h9) rfl dX9_allOf_63 ?_
          refine lv_sipush (v := 282) hx hb dX9_allOf_66 (by decide) ?_
          refine lv_bipush (v := 6) hx hb dX9_allOf_69 (by decide) ?_
          refine lv_iload hx hb dX9_allOf_71 (lv_at hl 4 rfl) ?_
          refine lv_imul hx hb dX9_allOf_73 ?_
          refine lv_iadd hx hb dX9_allOf_74 ?_
          refine lv_iconst (v := 2) hx hb dX9_allOf_75 (by decide) ?_
          refine lv_iadd hx hb dX9_allOf_76 ?_
          refine mr_iald hx hb hK hP 1 0 rfl rfl hM dX9_allOf_77 (fun v_10 hM => ?_)
          refine lv_iadd hx hb dX9_allOf_78 ?_
          refine mr_nmI hM (fun x5_11 hM => ?_)
          refine lv_istore (lv' := [(5, .int x5_11), (2, .int x2_8), (0, .ref qt), (1, .int p1), (3, .int x3_2), (4, .int x4_3)]) hx hb dX9_allOf_79 hl (by decide) rfl (fun ls hl => ?_)
          refine lv_iload hx hb dX9_allOf_81 (lv_at hl 0 rfl) ?_
          refine lv_iload_n hx hb dX9_allOf_83 rfl (lv_at hl 4 rfl) ?_
          refine mr_icmp_le (tgt := 92) hx hb hM dX9_allOf_84 (by decide) (fun hM => ?_) (fun hM => ?_)
          · refine lv_iload_n hx hb dX9_allOf_92 rfl (lv_at hl 4 rfl) ?_
            refine lv_istore_n (lv' := [(3, .int x3_2), (5, .int x5_11), (2, .int x2_8), (0, .ref qt), (1, .int p1), (4, .int x4_3)]) hx hb dX9_allOf_93 rfl hl (by decide) rfl (fun ls hl => ?_)
            refine mr_iinc (k := 5) (d := 1) hx hb (fun x4_12 => [(4, .int x4_12), (3, .int x3_2), (5, .int x5_11), (2, .int x2_8), (0, .ref qt), (1, .int p1)]) hM (by decide) dX9_allOf_94 hl rfl (by decide) (fun _ => rfl) (fun x4_12 hM ls hl => ?_)
            refine lv_goto (tgt := 7) hx hb dX9_allOf_97 (by decide) ?_
            exact ih x2_8 x3_2 x4_12 hM _ _ hP hD hS ls (lv_sub hl [4, 5, 3, 1, 0] rfl)
          · refine lv_iload hx hb dX9_allOf_87 (lv_at hl 0 rfl) ?_
            refine lv_goto (tgt := 93) hx hb dX9_allOf_89 (by decide) ?_
            refine lv_istore_n (lv' := [(3, .int x5_11), (5, .int x5_11), (2, .int x2_8), (0, .ref qt), (1, .int p1), (4, .int x4_3)]) hx hb dX9_allOf_93 rfl hl (by decide) rfl (fun ls hl => ?_)
            refine mr_iinc (k := 5) (d := 1) hx hb (fun x4_13 => [(4, .int x4_13), (3, .int x5_11), (5, .int x5_11), (2, .int x2_8), (0, .ref qt), (1, .int p1)]) hM (by decide) dX9_allOf_94 hl rfl (by decide) (fun _ => rfl) (fun x4_13 hM ls hl => ?_)
            refine lv_goto (tgt := 7) hx hb dX9_allOf_97 (by decide) ?_
            exact ih x2_8 x5_11 x4_13 hM _ _ hP hD hS ls (lv_sub hl [4, 5, 3, 1, 0] rfl)
        · refine mr_if_ne (tgt := 30) hx hb hM dX9_allOf_18 (by decide) (fun hM => ?_) (fun hM => ?_)
          · refine lv_aload_n hx hb dX9_allOf_30 rfl (lv_at hl 0 rfl) ?_
            refine va_get (D := D) (ci := 9) (v := .ref qt_state) (C := RX9) (T := TX9) (N := 34) hx hb hts inX9w hown hK hP 0 rfl rfl 0 (by decide) hf7 (fun _ h9 => h9) rfl dX9_allOf_31 ?_
            refine lv_sipush (v := 282) hx hb dX9_allOf_34 (by decide) ?_
            refine lv_bipush (v := 6) hx hb dX9_allOf_37 (by decide) ?_
            refine lv_iload hx hb dX9_allOf_39 (lv_at hl 4 rfl) ?_
            refine lv_imul hx hb dX9_allOf_41 ?_
            refine lv_iadd hx hb dX9_allOf_42 ?_
            refine lv_iconst (v := 3) hx hb dX9_allOf_43 (by decide) ?_
            refine lv_iadd hx hb dX9_allOf_44 ?_
            refine mr_iald hx hb hK hP 1 0 rfl rfl hM dX9_allOf_45 (fun v_14 hM => ?_)
            refine lv_aload_n hx hb dX9_allOf_46 rfl (lv_at hl 0 rfl) ?_
            refine lv_iload hx hb dX9_allOf_47 (lv_at hl 4 rfl) ?_
            obtain ⟨o_15, hc, hM⟩ := bind_so hM
            refine mr_callVi (As := [.int x4_3]) (rest := [.int v_14, .int x2_1]) (wr := []) ⟨hx, hb, hml, hown, hts⟩ (k_Mod_waitOf l D cI cB cZ cS cT qt qt_state qt_readPage qt_tape qt_cuts qt_letters qt_queue qt_busyTo qt_servedIn qt_waysOn qt_costOn qt_aheads qt_seen qt_isKept qt_lanes qt_lengths qt_cells t_hasLaw t_hasCounters t_highest t_taped t_fault t_broken t_brokenAt t_spot t_here t_token t_value t_queued t_payed t_bestWait t_bestWhom t_bestCoins t_seenMany t_torn t_state t_readPage t_tape t_cuts t_letters t_queue t_busyTo t_servedIn t_waysOn t_costOn t_aheads t_seen t_isKept t_lanes t_lengths t_cells x4_3 _ hc) (cwV 1 hts gX9_allOf_X9_waitOf rfl rfl rfl (by decide +kernel) ⟨Nat.le_of_ble_eq_true rfl, Nat.le_of_ble_eq_true rfl⟩) hK hP hD hS hA [0, 1, 2, 3, 4, 5, 6, 7, 8, 9, 10, 11, 12, 13, 14, 15, 16] [] [0, 1, 2, 3, 4, 5, 6, 7, 8, 9, 10, 11, 12, 13, 14, 15, 16] (w_Mod cI cB cZ cS cT qt qt_state qt_readPage qt_tape qt_cuts qt_letters qt_queue qt_busyTo qt_servedIn qt_waysOn qt_costOn qt_aheads qt_seen qt_isKept qt_lanes qt_lengths qt_cells t_hasLaw t_hasCounters t_highest t_taped t_fault t_broken t_brokenAt t_spot t_here t_token t_value t_queued t_payed t_bestWait t_bestWhom t_bestCoins t_seenMany t_torn t_state t_readPage t_tape t_cuts t_letters t_queue t_busyTo t_servedIn t_waysOn t_costOn t_aheads t_seen t_isKept t_lanes t_lengths t_cells) rfl rfl rfl rfl (by decide) rfl rfl 9 0 rfl rfl rfl rfl hl.1 rfl (Nat.le_of_ble_eq_true rfl) dX9_allOf_49 ⟨Nat.zero_le _, Nat.zero_le _⟩ (fun H locs hP hD hS => ?_)
            refine lv_imul hx hb dX9_allOf_52 ?_
            exact hj53_5 x2_1 (v_14 * o_15) hM _ _ hP hD hS ls (lv_sub hl [0, 1, 3, 4] rfl)
          · refine lv_aload_n hx hb dX9_allOf_21 rfl (lv_at hl 0 rfl) ?_
            refine lv_iload hx hb dX9_allOf_22 (lv_at hl 4 rfl) ?_
            obtain ⟨o_16, hc, hM⟩ := bind_so hM
            refine mr_callVi (As := [.int x4_3]) (rest := [.int x2_1]) (wr := []) ⟨hx, hb, hml, hown, hts⟩ (k_Mod_waitOf l D cI cB cZ cS cT qt qt_state qt_readPage qt_tape qt_cuts qt_letters qt_queue qt_busyTo qt_servedIn qt_waysOn qt_costOn qt_aheads qt_seen qt_isKept qt_lanes qt_lengths qt_cells t_hasLaw t_hasCounters t_highest t_taped t_fault t_broken t_brokenAt t_spot t_here t_token t_value t_queued t_payed t_bestWait t_bestWhom t_bestCoins t_seenMany t_torn t_state t_readPage t_tape t_cuts t_letters t_queue t_busyTo t_servedIn t_waysOn t_costOn t_aheads t_seen t_isKept t_lanes t_lengths t_cells x4_3 _ hc) (cwV 1 hts gX9_allOf_X9_waitOf rfl rfl rfl (by decide +kernel) ⟨Nat.le_of_ble_eq_true rfl, Nat.le_of_ble_eq_true rfl⟩) hK hP hD hS hA [0, 1, 2, 3, 4, 5, 6, 7, 8, 9, 10, 11, 12, 13, 14, 15, 16] [] [0, 1, 2, 3, 4, 5, 6, 7, 8, 9, 10, 11, 12, 13, 14, 15, 16] (w_Mod cI cB cZ cS cT qt qt_state qt_readPage qt_tape qt_cuts qt_letters qt_queue qt_busyTo qt_servedIn qt_waysOn qt_costOn qt_aheads qt_seen qt_isKept qt_lanes qt_lengths qt_cells t_hasLaw t_hasCounters t_highest t_taped t_fault t_broken t_brokenAt t_spot t_here t_token t_value t_queued t_payed t_bestWait t_bestWhom t_bestCoins t_seenMany t_torn t_state t_readPage t_tape t_cuts t_letters t_queue t_busyTo t_servedIn t_waysOn t_costOn t_aheads t_seen t_isKept t_lanes t_lengths t_cells) rfl rfl rfl rfl (by decide) rfl rfl 9 0 rfl rfl rfl rfl hl.1 rfl (Nat.le_of_ble_eq_true rfl) dX9_allOf_24 ⟨Nat.zero_le _, Nat.zero_le _⟩ (fun H locs hP hD hS => ?_)
            refine lv_goto (tgt := 53) hx hb dX9_allOf_27 (by decide) ?_
            exact hj53_5 x2_1 o_16 hM _ _ hP hD hS ls (lv_sub hl [0, 1, 3, 4] rfl)
  refine hL7 _ (fun x2_17 x3_18 hM H locs hP hD hS ls hl => ?_) _ 0 0 0 hM _ _ hP hD hS ls (lv_sub hl [3, 4, 2, 1, 0] rfl)
  refine lv_iload_n hx hb dX9_allOf_100 rfl (lv_at hl 1 rfl) ?_
  refine lv_iconst (v := 3) hx hb dX9_allOf_101 (by decide) ?_
  refine mr_icmp_ne (tgt := 112) hx hb hM dX9_allOf_102 (by decide) (fun hM => ?_) (fun hM => ?_)
  · refine lv_iload_n hx hb dX9_allOf_112 rfl (lv_at hl 1 rfl) ?_
    refine lv_iconst (v := 2) hx hb dX9_allOf_113 (by decide) ?_
    refine mr_icmp_ne (tgt := 121) hx hb hM dX9_allOf_114 (by decide) (fun hM => ?_) (fun hM => ?_)
    · refine lv_iload_n hx hb dX9_allOf_121 rfl (lv_at hl 2 rfl) ?_
      have hM := Option.some.inj hM
      subst hM
      exact mr_iret hx hb hr hlocks hQ hP hD hS rfl dX9_allOf_122
    · refine lv_iload_n hx hb dX9_allOf_117 rfl (lv_at hl 3 rfl) ?_
      refine lv_goto (tgt := 122) hx hb dX9_allOf_118 (by decide) ?_
      have hM := Option.some.inj hM
      subst hM
      exact mr_iret hx hb hr hlocks hQ hP hD hS rfl dX9_allOf_122
  · refine lv_aload_n hx hb dX9_allOf_105 rfl (lv_at hl 0 rfl) ?_
    refine va_get (D := D) (ci := 9) (v := .int t_payed) (C := RX9) (T := TX9) (N := 34) hx hb hts inX9w hown hK hP 0 rfl rfl 20 (by decide) hf190 (fun _ h9 => h9) rfl dX9_allOf_106 ?_
    refine lv_goto (tgt := 122) hx hb dX9_allOf_109 (by decide) ?_
    have hM := Option.some.inj hM
    subst hM
    exact mr_iret hx hb hr hlocks hQ hP hD hS rfl dX9_allOf_122

abbrev rmX9_all : Room := { frames := 6, cells := 0, slots := 0, locals := 141 }
set_option maxHeartbeats 40000000 in
set_option maxRecDepth 100000 in
theorem k_Mod_all (l : Launch) (D : va_G) (cI cB cZ cS cT : ClassId) (qt qt_state qt_readPage qt_tape qt_cuts qt_letters qt_queue qt_busyTo qt_servedIn qt_waysOn qt_costOn qt_aheads qt_seen qt_isKept qt_lanes qt_lengths qt_cells : Nat) (t_hasLaw t_hasCounters t_highest t_taped t_fault t_broken t_brokenAt t_spot t_here t_token t_value t_queued t_payed t_bestWait t_bestWhom t_bestCoins t_seenMany t_torn : Int32) (t_state t_readPage t_tape t_cuts t_letters t_queue t_busyTo t_servedIn t_waysOn t_costOn t_aheads t_seen t_isKept t_lanes t_lengths t_cells : Nat → Int32) (p1 : Int32) (o : Int32 × Int32 × Int32 × (Nat → Int32) × (Nat → Int32) × (Nat → Int32) × (Nat → Int32)) (hM : Mod_all p1 t_queued t_payed t_state t_queue t_busyTo t_servedIn = some o) : mtI l yX9_all wsX9_all rmX9_all D (tys5 cI cB cZ cS cT) [.ref qt, .int p1] (w_Mod cI cB cZ cS cT qt qt_state qt_readPage qt_tape qt_cuts qt_letters qt_queue qt_busyTo qt_servedIn qt_waysOn qt_costOn qt_aheads qt_seen qt_isKept qt_lanes qt_lengths qt_cells t_hasLaw t_hasCounters t_highest t_taped t_fault t_broken t_brokenAt t_spot t_here t_token t_value t_queued t_payed t_bestWait t_bestWhom t_bestCoins t_seenMany t_torn t_state t_readPage t_tape t_cuts t_letters t_queue t_busyTo t_servedIn t_waysOn t_costOn t_aheads t_seen t_isKept t_lanes t_lengths t_cells) (w_Mod cI cB cZ cS cT qt qt_state qt_readPage qt_tape qt_cuts qt_letters qt_queue qt_busyTo qt_servedIn qt_waysOn qt_costOn qt_aheads qt_seen qt_isKept qt_lanes qt_lengths qt_cells t_hasLaw t_hasCounters t_highest t_taped t_fault t_broken t_brokenAt t_spot t_here t_token t_value o.2.1 o.2.2.1 t_bestWait t_bestWhom t_bestCoins t_seenMany t_torn o.2.2.2.1 t_readPage t_tape t_cuts t_letters o.2.2.2.2.1 o.2.2.2.2.2.1 o.2.2.2.2.2.2 t_waysOn t_costOn t_aheads t_seen t_isKept t_lanes t_lengths t_cells) o.1 := by
  refine mtI.of (cc := cX9_all) (maxL := 2) (ret := (some .int)) (by decide) rfl (Nat.le_of_ble_eq_true rfl) ?_
  intro p e s m below meth c A Q av hav hQ hx hb hr hml hown hts hlocks hK hP hD hA hS ls hl
  have hown : s.vm.findClass RX9 = some m.cls := hown
  have hl : lv_has ls 2 [(0, .ref qt), (1, .int p1)] := hl
  unfold Mod_all at hM
  have hfc121 := hts (.constantLong RX9 121 3) (by decide +kernel)
  refine lv_iload_n hx hb dX9_all_0 rfl (lv_at hl 1 rfl) ?_
  refine lv_i2l hx hb dX9_all_1 rfl ?_
  refine lv_lconst (v := 0) hx hb dX9_all_2 (by decide) ?_
  refine lv_ldc2 (v := 3) hx hb hown hfc121 dX9_all_3 ?_
  obtain ⟨o_1, hc, hM⟩ := bind_so hM
  refine mr_callSi (As := [.long p1.toInt64, .long 0, .long 3]) (rest := []) ⟨hx, hb, hml, hown, hts⟩ (k_Mod_in l D cI cB cZ cS cT   p1.toInt64 0 3 _ hc) (cwS 3 hts gX9_all_X9_in rfl rfl rfl (by decide +kernel) ⟨Nat.le_of_ble_eq_true rfl, Nat.le_of_ble_eq_true rfl⟩) hK hP hD hS hA rfl hl.1 rfl (Nat.le_of_ble_eq_true rfl) dX9_all_6 ⟨Nat.zero_le _, Nat.zero_le _⟩ (fun H locs hP hS => ?_)
  refine mr_if_ne (tgt := 14) hx hb hM dX9_all_9 (by decide) (fun hM => ?_) (fun hM => ?_)
  · refine lv_aload_n hx hb dX9_all_14 rfl (lv_at hl 0 rfl) ?_
    obtain ⟨o_2, hc, hM⟩ := bind_so hM
    refine mr_callVv (As := []) (rest := []) (wr := []) ⟨hx, hb, hml, hown, hts⟩ (k_Mod_runsAll l D cI cB cZ cS cT qt qt_state qt_readPage qt_tape qt_cuts qt_letters qt_queue qt_busyTo qt_servedIn qt_waysOn qt_costOn qt_aheads qt_seen qt_isKept qt_lanes qt_lengths qt_cells t_hasLaw t_hasCounters t_highest t_taped t_fault t_broken t_brokenAt t_spot t_here t_token t_value t_queued t_payed t_bestWait t_bestWhom t_bestCoins t_seenMany t_torn t_state t_readPage t_tape t_cuts t_letters t_queue t_busyTo t_servedIn t_waysOn t_costOn t_aheads t_seen t_isKept t_lanes t_lengths t_cells  _ hc) (cwV 0 hts gX9_all_X9_runsAll rfl rfl rfl (by decide +kernel) ⟨Nat.le_of_ble_eq_true rfl, Nat.le_of_ble_eq_true rfl⟩) hK hP hD hS hA [0, 1, 2, 3, 4, 5, 6, 7, 8, 9, 10, 11, 12, 13, 14, 15, 16] [] [0, 1, 2, 3, 4, 5, 6, 7, 8, 9, 10, 11, 12, 13, 14, 15, 16] (w_Mod cI cB cZ cS cT qt qt_state qt_readPage qt_tape qt_cuts qt_letters qt_queue qt_busyTo qt_servedIn qt_waysOn qt_costOn qt_aheads qt_seen qt_isKept qt_lanes qt_lengths qt_cells t_hasLaw t_hasCounters t_highest t_taped t_fault t_broken t_brokenAt t_spot t_here t_token t_value o_2.1 o_2.2.1 t_bestWait t_bestWhom t_bestCoins t_seenMany t_torn o_2.2.2.1 t_readPage t_tape t_cuts t_letters o_2.2.2.2.1 o_2.2.2.2.2.1 o_2.2.2.2.2.2 t_waysOn t_costOn t_aheads t_seen t_isKept t_lanes t_lengths t_cells) rfl rfl rfl rfl (by decide) rfl rfl 9 0 rfl rfl rfl rfl hl.1 rfl (Nat.le_of_ble_eq_true rfl) dX9_all_15 ⟨Nat.zero_le _, Nat.zero_le _⟩ (fun H locs hP hD hS => ?_)
    refine lv_aload_n hx hb dX9_all_18 rfl (lv_at hl 0 rfl) ?_
    refine lv_iload_n hx hb dX9_all_19 rfl (lv_at hl 1 rfl) ?_
    obtain ⟨o_3, hc, hM⟩ := bind_so hM
    refine mr_callVi (As := [.int p1]) (rest := []) (wr := []) ⟨hx, hb, hml, hown, hts⟩ (k_Mod_allOf l D cI cB cZ cS cT qt qt_state qt_readPage qt_tape qt_cuts qt_letters qt_queue qt_busyTo qt_servedIn qt_waysOn qt_costOn qt_aheads qt_seen qt_isKept qt_lanes qt_lengths qt_cells t_hasLaw t_hasCounters t_highest t_taped t_fault t_broken t_brokenAt t_spot t_here t_token t_value o_2.1 o_2.2.1 t_bestWait t_bestWhom t_bestCoins t_seenMany t_torn o_2.2.2.1 t_readPage t_tape t_cuts t_letters o_2.2.2.2.1 o_2.2.2.2.2.1 o_2.2.2.2.2.2 t_waysOn t_costOn t_aheads t_seen t_isKept t_lanes t_lengths t_cells p1 _ hc) (cwV 1 hts gX9_all_X9_allOf rfl rfl rfl (by decide +kernel) ⟨Nat.le_of_ble_eq_true rfl, Nat.le_of_ble_eq_true rfl⟩) hK hP hD hS hA [0, 1, 2, 3, 4, 5, 6, 7, 8, 9, 10, 11, 12, 13, 14, 15, 16] [] [0, 1, 2, 3, 4, 5, 6, 7, 8, 9, 10, 11, 12, 13, 14, 15, 16] (w_Mod cI cB cZ cS cT qt qt_state qt_readPage qt_tape qt_cuts qt_letters qt_queue qt_busyTo qt_servedIn qt_waysOn qt_costOn qt_aheads qt_seen qt_isKept qt_lanes qt_lengths qt_cells t_hasLaw t_hasCounters t_highest t_taped t_fault t_broken t_brokenAt t_spot t_here t_token t_value o_2.1 o_2.2.1 t_bestWait t_bestWhom t_bestCoins t_seenMany t_torn o_2.2.2.1 t_readPage t_tape t_cuts t_letters o_2.2.2.2.1 o_2.2.2.2.2.1 o_2.2.2.2.2.2 t_waysOn t_costOn t_aheads t_seen t_isKept t_lanes t_lengths t_cells) rfl rfl rfl rfl (by decide) rfl rfl 9 0 rfl rfl rfl rfl hl.1 rfl (Nat.le_of_ble_eq_true rfl) dX9_all_20 ⟨Nat.zero_le _, Nat.zero_le _⟩ (fun H locs hP hD hS => ?_)
    have hM := Option.some.inj hM
    subst hM
    exact mr_iret hx hb hr hlocks hQ hP hD hS rfl dX9_all_23
  · refine lv_iconst (v := (-1)) hx hb dX9_all_12 (by decide) ?_
    have hM := Option.some.inj hM
    subst hM
    exact mr_iret hx hb hr hlocks hQ hP hD hS rfl dX9_all_13

abbrev rmX9_poor : Room := { frames := 5, cells := 0, slots := 0, locals := 121 }
set_option maxHeartbeats 40000000 in
set_option maxRecDepth 100000 in
theorem k_Mod_poor (l : Launch) (D : va_G) (cI cB cZ cS cT : ClassId) (qt qt_state qt_readPage qt_tape qt_cuts qt_letters qt_queue qt_busyTo qt_servedIn qt_waysOn qt_costOn qt_aheads qt_seen qt_isKept qt_lanes qt_lengths qt_cells : Nat) (t_hasLaw t_hasCounters t_highest t_taped t_fault t_broken t_brokenAt t_spot t_here t_token t_value t_queued t_payed t_bestWait t_bestWhom t_bestCoins t_seenMany t_torn : Int32) (t_state t_readPage t_tape t_cuts t_letters t_queue t_busyTo t_servedIn t_waysOn t_costOn t_aheads t_seen t_isKept t_lanes t_lengths t_cells : Nat → Int32) (p1 p2 : Int32) (o : Int32 × Int32 × Int32 × (Nat → Int32) × (Nat → Int32) × (Nat → Int32) × (Nat → Int32)) (hM : Mod_poor p1 p2 t_queued t_payed t_state t_queue t_busyTo t_servedIn = some o) : mtI l yX9_poor wsX9_poor rmX9_poor D (tys5 cI cB cZ cS cT) [.ref qt, .int p1, .int p2] (w_Mod cI cB cZ cS cT qt qt_state qt_readPage qt_tape qt_cuts qt_letters qt_queue qt_busyTo qt_servedIn qt_waysOn qt_costOn qt_aheads qt_seen qt_isKept qt_lanes qt_lengths qt_cells t_hasLaw t_hasCounters t_highest t_taped t_fault t_broken t_brokenAt t_spot t_here t_token t_value t_queued t_payed t_bestWait t_bestWhom t_bestCoins t_seenMany t_torn t_state t_readPage t_tape t_cuts t_letters t_queue t_busyTo t_servedIn t_waysOn t_costOn t_aheads t_seen t_isKept t_lanes t_lengths t_cells) (w_Mod cI cB cZ cS cT qt qt_state qt_readPage qt_tape qt_cuts qt_letters qt_queue qt_busyTo qt_servedIn qt_waysOn qt_costOn qt_aheads qt_seen qt_isKept qt_lanes qt_lengths qt_cells t_hasLaw t_hasCounters t_highest t_taped t_fault t_broken t_brokenAt t_spot t_here t_token t_value o.2.1 o.2.2.1 t_bestWait t_bestWhom t_bestCoins t_seenMany t_torn o.2.2.2.1 t_readPage t_tape t_cuts t_letters o.2.2.2.2.1 o.2.2.2.2.2.1 o.2.2.2.2.2.2 t_waysOn t_costOn t_aheads t_seen t_isKept t_lanes t_lengths t_cells) o.1 := by
  refine mtI.of (cc := cX9_poor) (maxL := 5) (ret := (some .int)) (by decide) rfl (Nat.le_of_ble_eq_true rfl) ?_
  intro p e s m below meth c A Q av hav hQ hx hb hr hml hown hts hlocks hK hP hD hA hS ls hl
  have hown : s.vm.findClass RX9 = some m.cls := hown
  have hl : lv_has ls 5 [(0, .ref qt), (1, .int p1), (2, .int p2)] := hl
  unfold Mod_poor at hM
  have inX9w : ∀ w ∈ u_ws RX9 TX9 34, w ∈ wsX9_poor := by decide +kernel
  have hfc173 := hts (.constantLong RX9 173 99) (by decide +kernel)
  have hf7 := hts (.fieldLink RX9 7 "LetsInModel" "state" "[I") (by decide +kernel)
  refine lv_iload_n hx hb dX9_poor_0 rfl (lv_at hl 1 rfl) ?_
  refine lv_i2l hx hb dX9_poor_1 rfl ?_
  refine lv_lconst (v := 0) hx hb dX9_poor_2 (by decide) ?_
  refine lv_ldc2 (v := 99) hx hb hown hfc173 dX9_poor_3 ?_
  obtain ⟨o_1, hc, hM⟩ := bind_so hM
  refine mr_callSi (As := [.long p1.toInt64, .long 0, .long 99]) (rest := []) ⟨hx, hb, hml, hown, hts⟩ (k_Mod_in l D cI cB cZ cS cT   p1.toInt64 0 99 _ hc) (cwS 3 hts gX9_poor_X9_in rfl rfl rfl (by decide +kernel) ⟨Nat.le_of_ble_eq_true rfl, Nat.le_of_ble_eq_true rfl⟩) hK hP hD hS hA rfl hl.1 rfl (Nat.le_of_ble_eq_true rfl) dX9_poor_6 ⟨Nat.zero_le _, Nat.zero_le _⟩ (fun H locs hP hS => ?_)
  refine mr_if_eq (tgt := 22) hx hb hM dX9_poor_9 (by decide) (fun hM => ?_) (fun hM => ?_)
  · refine lv_iconst (v := (-1)) hx hb dX9_poor_22 (by decide) ?_
    have hM := Option.some.inj hM
    subst hM
    exact mr_iret hx hb hr hlocks hQ hP hD hS rfl dX9_poor_23
  · refine lv_iload_n hx hb dX9_poor_12 rfl (lv_at hl 2 rfl) ?_
    refine lv_i2l hx hb dX9_poor_13 rfl ?_
    refine lv_lconst (v := 0) hx hb dX9_poor_14 (by decide) ?_
    refine lv_lconst (v := 1) hx hb dX9_poor_15 (by decide) ?_
    obtain ⟨o_2, hc, hM⟩ := bind_so hM
    refine mr_callSi (As := [.long p2.toInt64, .long 0, .long 1]) (rest := []) ⟨hx, hb, hml, hown, hts⟩ (k_Mod_in l D cI cB cZ cS cT   p2.toInt64 0 1 _ hc) (cwS 3 hts gX9_poor_X9_in rfl rfl rfl (by decide +kernel) ⟨Nat.le_of_ble_eq_true rfl, Nat.le_of_ble_eq_true rfl⟩) hK hP hD hS hA rfl hl.1 rfl (Nat.le_of_ble_eq_true rfl) dX9_poor_16 ⟨Nat.zero_le _, Nat.zero_le _⟩ (fun H locs hP hS => ?_)
    refine mr_if_ne (tgt := 24) hx hb hM dX9_poor_19 (by decide) (fun hM => ?_) (fun hM => ?_)
    · refine lv_aload_n hx hb dX9_poor_24 rfl (lv_at hl 0 rfl) ?_
      refine lv_iconst (v := 0) hx hb dX9_poor_25 (by decide) ?_
      refine lv_sipush (v := 282) hx hb dX9_poor_26 (by decide) ?_
      obtain ⟨o_3, hc, hM⟩ := bind_so hM
      refine mr_callVv (As := [.int 0, .int 282]) (rest := []) (wr := []) ⟨hx, hb, hml, hown, hts⟩ (k_Mod_copies l D cI cB cZ cS cT qt qt_state qt_readPage qt_tape qt_cuts qt_letters qt_queue qt_busyTo qt_servedIn qt_waysOn qt_costOn qt_aheads qt_seen qt_isKept qt_lanes qt_lengths qt_cells t_hasLaw t_hasCounters t_highest t_taped t_fault t_broken t_brokenAt t_spot t_here t_token t_value t_queued t_payed t_bestWait t_bestWhom t_bestCoins t_seenMany t_torn t_state t_readPage t_tape t_cuts t_letters t_queue t_busyTo t_servedIn t_waysOn t_costOn t_aheads t_seen t_isKept t_lanes t_lengths t_cells 0 282 _ hc) (cwV 2 hts gX9_poor_X9_copies rfl rfl rfl (by decide +kernel) ⟨Nat.le_of_ble_eq_true rfl, Nat.le_of_ble_eq_true rfl⟩) hK hP hD hS hA [0, 1, 2, 3, 4, 5, 6, 7, 8, 9, 10, 11, 12, 13, 14, 15, 16] [] [0, 1, 2, 3, 4, 5, 6, 7, 8, 9, 10, 11, 12, 13, 14, 15, 16] (w_Mod cI cB cZ cS cT qt qt_state qt_readPage qt_tape qt_cuts qt_letters qt_queue qt_busyTo qt_servedIn qt_waysOn qt_costOn qt_aheads qt_seen qt_isKept qt_lanes qt_lengths qt_cells t_hasLaw t_hasCounters t_highest t_taped t_fault t_broken t_brokenAt t_spot t_here t_token t_value t_queued t_payed t_bestWait t_bestWhom t_bestCoins t_seenMany t_torn o_3 t_readPage t_tape t_cuts t_letters t_queue t_busyTo t_servedIn t_waysOn t_costOn t_aheads t_seen t_isKept t_lanes t_lengths t_cells) rfl rfl rfl rfl (by decide) rfl rfl 9 0 rfl rfl rfl rfl hl.1 rfl (Nat.le_of_ble_eq_true rfl) dX9_poor_29 ⟨Nat.zero_le _, Nat.zero_le _⟩ (fun H locs hP hD hS => ?_)
      refine lv_aload_n hx hb dX9_poor_32 rfl (lv_at hl 0 rfl) ?_
      refine va_get (D := D) (ci := 9) (v := .ref qt_state) (C := RX9) (T := TX9) (N := 34) hx hb hts inX9w hown hK hP 0 rfl rfl 0 (by decide) hf7 (fun _ h9 => h9) rfl dX9_poor_33 ?_
      refine lv_sipush (v := 373) hx hb dX9_poor_36 (by decide) ?_
      refine lv_iload_n hx hb dX9_poor_39 rfl (lv_at hl 2 rfl) ?_
      refine mr_iast hx hb hK hP hD hS 1 0 (fun t_state_4 => (w_Mod cI cB cZ cS cT qt qt_state qt_readPage qt_tape qt_cuts qt_letters qt_queue qt_busyTo qt_servedIn qt_waysOn qt_costOn qt_aheads qt_seen qt_isKept qt_lanes qt_lengths qt_cells t_hasLaw t_hasCounters t_highest t_taped t_fault t_broken t_brokenAt t_spot t_here t_token t_value t_queued t_payed t_bestWait t_bestWhom t_bestCoins t_seenMany t_torn t_state_4 t_readPage t_tape t_cuts t_letters t_queue t_busyTo t_servedIn t_waysOn t_costOn t_aheads t_seen t_isKept t_lanes t_lengths t_cells)) rfl rfl (fun _ => rfl) hM dX9_poor_40 (fun t_state_4 hM H locs hP hD hS => ?_)
      refine lv_aload_n hx hb dX9_poor_41 rfl (lv_at hl 0 rfl) ?_
      refine lv_sipush (v := 130) hx hb dX9_poor_42 (by decide) ?_
      obtain ⟨o_5, hc, hM⟩ := bind_so hM
      refine mr_callVv (As := [.int 130]) (rest := []) (wr := []) ⟨hx, hb, hml, hown, hts⟩ (k_Mod_runsTo l D cI cB cZ cS cT qt qt_state qt_readPage qt_tape qt_cuts qt_letters qt_queue qt_busyTo qt_servedIn qt_waysOn qt_costOn qt_aheads qt_seen qt_isKept qt_lanes qt_lengths qt_cells t_hasLaw t_hasCounters t_highest t_taped t_fault t_broken t_brokenAt t_spot t_here t_token t_value t_queued t_payed t_bestWait t_bestWhom t_bestCoins t_seenMany t_torn t_state_4 t_readPage t_tape t_cuts t_letters t_queue t_busyTo t_servedIn t_waysOn t_costOn t_aheads t_seen t_isKept t_lanes t_lengths t_cells 130 _ hc) (cwV 1 hts gX9_poor_X9_runsTo rfl rfl rfl (by decide +kernel) ⟨Nat.le_of_ble_eq_true rfl, Nat.le_of_ble_eq_true rfl⟩) hK hP hD hS hA [0, 1, 2, 3, 4, 5, 6, 7, 8, 9, 10, 11, 12, 13, 14, 15, 16] [] [0, 1, 2, 3, 4, 5, 6, 7, 8, 9, 10, 11, 12, 13, 14, 15, 16] (w_Mod cI cB cZ cS cT qt qt_state qt_readPage qt_tape qt_cuts qt_letters qt_queue qt_busyTo qt_servedIn qt_waysOn qt_costOn qt_aheads qt_seen qt_isKept qt_lanes qt_lengths qt_cells t_hasLaw t_hasCounters t_highest t_taped t_fault t_broken t_brokenAt t_spot t_here t_token t_value o_5.1 o_5.2.1 t_bestWait t_bestWhom t_bestCoins t_seenMany t_torn o_5.2.2.1 t_readPage t_tape t_cuts t_letters o_5.2.2.2.1 o_5.2.2.2.2.1 o_5.2.2.2.2.2 t_waysOn t_costOn t_aheads t_seen t_isKept t_lanes t_lengths t_cells) rfl rfl rfl rfl (by decide) rfl rfl 9 0 rfl rfl rfl rfl hl.1 rfl (Nat.le_of_ble_eq_true rfl) dX9_poor_45 ⟨Nat.zero_le _, Nat.zero_le _⟩ (fun H locs hP hD hS => ?_)
      refine lv_iconst (v := 0) hx hb dX9_poor_48 (by decide) ?_
      refine lv_istore_n (lv' := [(3, .int 0), (0, .ref qt), (1, .int p1), (2, .int p2)]) hx hb dX9_poor_49 rfl hl (by decide) rfl (fun ls hl => ?_)
      refine lv_iconst (v := 0) hx hb dX9_poor_50 (by decide) ?_
      refine lv_istore (lv' := [(4, .int 0), (3, .int 0), (0, .ref qt), (1, .int p1), (2, .int p2)]) hx hb dX9_poor_51 hl (by decide) rfl (fun ls hl => ?_)
      have hL53 : ∀ (K97 : Int32 → Option (Int32 × Int32 × Int32 × (Nat → Int32) × (Nat → Int32) × (Nat → Int32) × (Nat → Int32))), (∀ (x3_16 : Int32), K97 x3_16 = some o → ∀ (H : Heap) (locs : List Loc), va_P D vwCl (w_Mod cI cB cZ cS cT qt qt_state qt_readPage qt_tape qt_cuts qt_letters qt_queue qt_busyTo qt_servedIn qt_waysOn qt_costOn qt_aheads qt_seen qt_isKept qt_lanes qt_lengths qt_cells t_hasLaw t_hasCounters t_highest t_taped t_fault t_broken t_brokenAt t_spot t_here t_token t_value o_5.1 o_5.2.1 t_bestWait t_bestWhom t_bestCoins t_seenMany t_torn o_5.2.2.1 t_readPage t_tape t_cuts t_letters o_5.2.2.2.1 o_5.2.2.2.2.1 o_5.2.2.2.2.2 t_waysOn t_costOn t_aheads t_seen t_isKept t_lanes t_lengths t_cells) H → va_D A (w_Mod cI cB cZ cS cT qt qt_state qt_readPage qt_tape qt_cuts qt_letters qt_queue qt_busyTo qt_servedIn qt_waysOn qt_costOn qt_aheads qt_seen qt_isKept qt_lanes qt_lengths qt_cells t_hasLaw t_hasCounters t_highest t_taped t_fault t_broken t_brokenAt t_spot t_here t_token t_value o_5.1 o_5.2.1 t_bestWait t_bestWhom t_bestCoins t_seenMany t_torn o_5.2.2.1 t_readPage t_tape t_cuts t_letters o_5.2.2.2.1 o_5.2.2.2.2.1 o_5.2.2.2.2.2 t_waysOn t_costOn t_aheads t_seen t_isKept t_lanes t_lengths t_cells) → va_S A s.heap H locs → ∀ ls : Array Slot, lv_has ls 5 [(3, .int x3_16)] → W p l e rmX9_poor s m av below meth c H locs 0 0 Q (F0 m 97 ls [])) → ∀ (n : Nat) (x3_6 x4_7 : Int32), Mod_poor_L53 p1 o_5 K97 n x3_6 x4_7 = some o → ∀ (H : Heap) (locs : List Loc), va_P D vwCl (w_Mod cI cB cZ cS cT qt qt_state qt_readPage qt_tape qt_cuts qt_letters qt_queue qt_busyTo qt_servedIn qt_waysOn qt_costOn qt_aheads qt_seen qt_isKept qt_lanes qt_lengths qt_cells t_hasLaw t_hasCounters t_highest t_taped t_fault t_broken t_brokenAt t_spot t_here t_token t_value o_5.1 o_5.2.1 t_bestWait t_bestWhom t_bestCoins t_seenMany t_torn o_5.2.2.1 t_readPage t_tape t_cuts t_letters o_5.2.2.2.1 o_5.2.2.2.2.1 o_5.2.2.2.2.2 t_waysOn t_costOn t_aheads t_seen t_isKept t_lanes t_lengths t_cells) H → va_D A (w_Mod cI cB cZ cS cT qt qt_state qt_readPage qt_tape qt_cuts qt_letters qt_queue qt_busyTo qt_servedIn qt_waysOn qt_costOn qt_aheads qt_seen qt_isKept qt_lanes qt_lengths qt_cells t_hasLaw t_hasCounters t_highest t_taped t_fault t_broken t_brokenAt t_spot t_here t_token t_value o_5.1 o_5.2.1 t_bestWait t_bestWhom t_bestCoins t_seenMany t_torn o_5.2.2.1 t_readPage t_tape t_cuts t_letters o_5.2.2.2.1 o_5.2.2.2.2.1 o_5.2.2.2.2.2 t_waysOn t_costOn t_aheads t_seen t_isKept t_lanes t_lengths t_cells) → va_S A s.heap H locs → ∀ ls : Array Slot, lv_has ls 5 [(0, .ref qt), (1, .int p1), (3, .int x3_6), (4, .int x4_7)] → W p l e rmX9_poor s m av below meth c H locs 0 0 Q (F0 m 53 ls []) := by
        intro K97 hK97 n
        induction n with
        | zero =>
          intro x3_6 x4_7 hM
          rw [Mod_poor_L53] at hM
          cases hM
        | succ n ih =>
          intro x3_6 x4_7 hM H locs hP hD hS ls hl
          rw [Mod_poor_L53] at hM
          refine lv_iload hx hb dX9_poor_53 (lv_at hl 3 rfl) ?_
          refine lv_aload_n hx hb dX9_poor_55 rfl (lv_at hl 0 rfl) ?_
          obtain ⟨o_8, hc, hM⟩ := bind_so hM
          refine mr_callVi (As := []) (rest := [.int x4_7]) (wr := []) ⟨hx, hb, hml, hown, hts⟩ (k_Mod_many l D cI cB cZ cS cT qt qt_state qt_readPage qt_tape qt_cuts qt_letters qt_queue qt_busyTo qt_servedIn qt_waysOn qt_costOn qt_aheads qt_seen qt_isKept qt_lanes qt_lengths qt_cells t_hasLaw t_hasCounters t_highest t_taped t_fault t_broken t_brokenAt t_spot t_here t_token t_value o_5.1 o_5.2.1 t_bestWait t_bestWhom t_bestCoins t_seenMany t_torn o_5.2.2.1 t_readPage t_tape t_cuts t_letters o_5.2.2.2.1 o_5.2.2.2.2.1 o_5.2.2.2.2.2 t_waysOn t_costOn t_aheads t_seen t_isKept t_lanes t_lengths t_cells  _ hc) (cwV 0 hts gX9_poor_X9_many rfl rfl rfl (by decide +kernel) ⟨Nat.le_of_ble_eq_true rfl, Nat.le_of_ble_eq_true rfl⟩) hK hP hD hS hA [0, 1, 2, 3, 4, 5, 6, 7, 8, 9, 10, 11, 12, 13, 14, 15, 16] [] [0, 1, 2, 3, 4, 5, 6, 7, 8, 9, 10, 11, 12, 13, 14, 15, 16] (w_Mod cI cB cZ cS cT qt qt_state qt_readPage qt_tape qt_cuts qt_letters qt_queue qt_busyTo qt_servedIn qt_waysOn qt_costOn qt_aheads qt_seen qt_isKept qt_lanes qt_lengths qt_cells t_hasLaw t_hasCounters t_highest t_taped t_fault t_broken t_brokenAt t_spot t_here t_token t_value o_5.1 o_5.2.1 t_bestWait t_bestWhom t_bestCoins t_seenMany t_torn o_5.2.2.1 t_readPage t_tape t_cuts t_letters o_5.2.2.2.1 o_5.2.2.2.2.1 o_5.2.2.2.2.2 t_waysOn t_costOn t_aheads t_seen t_isKept t_lanes t_lengths t_cells) rfl rfl rfl rfl (by decide) rfl rfl 9 0 rfl rfl rfl rfl hl.1 rfl (Nat.le_of_ble_eq_true rfl) dX9_poor_56 ⟨Nat.zero_le _, Nat.zero_le _⟩ (fun H locs hP hD hS => ?_)
          refine mr_icmp_ge (tgt := 97) hx hb hM dX9_poor_59 (by decide) (fun hM => ?_) (fun hM => ?_)
          · exact hK97 x3_6 hM _ _ hP hD hS ls (lv_sub hl [2] rfl)
          · refine lv_iload_n hx hb dX9_poor_62 rfl (lv_at hl 2 rfl) ?_
            refine lv_aload_n hx hb dX9_poor_63 rfl (lv_at hl 0 rfl) ?_
            refine va_get (D := D) (ci := 9) (v := .ref qt_state) (C := RX9) (T := TX9) (N := 34) hx hb hts inX9w hown hK hP 0 rfl rfl 0 (by decide) hf7 (fun _ h9 => h9) rfl dX9_poor_64 ?_
            refine lv_bipush (v := 6) hx hb dX9_poor_67 (by decide) ?_
            refine lv_iload hx hb dX9_poor_69 (lv_at hl 3 rfl) ?_
            refine lv_imul hx hb dX9_poor_71 ?_
            refine lv_iconst (v := 4) hx hb dX9_poor_72 (by decide) ?_
            refine lv_iadd hx hb dX9_poor_73 ?_
            refine mr_iald hx hb hK hP 1 0 rfl rfl hM dX9_poor_74 (fun v_9 hM => ?_)
            refine lv_iload_n hx hb dX9_poor_75 rfl (lv_at hl 1 rfl) ?_
            refine mr_jn hM (fun j89_10 => ∀ (y_11 y_12 : Int32), j89_10 y_11 y_12 = some o → ∀ (H : Heap) (locs : List Loc), va_P D vwCl (w_Mod cI cB cZ cS cT qt qt_state qt_readPage qt_tape qt_cuts qt_letters qt_queue qt_busyTo qt_servedIn qt_waysOn qt_costOn qt_aheads qt_seen qt_isKept qt_lanes qt_lengths qt_cells t_hasLaw t_hasCounters t_highest t_taped t_fault t_broken t_brokenAt t_spot t_here t_token t_value o_5.1 o_5.2.1 t_bestWait t_bestWhom t_bestCoins t_seenMany t_torn o_5.2.2.1 t_readPage t_tape t_cuts t_letters o_5.2.2.2.1 o_5.2.2.2.2.1 o_5.2.2.2.2.2 t_waysOn t_costOn t_aheads t_seen t_isKept t_lanes t_lengths t_cells) H → va_D A (w_Mod cI cB cZ cS cT qt qt_state qt_readPage qt_tape qt_cuts qt_letters qt_queue qt_busyTo qt_servedIn qt_waysOn qt_costOn qt_aheads qt_seen qt_isKept qt_lanes qt_lengths qt_cells t_hasLaw t_hasCounters t_highest t_taped t_fault t_broken t_brokenAt t_spot t_here t_token t_value o_5.1 o_5.2.1 t_bestWait t_bestWhom t_bestCoins t_seenMany t_torn o_5.2.2.1 t_readPage t_tape t_cuts t_letters o_5.2.2.2.1 o_5.2.2.2.2.1 o_5.2.2.2.2.2 t_waysOn t_costOn t_aheads t_seen t_isKept t_lanes t_lengths t_cells) → va_S A s.heap H locs → ∀ ls : Array Slot, lv_has ls 5 [(0, .ref qt), (1, .int p1), (4, .int x4_7)] → W p l e rmX9_poor s m av below meth c H locs 0 0 Q (F0 m 89 ls [.int y_12, .int y_11])) (fun y_11 y_12 hM H locs hP hD hS ls hl => ?_) (fun j89_10 hj89_10 hM => ?_)
            · refine lv_iadd hx hb dX9_poor_89 ?_
              refine mr_nmI hM (fun x3_13 hM => ?_)
              refine lv_istore_n (lv' := [(3, .int x3_13), (0, .ref qt), (1, .int p1), (4, .int x4_7)]) hx hb dX9_poor_90 rfl hl (by decide) rfl (fun ls hl => ?_)
              refine mr_iinc (k := 3) (d := 1) hx hb (fun x4_14 => [(4, .int x4_14), (3, .int x3_13), (0, .ref qt), (1, .int p1)]) hM (by decide) dX9_poor_91 hl rfl (by decide) (fun _ => rfl) (fun x4_14 hM ls hl => ?_)
              refine lv_goto (tgt := 53) hx hb dX9_poor_94 (by decide) ?_
              exact ih x3_13 x4_14 hM _ _ hP hD hS ls (lv_sub hl [2, 3, 1, 0] rfl)
            · refine mr_icmp_gt (tgt := 88) hx hb hM dX9_poor_76 (by decide) (fun hM => ?_) (fun hM => ?_)
              · refine lv_iconst (v := 0) hx hb dX9_poor_88 (by decide) ?_
                exact hj89_10 x3_6 0 hM _ _ hP hD hS ls (lv_sub hl [0, 1, 3] rfl)
              · refine lv_aload_n hx hb dX9_poor_79 rfl (lv_at hl 0 rfl) ?_
                refine lv_iload hx hb dX9_poor_80 (lv_at hl 3 rfl) ?_
                obtain ⟨o_15, hc, hM⟩ := bind_so hM
                refine mr_callVi (As := [.int x4_7]) (rest := [.int x3_6]) (wr := []) ⟨hx, hb, hml, hown, hts⟩ (k_Mod_waitOf l D cI cB cZ cS cT qt qt_state qt_readPage qt_tape qt_cuts qt_letters qt_queue qt_busyTo qt_servedIn qt_waysOn qt_costOn qt_aheads qt_seen qt_isKept qt_lanes qt_lengths qt_cells t_hasLaw t_hasCounters t_highest t_taped t_fault t_broken t_brokenAt t_spot t_here t_token t_value o_5.1 o_5.2.1 t_bestWait t_bestWhom t_bestCoins t_seenMany t_torn o_5.2.2.1 t_readPage t_tape t_cuts t_letters o_5.2.2.2.1 o_5.2.2.2.2.1 o_5.2.2.2.2.2 t_waysOn t_costOn t_aheads t_seen t_isKept t_lanes t_lengths t_cells x4_7 _ hc) (cwV 1 hts gX9_poor_X9_waitOf rfl rfl rfl (by decide +kernel) ⟨Nat.le_of_ble_eq_true rfl, Nat.le_of_ble_eq_true rfl⟩) hK hP hD hS hA [0, 1, 2, 3, 4, 5, 6, 7, 8, 9, 10, 11, 12, 13, 14, 15, 16] [] [0, 1, 2, 3, 4, 5, 6, 7, 8, 9, 10, 11, 12, 13, 14, 15, 16] (w_Mod cI cB cZ cS cT qt qt_state qt_readPage qt_tape qt_cuts qt_letters qt_queue qt_busyTo qt_servedIn qt_waysOn qt_costOn qt_aheads qt_seen qt_isKept qt_lanes qt_lengths qt_cells t_hasLaw t_hasCounters t_highest t_taped t_fault t_broken t_brokenAt t_spot t_here t_token t_value o_5.1 o_5.2.1 t_bestWait t_bestWhom t_bestCoins t_seenMany t_torn o_5.2.2.1 t_readPage t_tape t_cuts t_letters o_5.2.2.2.1 o_5.2.2.2.2.1 o_5.2.2.2.2.2 t_waysOn t_costOn t_aheads t_seen t_isKept t_lanes t_lengths t_cells) rfl rfl rfl rfl (by decide) rfl rfl 9 0 rfl rfl rfl rfl hl.1 rfl (Nat.le_of_ble_eq_true rfl) dX9_poor_82 ⟨Nat.zero_le _, Nat.zero_le _⟩ (fun H locs hP hD hS => ?_)
                refine lv_goto (tgt := 89) hx hb dX9_poor_85 (by decide) ?_
                exact hj89_10 x3_6 o_15 hM _ _ hP hD hS ls (lv_sub hl [0, 1, 3] rfl)
      refine hL53 _ (fun x3_16 hM H locs hP hD hS ls hl => ?_) _ 0 0 hM _ _ hP hD hS ls (lv_sub hl [2, 3, 1, 0] rfl)
      refine lv_iload_n hx hb dX9_poor_97 rfl (lv_at hl 0 rfl) ?_
      have hM := Option.some.inj hM
      subst hM
      exact mr_iret hx hb hr hlocks hQ hP hD hS rfl dX9_poor_98
    · refine lv_iconst (v := (-1)) hx hb dX9_poor_22 (by decide) ?_
      have hM := Option.some.inj hM
      subst hM
      exact mr_iret hx hb hr hlocks hQ hP hD hS rfl dX9_poor_23
