abbrev rmX9_buy : Room := { frames := 6, cells := 0, slots := 0, locals := 145 }
set_option maxHeartbeats 40000000 in
set_option maxRecDepth 100000 in
theorem k_Mod_buy (l : Launch) (D : va_G) (cI cB cZ cS cT : ClassId) (qt qt_state qt_readPage qt_tape qt_cuts qt_letters qt_queue qt_busyTo qt_servedIn qt_waysOn qt_costOn qt_aheads qt_seen qt_isKept qt_lanes qt_lengths qt_cells : Nat) (t_hasLaw t_hasCounters t_highest t_taped t_fault t_broken t_brokenAt t_spot t_here t_token t_value t_queued t_payed t_bestWait t_bestWhom t_bestCoins t_seenMany t_torn : Int32) (t_state t_readPage t_tape t_cuts t_letters t_queue t_busyTo t_servedIn t_waysOn t_costOn t_aheads t_seen t_isKept t_lanes t_lengths t_cells : Nat → Int32) (p1 p2 : Int32) (o : Int32 × Int32 × Int32 × Int32 × Int32 × Int32 × (Nat → Int32) × (Nat → Int32) × (Nat → Int32) × (Nat → Int32)) (hM : Mod_buy p1 p2 t_queued t_payed t_bestWait t_bestWhom t_bestCoins t_state t_queue t_busyTo t_servedIn = some o) : mtI l yX9_buy wsX9_buy rmX9_buy D (tys5 cI cB cZ cS cT) [.ref qt, .int p1, .int p2] (w_Mod cI cB cZ cS cT qt qt_state qt_readPage qt_tape qt_cuts qt_letters qt_queue qt_busyTo qt_servedIn qt_waysOn qt_costOn qt_aheads qt_seen qt_isKept qt_lanes qt_lengths qt_cells t_hasLaw t_hasCounters t_highest t_taped t_fault t_broken t_brokenAt t_spot t_here t_token t_value t_queued t_payed t_bestWait t_bestWhom t_bestCoins t_seenMany t_torn t_state t_readPage t_tape t_cuts t_letters t_queue t_busyTo t_servedIn t_waysOn t_costOn t_aheads t_seen t_isKept t_lanes t_lengths t_cells) (w_Mod cI cB cZ cS cT qt qt_state qt_readPage qt_tape qt_cuts qt_letters qt_queue qt_busyTo qt_servedIn qt_waysOn qt_costOn qt_aheads qt_seen qt_isKept qt_lanes qt_lengths qt_cells t_hasLaw t_hasCounters t_highest t_taped t_fault t_broken t_brokenAt t_spot t_here t_token t_value o.2.1 o.2.2.1 o.2.2.2.1 o.2.2.2.2.1 o.2.2.2.2.2.1 t_seenMany t_torn o.2.2.2.2.2.2.1 t_readPage t_tape t_cuts t_letters o.2.2.2.2.2.2.2.1 o.2.2.2.2.2.2.2.2.1 o.2.2.2.2.2.2.2.2.2 t_waysOn t_costOn t_aheads t_seen t_isKept t_lanes t_lengths t_cells) o.1 := by
  refine mtI.of (cc := cX9_buy) (maxL := 7) (ret := (some .int)) (by decide) rfl (Nat.le_of_ble_eq_true rfl) ?_
  intro p e s m below meth c A Q av hav hQ hx hb hr hml hown hts hlocks hK hP hD hA hS ls hl
  have hown : s.vm.findClass RX9 = some m.cls := hown
  have hl : lv_has ls 7 [(0, .ref qt), (1, .int p1), (2, .int p2)] := hl
  unfold Mod_buy at hM
  have inX9w : ∀ w ∈ u_ws RX9 TX9 34, w ∈ wsX9_buy := by decide +kernel
  have hfc169 := hts (.constantLong RX9 169 2) (by decide +kernel)
  have hf242 := hts (.fieldLink RX9 242 "LetsInModel" "bestWait" "I") (by decide +kernel)
  have hf245 := hts (.fieldLink RX9 245 "LetsInModel" "bestWhom" "I") (by decide +kernel)
  have hf7 := hts (.fieldLink RX9 7 "LetsInModel" "state" "[I") (by decide +kernel)
  refine lv_aload_n hx hb dX9_buy_0 rfl (lv_at hl 0 rfl) ?_
  refine lv_iload_n hx hb dX9_buy_1 rfl (lv_at hl 1 rfl) ?_
  obtain ⟨o_1, hc, hM⟩ := bind_so hM
  refine mr_callVi (As := [.int p1]) (rest := []) (wr := []) ⟨hx, hb, hml, hown, hts⟩ (k_Mod_isOne l D cI cB cZ cS cT qt qt_state qt_readPage qt_tape qt_cuts qt_letters qt_queue qt_busyTo qt_servedIn qt_waysOn qt_costOn qt_aheads qt_seen qt_isKept qt_lanes qt_lengths qt_cells t_hasLaw t_hasCounters t_highest t_taped t_fault t_broken t_brokenAt t_spot t_here t_token t_value t_queued t_payed t_bestWait t_bestWhom t_bestCoins t_seenMany t_torn t_state t_readPage t_tape t_cuts t_letters t_queue t_busyTo t_servedIn t_waysOn t_costOn t_aheads t_seen t_isKept t_lanes t_lengths t_cells p1 _ hc) (cwV 1 hts gX9_buy_X9_isOne rfl rfl rfl (by decide +kernel) ⟨Nat.le_of_ble_eq_true rfl, Nat.le_of_ble_eq_true rfl⟩) hK hP hD hS hA [0, 1, 2, 3, 4, 5, 6, 7, 8, 9, 10, 11, 12, 13, 14, 15, 16] [] [0, 1, 2, 3, 4, 5, 6, 7, 8, 9, 10, 11, 12, 13, 14, 15, 16] (w_Mod cI cB cZ cS cT qt qt_state qt_readPage qt_tape qt_cuts qt_letters qt_queue qt_busyTo qt_servedIn qt_waysOn qt_costOn qt_aheads qt_seen qt_isKept qt_lanes qt_lengths qt_cells t_hasLaw t_hasCounters t_highest t_taped t_fault t_broken t_brokenAt t_spot t_here t_token t_value t_queued t_payed t_bestWait t_bestWhom t_bestCoins t_seenMany t_torn t_state t_readPage t_tape t_cuts t_letters t_queue t_busyTo t_servedIn t_waysOn t_costOn t_aheads t_seen t_isKept t_lanes t_lengths t_cells) rfl rfl rfl rfl (by decide) rfl rfl 9 0 rfl rfl rfl rfl hl.1 rfl (Nat.le_of_ble_eq_true rfl) dX9_buy_2 ⟨Nat.zero_le _, Nat.zero_le _⟩ (fun H locs hP hD hS => ?_)
  refine mr_if_eq (tgt := 20) hx hb hM dX9_buy_5 (by decide) (fun hM => ?_) (fun hM => ?_)
  · refine lv_iconst (v := (-1)) hx hb dX9_buy_20 (by decide) ?_
    have hM := Option.some.inj hM
    subst hM
    exact mr_iret hx hb hr hlocks hQ hP hD hS rfl dX9_buy_21
  · refine lv_iload_n hx hb dX9_buy_8 rfl (lv_at hl 2 rfl) ?_
    refine lv_i2l hx hb dX9_buy_9 rfl ?_
    refine lv_lconst (v := 0) hx hb dX9_buy_10 (by decide) ?_
    refine lv_ldc2 (v := 2) hx hb hown hfc169 dX9_buy_11 ?_
    obtain ⟨o_2, hc, hM⟩ := bind_so hM
    refine mr_callSi (As := [.long p2.toInt64, .long 0, .long 2]) (rest := []) ⟨hx, hb, hml, hown, hts⟩ (k_Mod_in l D cI cB cZ cS cT   p2.toInt64 0 2 _ hc) (cwS 3 hts gX9_buy_X9_in rfl rfl rfl (by decide +kernel) ⟨Nat.le_of_ble_eq_true rfl, Nat.le_of_ble_eq_true rfl⟩) hK hP hD hS hA rfl hl.1 rfl (Nat.le_of_ble_eq_true rfl) dX9_buy_14 ⟨Nat.zero_le _, Nat.zero_le _⟩ (fun H locs hP hS => ?_)
    refine mr_if_ne (tgt := 22) hx hb hM dX9_buy_17 (by decide) (fun hM => ?_) (fun hM => ?_)
    · refine lv_aload_n hx hb dX9_buy_22 rfl (lv_at hl 0 rfl) ?_
      obtain ⟨o_3, hc, hM⟩ := bind_so hM
      refine mr_callVv (As := []) (rest := []) (wr := []) ⟨hx, hb, hml, hown, hts⟩ (k_Mod_runsAll l D cI cB cZ cS cT qt qt_state qt_readPage qt_tape qt_cuts qt_letters qt_queue qt_busyTo qt_servedIn qt_waysOn qt_costOn qt_aheads qt_seen qt_isKept qt_lanes qt_lengths qt_cells t_hasLaw t_hasCounters t_highest t_taped t_fault t_broken t_brokenAt t_spot t_here t_token t_value t_queued t_payed t_bestWait t_bestWhom t_bestCoins t_seenMany t_torn t_state t_readPage t_tape t_cuts t_letters t_queue t_busyTo t_servedIn t_waysOn t_costOn t_aheads t_seen t_isKept t_lanes t_lengths t_cells  _ hc) (cwV 0 hts gX9_buy_X9_runsAll rfl rfl rfl (by decide +kernel) ⟨Nat.le_of_ble_eq_true rfl, Nat.le_of_ble_eq_true rfl⟩) hK hP hD hS hA [0, 1, 2, 3, 4, 5, 6, 7, 8, 9, 10, 11, 12, 13, 14, 15, 16] [] [0, 1, 2, 3, 4, 5, 6, 7, 8, 9, 10, 11, 12, 13, 14, 15, 16] (w_Mod cI cB cZ cS cT qt qt_state qt_readPage qt_tape qt_cuts qt_letters qt_queue qt_busyTo qt_servedIn qt_waysOn qt_costOn qt_aheads qt_seen qt_isKept qt_lanes qt_lengths qt_cells t_hasLaw t_hasCounters t_highest t_taped t_fault t_broken t_brokenAt t_spot t_here t_token t_value o_3.1 o_3.2.1 t_bestWait t_bestWhom t_bestCoins t_seenMany t_torn o_3.2.2.1 t_readPage t_tape t_cuts t_letters o_3.2.2.2.1 o_3.2.2.2.2.1 o_3.2.2.2.2.2 t_waysOn t_costOn t_aheads t_seen t_isKept t_lanes t_lengths t_cells) rfl rfl rfl rfl (by decide) rfl rfl 9 0 rfl rfl rfl rfl hl.1 rfl (Nat.le_of_ble_eq_true rfl) dX9_buy_23 ⟨Nat.zero_le _, Nat.zero_le _⟩ (fun H locs hP hD hS => ?_)
      refine lv_aload_n hx hb dX9_buy_26 rfl (lv_at hl 0 rfl) ?_
      refine lv_aload_n hx hb dX9_buy_27 rfl (lv_at hl 0 rfl) ?_
      refine lv_iload_n hx hb dX9_buy_28 rfl (lv_at hl 1 rfl) ?_
      obtain ⟨o_4, hc, hM⟩ := bind_so hM
      refine mr_callVi (As := [.int p1]) (rest := [.ref qt]) (wr := []) ⟨hx, hb, hml, hown, hts⟩ (k_Mod_waitOf l D cI cB cZ cS cT qt qt_state qt_readPage qt_tape qt_cuts qt_letters qt_queue qt_busyTo qt_servedIn qt_waysOn qt_costOn qt_aheads qt_seen qt_isKept qt_lanes qt_lengths qt_cells t_hasLaw t_hasCounters t_highest t_taped t_fault t_broken t_brokenAt t_spot t_here t_token t_value o_3.1 o_3.2.1 t_bestWait t_bestWhom t_bestCoins t_seenMany t_torn o_3.2.2.1 t_readPage t_tape t_cuts t_letters o_3.2.2.2.1 o_3.2.2.2.2.1 o_3.2.2.2.2.2 t_waysOn t_costOn t_aheads t_seen t_isKept t_lanes t_lengths t_cells p1 _ hc) (cwV 1 hts gX9_buy_X9_waitOf rfl rfl rfl (by decide +kernel) ⟨Nat.le_of_ble_eq_true rfl, Nat.le_of_ble_eq_true rfl⟩) hK hP hD hS hA [0, 1, 2, 3, 4, 5, 6, 7, 8, 9, 10, 11, 12, 13, 14, 15, 16] [] [0, 1, 2, 3, 4, 5, 6, 7, 8, 9, 10, 11, 12, 13, 14, 15, 16] (w_Mod cI cB cZ cS cT qt qt_state qt_readPage qt_tape qt_cuts qt_letters qt_queue qt_busyTo qt_servedIn qt_waysOn qt_costOn qt_aheads qt_seen qt_isKept qt_lanes qt_lengths qt_cells t_hasLaw t_hasCounters t_highest t_taped t_fault t_broken t_brokenAt t_spot t_here t_token t_value o_3.1 o_3.2.1 t_bestWait t_bestWhom t_bestCoins t_seenMany t_torn o_3.2.2.1 t_readPage t_tape t_cuts t_letters o_3.2.2.2.1 o_3.2.2.2.2.1 o_3.2.2.2.2.2 t_waysOn t_costOn t_aheads t_seen t_isKept t_lanes t_lengths t_cells) rfl rfl rfl rfl (by decide) rfl rfl 9 0 rfl rfl rfl rfl hl.1 rfl (Nat.le_of_ble_eq_true rfl) dX9_buy_29 ⟨Nat.zero_le _, Nat.zero_le _⟩ (fun H locs hP hD hS => ?_)
      refine mr_put (D := D) (ci := 9) (v := .int o_4) (ty := .int) (C := RX9) (T := TX9) (N := 34) hx hb hts inX9w tyX9 tyX9_ok nmX9 hown hK hP hD hS 0 rfl rfl 24 (by decide) hf242 (fun _ h9 => h9) rfl (by decide +kernel) rfl rfl (Nat.le_of_ble_eq_true rfl) dX9_buy_32 (w_Mod cI cB cZ cS cT qt qt_state qt_readPage qt_tape qt_cuts qt_letters qt_queue qt_busyTo qt_servedIn qt_waysOn qt_costOn qt_aheads qt_seen qt_isKept qt_lanes qt_lengths qt_cells t_hasLaw t_hasCounters t_highest t_taped t_fault t_broken t_brokenAt t_spot t_here t_token t_value o_3.1 o_3.2.1 o_4 t_bestWhom t_bestCoins t_seenMany t_torn o_3.2.2.1 t_readPage t_tape t_cuts t_letters o_3.2.2.2.1 o_3.2.2.2.2.1 o_3.2.2.2.2.2 t_waysOn t_costOn t_aheads t_seen t_isKept t_lanes t_lengths t_cells) rfl (fun H locs hP hD hS => ?_)
      refine lv_aload_n hx hb dX9_buy_35 rfl (lv_at hl 0 rfl) ?_
      refine lv_bipush (v := (-4)) hx hb dX9_buy_36 (by decide) ?_
      refine mr_put (D := D) (ci := 9) (v := .int (-4)) (ty := .int) (C := RX9) (T := TX9) (N := 34) hx hb hts inX9w tyX9 tyX9_ok nmX9 hown hK hP hD hS 0 rfl rfl 25 (by decide) hf245 (fun _ h9 => h9) rfl (by decide +kernel) rfl rfl (Nat.le_of_ble_eq_true rfl) dX9_buy_38 (w_Mod cI cB cZ cS cT qt qt_state qt_readPage qt_tape qt_cuts qt_letters qt_queue qt_busyTo qt_servedIn qt_waysOn qt_costOn qt_aheads qt_seen qt_isKept qt_lanes qt_lengths qt_cells t_hasLaw t_hasCounters t_highest t_taped t_fault t_broken t_brokenAt t_spot t_here t_token t_value o_3.1 o_3.2.1 o_4 (-4) t_bestCoins t_seenMany t_torn o_3.2.2.1 t_readPage t_tape t_cuts t_letters o_3.2.2.2.1 o_3.2.2.2.2.1 o_3.2.2.2.2.2 t_waysOn t_costOn t_aheads t_seen t_isKept t_lanes t_lengths t_cells) rfl (fun H locs hP hD hS => ?_)
      refine lv_iconst (v := 0) hx hb dX9_buy_41 (by decide) ?_
      refine lv_istore_n (lv' := [(3, .int 0), (0, .ref qt), (1, .int p1), (2, .int p2)]) hx hb dX9_buy_42 rfl hl (by decide) rfl (fun ls hl => ?_)
      have hL43 : ∀ (K227 : Int32 → Int32 → Int32 → Int32 → Int32 → (Nat → Int32) → (Nat → Int32) → (Nat → Int32) → (Nat → Int32) → Option (Int32 × Int32 × Int32 × Int32 × Int32 × Int32 × (Nat → Int32) × (Nat → Int32) × (Nat → Int32) × (Nat → Int32))), (∀ (t_queued_41 t_payed_42 t_bestWait_43 t_bestWhom_44 t_bestCoins_45 : Int32) (t_state_46 t_queue_47 t_busyTo_48 t_servedIn_49 : Nat → Int32), K227 t_queued_41 t_payed_42 t_bestWait_43 t_bestWhom_44 t_bestCoins_45 t_state_46 t_queue_47 t_busyTo_48 t_servedIn_49 = some o → ∀ (H : Heap) (locs : List Loc), va_P D vwCl (w_Mod cI cB cZ cS cT qt qt_state qt_readPage qt_tape qt_cuts qt_letters qt_queue qt_busyTo qt_servedIn qt_waysOn qt_costOn qt_aheads qt_seen qt_isKept qt_lanes qt_lengths qt_cells t_hasLaw t_hasCounters t_highest t_taped t_fault t_broken t_brokenAt t_spot t_here t_token t_value t_queued_41 t_payed_42 t_bestWait_43 t_bestWhom_44 t_bestCoins_45 t_seenMany t_torn t_state_46 t_readPage t_tape t_cuts t_letters t_queue_47 t_busyTo_48 t_servedIn_49 t_waysOn t_costOn t_aheads t_seen t_isKept t_lanes t_lengths t_cells) H → va_D A (w_Mod cI cB cZ cS cT qt qt_state qt_readPage qt_tape qt_cuts qt_letters qt_queue qt_busyTo qt_servedIn qt_waysOn qt_costOn qt_aheads qt_seen qt_isKept qt_lanes qt_lengths qt_cells t_hasLaw t_hasCounters t_highest t_taped t_fault t_broken t_brokenAt t_spot t_here t_token t_value t_queued_41 t_payed_42 t_bestWait_43 t_bestWhom_44 t_bestCoins_45 t_seenMany t_torn t_state_46 t_readPage t_tape t_cuts t_letters t_queue_47 t_busyTo_48 t_servedIn_49 t_waysOn t_costOn t_aheads t_seen t_isKept t_lanes t_lengths t_cells) → va_S A s.heap H locs → ∀ ls : Array Slot, lv_has ls 7 [(0, .ref qt), (2, .int p2)] → W p l e rmX9_buy s m av below meth c H locs 0 0 Q (F0 m 227 ls [])) → ∀ (n : Nat) (x3_5 t_queued_6 t_payed_7 t_bestWait_8 t_bestWhom_9 t_bestCoins_10 : Int32) (t_state_11 t_queue_12 t_busyTo_13 t_servedIn_14 : Nat → Int32), Mod_buy_L43 p1 K227 n x3_5 t_queued_6 t_payed_7 t_bestWait_8 t_bestWhom_9 t_bestCoins_10 t_state_11 t_queue_12 t_busyTo_13 t_servedIn_14 = some o → ∀ (H : Heap) (locs : List Loc), va_P D vwCl (w_Mod cI cB cZ cS cT qt qt_state qt_readPage qt_tape qt_cuts qt_letters qt_queue qt_busyTo qt_servedIn qt_waysOn qt_costOn qt_aheads qt_seen qt_isKept qt_lanes qt_lengths qt_cells t_hasLaw t_hasCounters t_highest t_taped t_fault t_broken t_brokenAt t_spot t_here t_token t_value t_queued_6 t_payed_7 t_bestWait_8 t_bestWhom_9 t_bestCoins_10 t_seenMany t_torn t_state_11 t_readPage t_tape t_cuts t_letters t_queue_12 t_busyTo_13 t_servedIn_14 t_waysOn t_costOn t_aheads t_seen t_isKept t_lanes t_lengths t_cells) H → va_D A (w_Mod cI cB cZ cS cT qt qt_state qt_readPage qt_tape qt_cuts qt_letters qt_queue qt_busyTo qt_servedIn qt_waysOn qt_costOn qt_aheads qt_seen qt_isKept qt_lanes qt_lengths qt_cells t_hasLaw t_hasCounters t_highest t_taped t_fault t_broken t_brokenAt t_spot t_here t_token t_value t_queued_6 t_payed_7 t_bestWait_8 t_bestWhom_9 t_bestCoins_10 t_seenMany t_torn t_state_11 t_readPage t_tape t_cuts t_letters t_queue_12 t_busyTo_13 t_servedIn_14 t_waysOn t_costOn t_aheads t_seen t_isKept t_lanes t_lengths t_cells) → va_S A s.heap H locs → ∀ ls : Array Slot, lv_has ls 7 [(0, .ref qt), (1, .int p1), (2, .int p2), (3, .int x3_5)] → W p l e rmX9_buy s m av below meth c H locs 0 0 Q (F0 m 43 ls []) := by
        intro K227 hK227 n
        induction n with
        | zero =>
          intro x3_5 t_queued_6 t_payed_7 t_bestWait_8 t_bestWhom_9 t_bestCoins_10 t_state_11 t_queue_12 t_busyTo_13 t_servedIn_14 hM
          rw [Mod_buy_L43] at hM
          cases hM
        | succ n ih =>
          intro x3_5 t_queued_6 t_payed_7 t_bestWait_8 t_bestWhom_9 t_bestCoins_10 t_state_11 t_queue_12 t_busyTo_13 t_servedIn_14 hM H locs hP hD hS ls hl
          rw [Mod_buy_L43] at hM
          refine lv_iload_n hx hb dX9_buy_43 rfl (lv_at hl 3 rfl) ?_
          refine lv_bipush (v := 7) hx hb dX9_buy_44 (by decide) ?_
          refine lv_aload_n hx hb dX9_buy_46 rfl (lv_at hl 0 rfl) ?_
          obtain ⟨o_15, hc, hM⟩ := bind_so hM
          refine mr_callVi (As := []) (rest := [.int 7, .int x3_5]) (wr := []) ⟨hx, hb, hml, hown, hts⟩ (k_Mod_many l D cI cB cZ cS cT qt qt_state qt_readPage qt_tape qt_cuts qt_letters qt_queue qt_busyTo qt_servedIn qt_waysOn qt_costOn qt_aheads qt_seen qt_isKept qt_lanes qt_lengths qt_cells t_hasLaw t_hasCounters t_highest t_taped t_fault t_broken t_brokenAt t_spot t_here t_token t_value t_queued_6 t_payed_7 t_bestWait_8 t_bestWhom_9 t_bestCoins_10 t_seenMany t_torn t_state_11 t_readPage t_tape t_cuts t_letters t_queue_12 t_busyTo_13 t_servedIn_14 t_waysOn t_costOn t_aheads t_seen t_isKept t_lanes t_lengths t_cells  _ hc) (cwV 0 hts gX9_buy_X9_many rfl rfl rfl (by decide +kernel) ⟨Nat.le_of_ble_eq_true rfl, Nat.le_of_ble_eq_true rfl⟩) hK hP hD hS hA [0, 1, 2, 3, 4, 5, 6, 7, 8, 9, 10, 11, 12, 13, 14, 15, 16] [] [0, 1, 2, 3, 4, 5, 6, 7, 8, 9, 10, 11, 12, 13, 14, 15, 16] (w_Mod cI cB cZ cS cT qt qt_state qt_readPage qt_tape qt_cuts qt_letters qt_queue qt_busyTo qt_servedIn qt_waysOn qt_costOn qt_aheads qt_seen qt_isKept qt_lanes qt_lengths qt_cells t_hasLaw t_hasCounters t_highest t_taped t_fault t_broken t_brokenAt t_spot t_here t_token t_value t_queued_6 t_payed_7 t_bestWait_8 t_bestWhom_9 t_bestCoins_10 t_seenMany t_torn t_state_11 t_readPage t_tape t_cuts t_letters t_queue_12 t_busyTo_13 t_servedIn_14 t_waysOn t_costOn t_aheads t_seen t_isKept t_lanes t_lengths t_cells) rfl rfl rfl rfl (by decide) rfl rfl 9 0 rfl rfl rfl rfl hl.1 rfl (Nat.le_of_ble_eq_true rfl) dX9_buy_47 ⟨Nat.zero_le _, Nat.zero_le _⟩ (fun H locs hP hD hS => ?_)
          refine lv_imul hx hb dX9_buy_50 ?_
          refine mr_icmp_ge (tgt := 227) hx hb hM dX9_buy_51 (by decide) (fun hM => ?_) (fun hM => ?_)
          · exact hK227 t_queued_6 t_payed_7 t_bestWait_8 t_bestWhom_9 t_bestCoins_10 t_state_11 t_queue_12 t_busyTo_13 t_servedIn_14 hM _ _ hP hD hS ls (lv_sub hl [0, 2] rfl)
          · refine lv_iload_n hx hb dX9_buy_54 rfl (lv_at hl 3 rfl) ?_
            refine lv_bipush (v := 7) hx hb dX9_buy_55 (by decide) ?_
            refine lv_idiv hx hb dX9_buy_57 (by decide) ?_
            refine mr_nmI hM (fun x4_16 hM => ?_)
            refine lv_istore (lv' := [(4, .int x4_16), (0, .ref qt), (1, .int p1), (2, .int p2), (3, .int x3_5)]) hx hb dX9_buy_58 hl (by decide) rfl (fun ls hl => ?_)
            refine lv_iload_n hx hb dX9_buy_60 rfl (lv_at hl 4 rfl) ?_
            refine lv_bipush (v := 7) hx hb dX9_buy_61 (by decide) ?_
            refine lv_irem hx hb dX9_buy_63 (by decide) ?_
            refine mr_nmI hM (fun x5_17 hM => ?_)
            refine lv_istore (lv' := [(5, .int x5_17), (4, .int x4_16), (0, .ref qt), (1, .int p1), (2, .int p2), (3, .int x3_5)]) hx hb dX9_buy_64 hl (by decide) rfl (fun ls hl => ?_)
            refine lv_iload hx hb dX9_buy_66 (lv_at hl 0 rfl) ?_
            refine lv_aload_n hx hb dX9_buy_68 rfl (lv_at hl 2 rfl) ?_
            obtain ⟨o_18, hc, hM⟩ := bind_so hM
            refine mr_callVi (As := []) (rest := [.int x5_17]) (wr := []) ⟨hx, hb, hml, hown, hts⟩ (k_Mod_many l D cI cB cZ cS cT qt qt_state qt_readPage qt_tape qt_cuts qt_letters qt_queue qt_busyTo qt_servedIn qt_waysOn qt_costOn qt_aheads qt_seen qt_isKept qt_lanes qt_lengths qt_cells t_hasLaw t_hasCounters t_highest t_taped t_fault t_broken t_brokenAt t_spot t_here t_token t_value t_queued_6 t_payed_7 t_bestWait_8 t_bestWhom_9 t_bestCoins_10 t_seenMany t_torn t_state_11 t_readPage t_tape t_cuts t_letters t_queue_12 t_busyTo_13 t_servedIn_14 t_waysOn t_costOn t_aheads t_seen t_isKept t_lanes t_lengths t_cells  _ hc) (cwV 0 hts gX9_buy_X9_many rfl rfl rfl (by decide +kernel) ⟨Nat.le_of_ble_eq_true rfl, Nat.le_of_ble_eq_true rfl⟩) hK hP hD hS hA [0, 1, 2, 3, 4, 5, 6, 7, 8, 9, 10, 11, 12, 13, 14, 15, 16] [] [0, 1, 2, 3, 4, 5, 6, 7, 8, 9, 10, 11, 12, 13, 14, 15, 16] (w_Mod cI cB cZ cS cT qt qt_state qt_readPage qt_tape qt_cuts qt_letters qt_queue qt_busyTo qt_servedIn qt_waysOn qt_costOn qt_aheads qt_seen qt_isKept qt_lanes qt_lengths qt_cells t_hasLaw t_hasCounters t_highest t_taped t_fault t_broken t_brokenAt t_spot t_here t_token t_value t_queued_6 t_payed_7 t_bestWait_8 t_bestWhom_9 t_bestCoins_10 t_seenMany t_torn t_state_11 t_readPage t_tape t_cuts t_letters t_queue_12 t_busyTo_13 t_servedIn_14 t_waysOn t_costOn t_aheads t_seen t_isKept t_lanes t_lengths t_cells) rfl rfl rfl rfl (by decide) rfl rfl 9 0 rfl rfl rfl rfl hl.1 rfl (Nat.le_of_ble_eq_true rfl) dX9_buy_69 ⟨Nat.zero_le _, Nat.zero_le _⟩ (fun H locs hP hD hS => ?_)
            refine mr_icmp_ge (tgt := 221) hx hb hM dX9_buy_72 (by decide) (fun hM => ?_) (fun hM => ?_)
            · refine mr_iinc (k := 5) (d := 1) hx hb (fun x3_19 => [(3, .int x3_19), (5, .int x5_17), (4, .int x4_16), (0, .ref qt), (1, .int p1), (2, .int p2)]) hM (by decide) dX9_buy_221 hl rfl (by decide) (fun _ => rfl) (fun x3_19 hM ls hl => ?_)
              refine lv_goto (tgt := 43) hx hb dX9_buy_224 (by decide) ?_
              exact ih x3_19 t_queued_6 t_payed_7 t_bestWait_8 t_bestWhom_9 t_bestCoins_10 t_state_11 t_queue_12 t_busyTo_13 t_servedIn_14 hM _ _ hP hD hS ls (lv_sub hl [3, 4, 5, 0] rfl)
            · refine lv_iload hx hb dX9_buy_75 (lv_at hl 1 rfl) ?_
              refine lv_iload hx hb dX9_buy_77 (lv_at hl 0 rfl) ?_
              refine mr_icmp_eq (tgt := 221) hx hb hM dX9_buy_79 (by decide) (fun hM => ?_) (fun hM => ?_)
              · refine mr_iinc (k := 5) (d := 1) hx hb (fun x3_20 => [(3, .int x3_20), (5, .int x5_17), (4, .int x4_16), (0, .ref qt), (1, .int p1), (2, .int p2)]) hM (by decide) dX9_buy_221 hl rfl (by decide) (fun _ => rfl) (fun x3_20 hM ls hl => ?_)
                refine lv_goto (tgt := 43) hx hb dX9_buy_224 (by decide) ?_
                exact ih x3_20 t_queued_6 t_payed_7 t_bestWait_8 t_bestWhom_9 t_bestCoins_10 t_state_11 t_queue_12 t_busyTo_13 t_servedIn_14 hM _ _ hP hD hS ls (lv_sub hl [3, 4, 5, 0] rfl)
              · refine lv_iload hx hb dX9_buy_82 (lv_at hl 1 rfl) ?_
                refine lv_iload_n hx hb dX9_buy_84 rfl (lv_at hl 3 rfl) ?_
                refine mr_icmp_eq (tgt := 221) hx hb hM dX9_buy_85 (by decide) (fun hM => ?_) (fun hM => ?_)
                · refine mr_iinc (k := 5) (d := 1) hx hb (fun x3_21 => [(3, .int x3_21), (5, .int x5_17), (4, .int x4_16), (0, .ref qt), (1, .int p1), (2, .int p2)]) hM (by decide) dX9_buy_221 hl rfl (by decide) (fun _ => rfl) (fun x3_21 hM ls hl => ?_)
                  refine lv_goto (tgt := 43) hx hb dX9_buy_224 (by decide) ?_
                  exact ih x3_21 t_queued_6 t_payed_7 t_bestWait_8 t_bestWhom_9 t_bestCoins_10 t_state_11 t_queue_12 t_busyTo_13 t_servedIn_14 hM _ _ hP hD hS ls (lv_sub hl [3, 4, 5, 0] rfl)
                · refine lv_iload hx hb dX9_buy_88 (lv_at hl 0 rfl) ?_
                  refine lv_iload_n hx hb dX9_buy_90 rfl (lv_at hl 3 rfl) ?_
                  refine mr_icmp_eq (tgt := 221) hx hb hM dX9_buy_91 (by decide) (fun hM => ?_) (fun hM => ?_)
                  · refine mr_iinc (k := 5) (d := 1) hx hb (fun x3_22 => [(3, .int x3_22), (5, .int x5_17), (4, .int x4_16), (0, .ref qt), (1, .int p1), (2, .int p2)]) hM (by decide) dX9_buy_221 hl rfl (by decide) (fun _ => rfl) (fun x3_22 hM ls hl => ?_)
                    refine lv_goto (tgt := 43) hx hb dX9_buy_224 (by decide) ?_
                    exact ih x3_22 t_queued_6 t_payed_7 t_bestWait_8 t_bestWhom_9 t_bestCoins_10 t_state_11 t_queue_12 t_busyTo_13 t_servedIn_14 hM _ _ hP hD hS ls (lv_sub hl [3, 4, 5, 0] rfl)
                  · refine lv_aload_n hx hb dX9_buy_94 rfl (lv_at hl 2 rfl) ?_
                    refine va_get (D := D) (ci := 9) (v := .ref qt_state) (C := RX9) (T := TX9) (N := 34) hx hb hts inX9w hown hK hP 0 rfl rfl 0 (by decide) hf7 (fun _ h9 => h9) rfl dX9_buy_95 ?_
                    refine lv_iload hx hb dX9_buy_98 (lv_at hl 1 rfl) ?_
                    refine lv_iload hx hb dX9_buy_100 (lv_at hl 0 rfl) ?_
                    obtain ⟨o_23, hc, hM⟩ := bind_so hM
                    refine mr_callSi (As := [.int x4_16, .int x5_17]) (rest := [.ref qt_state]) ⟨hx, hb, hml, hown, hts⟩ (k_Mod_debtAt l D cI cB cZ cS cT   x4_16 x5_17 _ hc) (cwS 2 hts gX9_buy_X9_debtAt rfl rfl rfl (by decide +kernel) ⟨Nat.le_of_ble_eq_true rfl, Nat.le_of_ble_eq_true rfl⟩) hK hP hD hS hA rfl hl.1 rfl (Nat.le_of_ble_eq_true rfl) dX9_buy_102 ⟨Nat.zero_le _, Nat.zero_le _⟩ (fun H locs hP hS => ?_)
                    refine mr_iald hx hb hK hP 1 0 rfl rfl hM dX9_buy_105 (fun v_24 hM => ?_)
                    refine lv_istore (lv' := [(6, .int v_24), (5, .int x5_17), (4, .int x4_16), (0, .ref qt), (1, .int p1), (2, .int p2), (3, .int x3_5)]) hx hb dX9_buy_106 hl (by decide) rfl (fun ls hl => ?_)
                    refine lv_iload hx hb dX9_buy_108 (lv_at hl 0 rfl) ?_
                    refine mr_if_le (tgt := 221) hx hb hM dX9_buy_110 (by decide) (fun hM => ?_) (fun hM => ?_)
                    · refine mr_iinc (k := 6) (d := 1) hx hb (fun x3_25 => [(3, .int x3_25), (6, .int v_24), (5, .int x5_17), (4, .int x4_16), (0, .ref qt), (1, .int p1), (2, .int p2)]) hM (by decide) dX9_buy_221 hl rfl (by decide) (fun _ => rfl) (fun x3_25 hM ls hl => ?_)
                      refine lv_goto (tgt := 43) hx hb dX9_buy_224 (by decide) ?_
                      exact ih x3_25 t_queued_6 t_payed_7 t_bestWait_8 t_bestWhom_9 t_bestCoins_10 t_state_11 t_queue_12 t_busyTo_13 t_servedIn_14 hM _ _ hP hD hS ls (lv_sub hl [4, 5, 6, 0] rfl)
                    · refine lv_iload hx hb dX9_buy_113 (lv_at hl 0 rfl) ?_
                      refine lv_aload_n hx hb dX9_buy_115 rfl (lv_at hl 3 rfl) ?_
                      refine va_get (D := D) (ci := 9) (v := .ref qt_state) (C := RX9) (T := TX9) (N := 34) hx hb hts inX9w hown hK hP 0 rfl rfl 0 (by decide) hf7 (fun _ h9 => h9) rfl dX9_buy_116 ?_
                      refine lv_bipush (v := 6) hx hb dX9_buy_119 (by decide) ?_
                      refine lv_iload_n hx hb dX9_buy_121 rfl (lv_at hl 4 rfl) ?_
                      refine lv_imul hx hb dX9_buy_122 ?_
                      refine lv_iconst (v := 4) hx hb dX9_buy_123 (by decide) ?_
                      refine lv_iadd hx hb dX9_buy_124 ?_
                      refine mr_iald hx hb hK hP 1 0 rfl rfl hM dX9_buy_125 (fun v_26 hM => ?_)
                      refine mr_icmp_gt (tgt := 221) hx hb hM dX9_buy_126 (by decide) (fun hM => ?_) (fun hM => ?_)
                      · refine mr_iinc (k := 6) (d := 1) hx hb (fun x3_27 => [(3, .int x3_27), (6, .int v_24), (5, .int x5_17), (4, .int x4_16), (0, .ref qt), (1, .int p1), (2, .int p2)]) hM (by decide) dX9_buy_221 hl rfl (by decide) (fun _ => rfl) (fun x3_27 hM ls hl => ?_)
                        refine lv_goto (tgt := 43) hx hb dX9_buy_224 (by decide) ?_
                        exact ih x3_27 t_queued_6 t_payed_7 t_bestWait_8 t_bestWhom_9 t_bestCoins_10 t_state_11 t_queue_12 t_busyTo_13 t_servedIn_14 hM _ _ hP hD hS ls (lv_sub hl [4, 5, 6, 0] rfl)
                      · refine lv_aload_n hx hb dX9_buy_129 rfl (lv_at hl 3 rfl) ?_
                        refine va_get (D := D) (ci := 9) (v := .ref qt_state) (C := RX9) (T := TX9) (N := 34) hx hb hts inX9w hown hK hP 0 rfl rfl 0 (by decide) hf7 (fun _ h9 => h9) rfl dX9_buy_130 ?_
                        refine lv_iload hx hb dX9_buy_133 (lv_at hl 2 rfl) ?_
                        refine lv_iload_n hx hb dX9_buy_135 rfl (lv_at hl 4 rfl) ?_
                        obtain ⟨o_28, hc, hM⟩ := bind_so hM
                        refine mr_callSi (As := [.int x4_16, .int p1]) (rest := [.ref qt_state]) ⟨hx, hb, hml, hown, hts⟩ (k_Mod_debtAt l D cI cB cZ cS cT   x4_16 p1 _ hc) (cwS 2 hts gX9_buy_X9_debtAt rfl rfl rfl (by decide +kernel) ⟨Nat.le_of_ble_eq_true rfl, Nat.le_of_ble_eq_true rfl⟩) hK hP hD hS hA rfl hl.1 rfl (Nat.le_of_ble_eq_true rfl) dX9_buy_136 ⟨Nat.zero_le _, Nat.zero_le _⟩ (fun H locs hP hS => ?_)
                        refine mr_iald hx hb hK hP 1 0 rfl rfl hM dX9_buy_139 (fun v_29 hM => ?_)
                        refine lv_iload hx hb dX9_buy_140 (lv_at hl 0 rfl) ?_
                        refine lv_iadd hx hb dX9_buy_142 ?_
                        refine lv_sipush (v := 999) hx hb dX9_buy_143 (by decide) ?_
                        refine mr_icmp_gt (tgt := 221) hx hb hM dX9_buy_146 (by decide) (fun hM => ?_) (fun hM => ?_)
                        · refine mr_iinc (k := 6) (d := 1) hx hb (fun x3_30 => [(3, .int x3_30), (6, .int v_24), (5, .int x5_17), (4, .int x4_16), (0, .ref qt), (1, .int p1), (2, .int p2)]) hM (by decide) dX9_buy_221 hl rfl (by decide) (fun _ => rfl) (fun x3_30 hM ls hl => ?_)
                          refine lv_goto (tgt := 43) hx hb dX9_buy_224 (by decide) ?_
                          exact ih x3_30 t_queued_6 t_payed_7 t_bestWait_8 t_bestWhom_9 t_bestCoins_10 t_state_11 t_queue_12 t_busyTo_13 t_servedIn_14 hM _ _ hP hD hS ls (lv_sub hl [4, 5, 6, 0] rfl)
                        · refine lv_aload_n hx hb dX9_buy_149 rfl (lv_at hl 3 rfl) ?_
                          refine lv_iconst (v := 0) hx hb dX9_buy_150 (by decide) ?_
                          refine lv_sipush (v := 282) hx hb dX9_buy_151 (by decide) ?_
                          obtain ⟨o_31, hc, hM⟩ := bind_so hM
                          refine mr_callVv (As := [.int 0, .int 282]) (rest := []) (wr := []) ⟨hx, hb, hml, hown, hts⟩ (k_Mod_copies l D cI cB cZ cS cT qt qt_state qt_readPage qt_tape qt_cuts qt_letters qt_queue qt_busyTo qt_servedIn qt_waysOn qt_costOn qt_aheads qt_seen qt_isKept qt_lanes qt_lengths qt_cells t_hasLaw t_hasCounters t_highest t_taped t_fault t_broken t_brokenAt t_spot t_here t_token t_value t_queued_6 t_payed_7 t_bestWait_8 t_bestWhom_9 t_bestCoins_10 t_seenMany t_torn t_state_11 t_readPage t_tape t_cuts t_letters t_queue_12 t_busyTo_13 t_servedIn_14 t_waysOn t_costOn t_aheads t_seen t_isKept t_lanes t_lengths t_cells 0 282 _ hc) (cwV 2 hts gX9_buy_X9_copies rfl rfl rfl (by decide +kernel) ⟨Nat.le_of_ble_eq_true rfl, Nat.le_of_ble_eq_true rfl⟩) hK hP hD hS hA [0, 1, 2, 3, 4, 5, 6, 7, 8, 9, 10, 11, 12, 13, 14, 15, 16] [] [0, 1, 2, 3, 4, 5, 6, 7, 8, 9, 10, 11, 12, 13, 14, 15, 16] (w_Mod cI cB cZ cS cT qt qt_state qt_readPage qt_tape qt_cuts qt_letters qt_queue qt_busyTo qt_servedIn qt_waysOn qt_costOn qt_aheads qt_seen qt_isKept qt_lanes qt_lengths qt_cells t_hasLaw t_hasCounters t_highest t_taped t_fault t_broken t_brokenAt t_spot t_here t_token t_value t_queued_6 t_payed_7 t_bestWait_8 t_bestWhom_9 t_bestCoins_10 t_seenMany t_torn o_31 t_readPage t_tape t_cuts t_letters t_queue_12 t_busyTo_13 t_servedIn_14 t_waysOn t_costOn t_aheads t_seen t_isKept t_lanes t_lengths t_cells) rfl rfl rfl rfl (by decide) rfl rfl 9 0 rfl rfl rfl rfl hl.1 rfl (Nat.le_of_ble_eq_true rfl) dX9_buy_154 ⟨Nat.zero_le _, Nat.zero_le _⟩ (fun H locs hP hD hS => ?_)
                          refine lv_aload_n hx hb dX9_buy_157 rfl (lv_at hl 3 rfl) ?_
                          refine lv_sipush (v := 282) hx hb dX9_buy_158 (by decide) ?_
                          refine lv_iload_n hx hb dX9_buy_161 rfl (lv_at hl 4 rfl) ?_
                          refine lv_iload hx hb dX9_buy_162 (lv_at hl 1 rfl) ?_
                          refine lv_iload hx hb dX9_buy_164 (lv_at hl 0 rfl) ?_
                          obtain ⟨o_32, hc, hM⟩ := bind_so hM
                          refine mr_callVv (As := [.int 282, .int p1, .int x5_17, .int v_24]) (rest := []) (wr := []) ⟨hx, hb, hml, hown, hts⟩ (k_Mod_gives l D cI cB cZ cS cT qt qt_state qt_readPage qt_tape qt_cuts qt_letters qt_queue qt_busyTo qt_servedIn qt_waysOn qt_costOn qt_aheads qt_seen qt_isKept qt_lanes qt_lengths qt_cells t_hasLaw t_hasCounters t_highest t_taped t_fault t_broken t_brokenAt t_spot t_here t_token t_value t_queued_6 t_payed_7 t_bestWait_8 t_bestWhom_9 t_bestCoins_10 t_seenMany t_torn o_31 t_readPage t_tape t_cuts t_letters t_queue_12 t_busyTo_13 t_servedIn_14 t_waysOn t_costOn t_aheads t_seen t_isKept t_lanes t_lengths t_cells 282 p1 x5_17 v_24 _ hc) (cwV 4 hts gX9_buy_X9_gives rfl rfl rfl (by decide +kernel) ⟨Nat.le_of_ble_eq_true rfl, Nat.le_of_ble_eq_true rfl⟩) hK hP hD hS hA [0, 1, 2, 3, 4, 5, 6, 7, 8, 9, 10, 11, 12, 13, 14, 15, 16] [] [0, 1, 2, 3, 4, 5, 6, 7, 8, 9, 10, 11, 12, 13, 14, 15, 16] (w_Mod cI cB cZ cS cT qt qt_state qt_readPage qt_tape qt_cuts qt_letters qt_queue qt_busyTo qt_servedIn qt_waysOn qt_costOn qt_aheads qt_seen qt_isKept qt_lanes qt_lengths qt_cells t_hasLaw t_hasCounters t_highest t_taped t_fault t_broken t_brokenAt t_spot t_here t_token t_value t_queued_6 t_payed_7 t_bestWait_8 t_bestWhom_9 t_bestCoins_10 t_seenMany t_torn o_32 t_readPage t_tape t_cuts t_letters t_queue_12 t_busyTo_13 t_servedIn_14 t_waysOn t_costOn t_aheads t_seen t_isKept t_lanes t_lengths t_cells) rfl rfl rfl rfl (by decide) rfl rfl 9 0 rfl rfl rfl rfl hl.1 rfl (Nat.le_of_ble_eq_true rfl) dX9_buy_166 ⟨Nat.zero_le _, Nat.zero_le _⟩ (fun H locs hP hD hS => ?_)
                          refine lv_aload_n hx hb dX9_buy_169 rfl (lv_at hl 3 rfl) ?_
                          refine va_get (D := D) (ci := 9) (v := .ref qt_state) (C := RX9) (T := TX9) (N := 34) hx hb hts inX9w hown hK hP 0 rfl rfl 0 (by decide) hf7 (fun _ h9 => h9) rfl dX9_buy_170 ?_
                          refine lv_sipush (v := 282) hx hb dX9_buy_173 (by decide) ?_
                          refine lv_iload hx hb dX9_buy_176 (lv_at hl 2 rfl) ?_
                          refine lv_iload hx hb dX9_buy_178 (lv_at hl 1 rfl) ?_
                          obtain ⟨o_33, hc, hM⟩ := bind_so hM
                          refine mr_callSi (As := [.int x4_16, .int x5_17]) (rest := [.int 282, .ref qt_state]) ⟨hx, hb, hml, hown, hts⟩ (k_Mod_debtAt l D cI cB cZ cS cT   x4_16 x5_17 _ hc) (cwS 2 hts gX9_buy_X9_debtAt rfl rfl rfl (by decide +kernel) ⟨Nat.le_of_ble_eq_true rfl, Nat.le_of_ble_eq_true rfl⟩) hK hP hD hS hA rfl hl.1 rfl (Nat.le_of_ble_eq_true rfl) dX9_buy_180 ⟨Nat.zero_le _, Nat.zero_le _⟩ (fun H locs hP hS => ?_)
                          refine lv_iadd hx hb dX9_buy_183 ?_
                          refine lv_iconst (v := 0) hx hb dX9_buy_184 (by decide) ?_
                          refine mr_iast hx hb hK hP hD hS 1 0 (fun t_state_34 => (w_Mod cI cB cZ cS cT qt qt_state qt_readPage qt_tape qt_cuts qt_letters qt_queue qt_busyTo qt_servedIn qt_waysOn qt_costOn qt_aheads qt_seen qt_isKept qt_lanes qt_lengths qt_cells t_hasLaw t_hasCounters t_highest t_taped t_fault t_broken t_brokenAt t_spot t_here t_token t_value t_queued_6 t_payed_7 t_bestWait_8 t_bestWhom_9 t_bestCoins_10 t_seenMany t_torn t_state_34 t_readPage t_tape t_cuts t_letters t_queue_12 t_busyTo_13 t_servedIn_14 t_waysOn t_costOn t_aheads t_seen t_isKept t_lanes t_lengths t_cells)) rfl rfl (fun _ => rfl) hM dX9_buy_185 (fun t_state_34 hM H locs hP hD hS => ?_)
                          refine lv_aload_n hx hb dX9_buy_186 rfl (lv_at hl 3 rfl) ?_
                          refine va_get (D := D) (ci := 9) (v := .ref qt_state) (C := RX9) (T := TX9) (N := 34) hx hb hts inX9w hown hK hP 0 rfl rfl 0 (by decide) hf7 (fun _ h9 => h9) rfl dX9_buy_187 ?_
                          refine lv_sipush (v := 282) hx hb dX9_buy_190 (by decide) ?_
                          refine lv_iload hx hb dX9_buy_193 (lv_at hl 2 rfl) ?_
                          refine lv_iload_n hx hb dX9_buy_195 rfl (lv_at hl 4 rfl) ?_
                          obtain ⟨o_35, hc, hM⟩ := bind_so hM
                          refine mr_callSi (As := [.int x4_16, .int p1]) (rest := [.int 282, .ref qt_state]) ⟨hx, hb, hml, hown, hts⟩ (k_Mod_debtAt l D cI cB cZ cS cT   x4_16 p1 _ hc) (cwS 2 hts gX9_buy_X9_debtAt rfl rfl rfl (by decide +kernel) ⟨Nat.le_of_ble_eq_true rfl, Nat.le_of_ble_eq_true rfl⟩) hK hP hD hS hA rfl hl.1 rfl (Nat.le_of_ble_eq_true rfl) dX9_buy_196 ⟨Nat.zero_le _, Nat.zero_le _⟩ (fun H locs hP hS => ?_)
                          refine lv_iadd hx hb dX9_buy_199 ?_
                          refine mr_nmI hM (fun v_36 hM => ?_)
                          refine lv_dup2_11 hx hb dX9_buy_200 rfl rfl ?_
                          refine mr_iald hx hb hK hP 1 0 rfl rfl hM dX9_buy_201 (fun v_37 hM => ?_)
                          refine lv_iload hx hb dX9_buy_202 (lv_at hl 0 rfl) ?_
                          refine lv_iadd hx hb dX9_buy_204 ?_
                          refine mr_iast hx hb hK hP hD hS 1 0 (fun t_state_38 => (w_Mod cI cB cZ cS cT qt qt_state qt_readPage qt_tape qt_cuts qt_letters qt_queue qt_busyTo qt_servedIn qt_waysOn qt_costOn qt_aheads qt_seen qt_isKept qt_lanes qt_lengths qt_cells t_hasLaw t_hasCounters t_highest t_taped t_fault t_broken t_brokenAt t_spot t_here t_token t_value t_queued_6 t_payed_7 t_bestWait_8 t_bestWhom_9 t_bestCoins_10 t_seenMany t_torn t_state_38 t_readPage t_tape t_cuts t_letters t_queue_12 t_busyTo_13 t_servedIn_14 t_waysOn t_costOn t_aheads t_seen t_isKept t_lanes t_lengths t_cells)) rfl rfl (fun _ => rfl) hM dX9_buy_205 (fun t_state_38 hM H locs hP hD hS => ?_)
                          refine lv_aload_n hx hb dX9_buy_206 rfl (lv_at hl 3 rfl) ?_
                          refine lv_iload_n hx hb dX9_buy_207 rfl (lv_at hl 4 rfl) ?_
                          refine lv_bipush (v := 10) hx hb dX9_buy_208 (by decide) ?_
                          refine lv_iload hx hb dX9_buy_210 (lv_at hl 2 rfl) ?_
                          refine lv_imul hx hb dX9_buy_212 ?_
                          refine lv_iload hx hb dX9_buy_213 (lv_at hl 1 rfl) ?_
                          refine lv_iadd hx hb dX9_buy_215 ?_
                          refine lv_iload hx hb dX9_buy_216 (lv_at hl 0 rfl) ?_
                          obtain ⟨o_39, hc, hM⟩ := bind_so hM
                          refine mr_callVv (As := [.int p1, .int ((10 * x4_16) + x5_17), .int v_24]) (rest := []) (wr := []) ⟨hx, hb, hml, hown, hts⟩ (k_Mod_tries l D cI cB cZ cS cT qt qt_state qt_readPage qt_tape qt_cuts qt_letters qt_queue qt_busyTo qt_servedIn qt_waysOn qt_costOn qt_aheads qt_seen qt_isKept qt_lanes qt_lengths qt_cells t_hasLaw t_hasCounters t_highest t_taped t_fault t_broken t_brokenAt t_spot t_here t_token t_value t_queued_6 t_payed_7 t_bestWait_8 t_bestWhom_9 t_bestCoins_10 t_seenMany t_torn t_state_38 t_readPage t_tape t_cuts t_letters t_queue_12 t_busyTo_13 t_servedIn_14 t_waysOn t_costOn t_aheads t_seen t_isKept t_lanes t_lengths t_cells p1 ((10 * x4_16) + x5_17) v_24 _ hc) (cwV 3 hts gX9_buy_X9_tries rfl rfl rfl (by decide +kernel) ⟨Nat.le_of_ble_eq_true rfl, Nat.le_of_ble_eq_true rfl⟩) hK hP hD hS hA [0, 1, 2, 3, 4, 5, 6, 7, 8, 9, 10, 11, 12, 13, 14, 15, 16] [] [0, 1, 2, 3, 4, 5, 6, 7, 8, 9, 10, 11, 12, 13, 14, 15, 16] (w_Mod cI cB cZ cS cT qt qt_state qt_readPage qt_tape qt_cuts qt_letters qt_queue qt_busyTo qt_servedIn qt_waysOn qt_costOn qt_aheads qt_seen qt_isKept qt_lanes qt_lengths qt_cells t_hasLaw t_hasCounters t_highest t_taped t_fault t_broken t_brokenAt t_spot t_here t_token t_value o_39.1 o_39.2.1 o_39.2.2.1 o_39.2.2.2.1 o_39.2.2.2.2.1 t_seenMany t_torn o_39.2.2.2.2.2.1 t_readPage t_tape t_cuts t_letters o_39.2.2.2.2.2.2.1 o_39.2.2.2.2.2.2.2.1 o_39.2.2.2.2.2.2.2.2 t_waysOn t_costOn t_aheads t_seen t_isKept t_lanes t_lengths t_cells) rfl rfl rfl rfl (by decide) rfl rfl 9 0 rfl rfl rfl rfl hl.1 rfl (Nat.le_of_ble_eq_true rfl) dX9_buy_218 ⟨Nat.zero_le _, Nat.zero_le _⟩ (fun H locs hP hD hS => ?_)
                          refine mr_iinc (k := 6) (d := 1) hx hb (fun x3_40 => [(3, .int x3_40), (6, .int v_24), (5, .int x5_17), (4, .int x4_16), (0, .ref qt), (1, .int p1), (2, .int p2)]) hM (by decide) dX9_buy_221 hl rfl (by decide) (fun _ => rfl) (fun x3_40 hM ls hl => ?_)
                          refine lv_goto (tgt := 43) hx hb dX9_buy_224 (by decide) ?_
                          exact ih x3_40 o_39.1 o_39.2.1 o_39.2.2.1 o_39.2.2.2.1 o_39.2.2.2.2.1 o_39.2.2.2.2.2.1 o_39.2.2.2.2.2.2.1 o_39.2.2.2.2.2.2.2.1 o_39.2.2.2.2.2.2.2.2 hM _ _ hP hD hS ls (lv_sub hl [4, 5, 6, 0] rfl)
      refine hL43 _ (fun t_queued_41 t_payed_42 t_bestWait_43 t_bestWhom_44 t_bestCoins_45 t_state_46 t_queue_47 t_busyTo_48 t_servedIn_49 hM H locs hP hD hS ls hl => ?_) _ 0 o_3.1 o_3.2.1 o_4 (-4) t_bestCoins o_3.2.2.1 o_3.2.2.2.1 o_3.2.2.2.2.1 o_3.2.2.2.2.2 hM _ _ hP hD hS ls (lv_sub hl [1, 2, 3, 0] rfl)
      refine lv_aload_n hx hb dX9_buy_227 rfl (lv_at hl 0 rfl) ?_
      refine lv_iload_n hx hb dX9_buy_228 rfl (lv_at hl 1 rfl) ?_
      obtain ⟨o_50, hc, hM⟩ := bind_so hM
      refine mr_callVi (As := [.int p2]) (rest := []) (wr := []) ⟨hx, hb, hml, hown, hts⟩ (k_Mod_best l D cI cB cZ cS cT qt qt_state qt_readPage qt_tape qt_cuts qt_letters qt_queue qt_busyTo qt_servedIn qt_waysOn qt_costOn qt_aheads qt_seen qt_isKept qt_lanes qt_lengths qt_cells t_hasLaw t_hasCounters t_highest t_taped t_fault t_broken t_brokenAt t_spot t_here t_token t_value t_queued_41 t_payed_42 t_bestWait_43 t_bestWhom_44 t_bestCoins_45 t_seenMany t_torn t_state_46 t_readPage t_tape t_cuts t_letters t_queue_47 t_busyTo_48 t_servedIn_49 t_waysOn t_costOn t_aheads t_seen t_isKept t_lanes t_lengths t_cells p2 _ hc) (cwV 1 hts gX9_buy_X9_best rfl rfl rfl (by decide +kernel) ⟨Nat.le_of_ble_eq_true rfl, Nat.le_of_ble_eq_true rfl⟩) hK hP hD hS hA [0, 1, 2, 3, 4, 5, 6, 7, 8, 9, 10, 11, 12, 13, 14, 15, 16] [] [0, 1, 2, 3, 4, 5, 6, 7, 8, 9, 10, 11, 12, 13, 14, 15, 16] (w_Mod cI cB cZ cS cT qt qt_state qt_readPage qt_tape qt_cuts qt_letters qt_queue qt_busyTo qt_servedIn qt_waysOn qt_costOn qt_aheads qt_seen qt_isKept qt_lanes qt_lengths qt_cells t_hasLaw t_hasCounters t_highest t_taped t_fault t_broken t_brokenAt t_spot t_here t_token t_value t_queued_41 t_payed_42 t_bestWait_43 t_bestWhom_44 t_bestCoins_45 t_seenMany t_torn t_state_46 t_readPage t_tape t_cuts t_letters t_queue_47 t_busyTo_48 t_servedIn_49 t_waysOn t_costOn t_aheads t_seen t_isKept t_lanes t_lengths t_cells) rfl rfl rfl rfl (by decide) rfl rfl 9 0 rfl rfl rfl rfl hl.1 rfl (Nat.le_of_ble_eq_true rfl) dX9_buy_229 ⟨Nat.zero_le _, Nat.zero_le _⟩ (fun H locs hP hD hS => ?_)
      have hM := Option.some.inj hM
      subst hM
      exact mr_iret hx hb hr hlocks hQ hP hD hS rfl dX9_buy_232
    · refine lv_iconst (v := (-1)) hx hb dX9_buy_20 (by decide) ?_
      have hM := Option.some.inj hM
      subst hM
      exact mr_iret hx hb hr hlocks hQ hP hD hS rfl dX9_buy_21

abbrev rmX9_seenAt : Room := { frames := 0, cells := 0, slots := 0, locals := 0 }
set_option maxHeartbeats 40000000 in
set_option maxRecDepth 100000 in
theorem k_Mod_seenAt (l : Launch) (D : va_G) (cI cB cZ cS cT : ClassId) (qt qt_state qt_readPage qt_tape qt_cuts qt_letters qt_queue qt_busyTo qt_servedIn qt_waysOn qt_costOn qt_aheads qt_seen qt_isKept qt_lanes qt_lengths qt_cells : Nat) (t_hasLaw t_hasCounters t_highest t_taped t_fault t_broken t_brokenAt t_spot t_here t_token t_value t_queued t_payed t_bestWait t_bestWhom t_bestCoins t_seenMany t_torn : Int32) (t_state t_readPage t_tape t_cuts t_letters t_queue t_busyTo t_servedIn t_waysOn t_costOn t_aheads t_seen t_isKept t_lanes t_lengths t_cells : Nat → Int32) (p1 : Int32) (o : Int32) (hM : Mod_seenAt p1 t_seenMany t_seen = some o) : mtI l yX9_seenAt wsX9_seenAt rmX9_seenAt D (tys5 cI cB cZ cS cT) [.ref qt, .int p1] (w_Mod cI cB cZ cS cT qt qt_state qt_readPage qt_tape qt_cuts qt_letters qt_queue qt_busyTo qt_servedIn qt_waysOn qt_costOn qt_aheads qt_seen qt_isKept qt_lanes qt_lengths qt_cells t_hasLaw t_hasCounters t_highest t_taped t_fault t_broken t_brokenAt t_spot t_here t_token t_value t_queued t_payed t_bestWait t_bestWhom t_bestCoins t_seenMany t_torn t_state t_readPage t_tape t_cuts t_letters t_queue t_busyTo t_servedIn t_waysOn t_costOn t_aheads t_seen t_isKept t_lanes t_lengths t_cells) (w_Mod cI cB cZ cS cT qt qt_state qt_readPage qt_tape qt_cuts qt_letters qt_queue qt_busyTo qt_servedIn qt_waysOn qt_costOn qt_aheads qt_seen qt_isKept qt_lanes qt_lengths qt_cells t_hasLaw t_hasCounters t_highest t_taped t_fault t_broken t_brokenAt t_spot t_here t_token t_value t_queued t_payed t_bestWait t_bestWhom t_bestCoins t_seenMany t_torn t_state t_readPage t_tape t_cuts t_letters t_queue t_busyTo t_servedIn t_waysOn t_costOn t_aheads t_seen t_isKept t_lanes t_lengths t_cells) o := by
  refine mtI.of (cc := cX9_seenAt) (maxL := 3) (ret := (some .int)) (by decide) rfl (Nat.le_of_ble_eq_true rfl) ?_
  intro p e s m below meth c A Q av hav hQ hx hb hr hml hown hts hlocks hK hP hD hA hS ls hl
  have hown : s.vm.findClass RX9 = some m.cls := hown
  have hl : lv_has ls 3 [(0, .ref qt), (1, .int p1)] := hl
  unfold Mod_seenAt at hM
  have inX9w : ∀ w ∈ u_ws RX9 TX9 34, w ∈ wsX9_seenAt := by decide +kernel
  have hf142 := hts (.fieldLink RX9 142 "LetsInModel" "seenMany" "I") (by decide +kernel)
  have hf43 := hts (.fieldLink RX9 43 "LetsInModel" "seen" "[I") (by decide +kernel)
  refine lv_iconst (v := 0) hx hb dX9_seenAt_0 (by decide) ?_
  refine lv_istore_n (lv' := [(2, .int 0), (0, .ref qt), (1, .int p1)]) hx hb dX9_seenAt_1 rfl hl (by decide) rfl (fun ls hl => ?_)
  have hL2 : ∀ (K20 : Int32 → Option (Int32)) (K28 : Option (Int32)), (∀ (x2_4 : Int32), K20 x2_4 = some o → ∀ (H : Heap) (locs : List Loc), va_P D vwCl (w_Mod cI cB cZ cS cT qt qt_state qt_readPage qt_tape qt_cuts qt_letters qt_queue qt_busyTo qt_servedIn qt_waysOn qt_costOn qt_aheads qt_seen qt_isKept qt_lanes qt_lengths qt_cells t_hasLaw t_hasCounters t_highest t_taped t_fault t_broken t_brokenAt t_spot t_here t_token t_value t_queued t_payed t_bestWait t_bestWhom t_bestCoins t_seenMany t_torn t_state t_readPage t_tape t_cuts t_letters t_queue t_busyTo t_servedIn t_waysOn t_costOn t_aheads t_seen t_isKept t_lanes t_lengths t_cells) H → va_D A (w_Mod cI cB cZ cS cT qt qt_state qt_readPage qt_tape qt_cuts qt_letters qt_queue qt_busyTo qt_servedIn qt_waysOn qt_costOn qt_aheads qt_seen qt_isKept qt_lanes qt_lengths qt_cells t_hasLaw t_hasCounters t_highest t_taped t_fault t_broken t_brokenAt t_spot t_here t_token t_value t_queued t_payed t_bestWait t_bestWhom t_bestCoins t_seenMany t_torn t_state t_readPage t_tape t_cuts t_letters t_queue t_busyTo t_servedIn t_waysOn t_costOn t_aheads t_seen t_isKept t_lanes t_lengths t_cells) → va_S A s.heap H locs → ∀ ls : Array Slot, lv_has ls 3 [(2, .int x2_4)] → W p l e rmX9_seenAt s m av below meth c H locs 0 0 Q (F0 m 20 ls [])) → (K28  = some o → ∀ (H : Heap) (locs : List Loc), va_P D vwCl (w_Mod cI cB cZ cS cT qt qt_state qt_readPage qt_tape qt_cuts qt_letters qt_queue qt_busyTo qt_servedIn qt_waysOn qt_costOn qt_aheads qt_seen qt_isKept qt_lanes qt_lengths qt_cells t_hasLaw t_hasCounters t_highest t_taped t_fault t_broken t_brokenAt t_spot t_here t_token t_value t_queued t_payed t_bestWait t_bestWhom t_bestCoins t_seenMany t_torn t_state t_readPage t_tape t_cuts t_letters t_queue t_busyTo t_servedIn t_waysOn t_costOn t_aheads t_seen t_isKept t_lanes t_lengths t_cells) H → va_D A (w_Mod cI cB cZ cS cT qt qt_state qt_readPage qt_tape qt_cuts qt_letters qt_queue qt_busyTo qt_servedIn qt_waysOn qt_costOn qt_aheads qt_seen qt_isKept qt_lanes qt_lengths qt_cells t_hasLaw t_hasCounters t_highest t_taped t_fault t_broken t_brokenAt t_spot t_here t_token t_value t_queued t_payed t_bestWait t_bestWhom t_bestCoins t_seenMany t_torn t_state t_readPage t_tape t_cuts t_letters t_queue t_busyTo t_servedIn t_waysOn t_costOn t_aheads t_seen t_isKept t_lanes t_lengths t_cells) → va_S A s.heap H locs → ∀ ls : Array Slot, lv_has ls 3 [] → W p l e rmX9_seenAt s m av below meth c H locs 0 0 Q (F0 m 28 ls [])) → ∀ (n : Nat) (x2_1 : Int32), Mod_seenAt_L2 t_seenMany t_seen p1 K20 K28 n x2_1 = some o → ∀ (H : Heap) (locs : List Loc), va_P D vwCl (w_Mod cI cB cZ cS cT qt qt_state qt_readPage qt_tape qt_cuts qt_letters qt_queue qt_busyTo qt_servedIn qt_waysOn qt_costOn qt_aheads qt_seen qt_isKept qt_lanes qt_lengths qt_cells t_hasLaw t_hasCounters t_highest t_taped t_fault t_broken t_brokenAt t_spot t_here t_token t_value t_queued t_payed t_bestWait t_bestWhom t_bestCoins t_seenMany t_torn t_state t_readPage t_tape t_cuts t_letters t_queue t_busyTo t_servedIn t_waysOn t_costOn t_aheads t_seen t_isKept t_lanes t_lengths t_cells) H → va_D A (w_Mod cI cB cZ cS cT qt qt_state qt_readPage qt_tape qt_cuts qt_letters qt_queue qt_busyTo qt_servedIn qt_waysOn qt_costOn qt_aheads qt_seen qt_isKept qt_lanes qt_lengths qt_cells t_hasLaw t_hasCounters t_highest t_taped t_fault t_broken t_brokenAt t_spot t_here t_token t_value t_queued t_payed t_bestWait t_bestWhom t_bestCoins t_seenMany t_torn t_state t_readPage t_tape t_cuts t_letters t_queue t_busyTo t_servedIn t_waysOn t_costOn t_aheads t_seen t_isKept t_lanes t_lengths t_cells) → va_S A s.heap H locs → ∀ ls : Array Slot, lv_has ls 3 [(0, .ref qt), (1, .int p1), (2, .int x2_1)] → W p l e rmX9_seenAt s m av below meth c H locs 0 0 Q (F0 m 2 ls []) := by
    intro K20 K28 hK20 hK28 n
    induction n with
    | zero =>
      intro x2_1 hM
      rw [Mod_seenAt_L2] at hM
      cases hM
    | succ n ih =>
      intro x2_1 hM H locs hP hD hS ls hl
      rw [Mod_seenAt_L2] at hM
      refine lv_iload_n hx hb dX9_seenAt_2 rfl (lv_at hl 2 rfl) ?_
      refine lv_aload_n hx hb dX9_seenAt_3 rfl (lv_at hl 0 rfl) ?_
      refine va_get (D := D) (ci := 9) (v := .int t_seenMany) (C := RX9) (T := TX9) (N := 34) hx hb hts inX9w hown hK hP 0 rfl rfl 28 (by decide) hf142 (fun _ h9 => h9) rfl dX9_seenAt_4 ?_
      refine mr_icmp_ge (tgt := 28) hx hb hM dX9_seenAt_7 (by decide) (fun hM => ?_) (fun hM => ?_)
      · exact hK28  hM _ _ hP hD hS ls (lv_sub hl [] rfl)
      · refine lv_aload_n hx hb dX9_seenAt_10 rfl (lv_at hl 0 rfl) ?_
        refine va_get (D := D) (ci := 9) (v := .ref qt_seen) (C := RX9) (T := TX9) (N := 34) hx hb hts inX9w hown hK hP 0 rfl rfl 27 (by decide) hf43 (fun _ h9 => h9) rfl dX9_seenAt_11 ?_
        refine lv_iload_n hx hb dX9_seenAt_14 rfl (lv_at hl 2 rfl) ?_
        refine mr_iald hx hb hK hP 12 0 rfl rfl hM dX9_seenAt_15 (fun v_2 hM => ?_)
        refine lv_iload_n hx hb dX9_seenAt_16 rfl (lv_at hl 1 rfl) ?_
        refine mr_icmp_ne (tgt := 22) hx hb hM dX9_seenAt_17 (by decide) (fun hM => ?_) (fun hM => ?_)
        · refine mr_iinc (k := 2) (d := 1) hx hb (fun x2_3 => [(2, .int x2_3), (0, .ref qt), (1, .int p1)]) hM (by decide) dX9_seenAt_22 hl rfl (by decide) (fun _ => rfl) (fun x2_3 hM ls hl => ?_)
          refine lv_goto (tgt := 2) hx hb dX9_seenAt_25 (by decide) ?_
          exact ih x2_3 hM _ _ hP hD hS ls (lv_sub hl [1, 2, 0] rfl)
        · exact hK20 x2_1 hM _ _ hP hD hS ls (lv_sub hl [2] rfl)
  refine hL2 _ _ (fun x2_4 hM H locs hP hD hS ls hl => ?_) (fun  hM H locs hP hD hS ls hl => ?_) _ 0 hM _ _ hP hD hS ls (lv_sub hl [1, 2, 0] rfl)
  · refine lv_iload_n hx hb dX9_seenAt_20 rfl (lv_at hl 0 rfl) ?_
    have hM := Option.some.inj hM
    subst hM
    exact mr_iret hx hb hr hlocks hQ hP hD hS rfl dX9_seenAt_21
  · refine lv_bipush (v := (-4)) hx hb dX9_seenAt_28 (by decide) ?_
    have hM := Option.some.inj hM
    subst hM
    exact mr_iret hx hb hr hlocks hQ hP hD hS rfl dX9_seenAt_30

abbrev rmX9_see : Room := { frames := 2, cells := 0, slots := 0, locals := 46 }
set_option maxHeartbeats 40000000 in
set_option maxRecDepth 100000 in
theorem k_Mod_see (l : Launch) (D : va_G) (cI cB cZ cS cT : ClassId) (qt qt_state qt_readPage qt_tape qt_cuts qt_letters qt_queue qt_busyTo qt_servedIn qt_waysOn qt_costOn qt_aheads qt_seen qt_isKept qt_lanes qt_lengths qt_cells : Nat) (t_hasLaw t_hasCounters t_highest t_taped t_fault t_broken t_brokenAt t_spot t_here t_token t_value t_queued t_payed t_bestWait t_bestWhom t_bestCoins t_seenMany t_torn : Int32) (t_state t_readPage t_tape t_cuts t_letters t_queue t_busyTo t_servedIn t_waysOn t_costOn t_aheads t_seen t_isKept t_lanes t_lengths t_cells : Nat → Int32) (p1 : Int32) (o : Int32 × Int32 × (Nat → Int32)) (hM : Mod_see p1 t_seenMany t_state t_seen = some o) : mtI l yX9_see wsX9_see rmX9_see D (tys5 cI cB cZ cS cT) [.ref qt, .int p1] (w_Mod cI cB cZ cS cT qt qt_state qt_readPage qt_tape qt_cuts qt_letters qt_queue qt_busyTo qt_servedIn qt_waysOn qt_costOn qt_aheads qt_seen qt_isKept qt_lanes qt_lengths qt_cells t_hasLaw t_hasCounters t_highest t_taped t_fault t_broken t_brokenAt t_spot t_here t_token t_value t_queued t_payed t_bestWait t_bestWhom t_bestCoins t_seenMany t_torn t_state t_readPage t_tape t_cuts t_letters t_queue t_busyTo t_servedIn t_waysOn t_costOn t_aheads t_seen t_isKept t_lanes t_lengths t_cells) (w_Mod cI cB cZ cS cT qt qt_state qt_readPage qt_tape qt_cuts qt_letters qt_queue qt_busyTo qt_servedIn qt_waysOn qt_costOn qt_aheads qt_seen qt_isKept qt_lanes qt_lengths qt_cells t_hasLaw t_hasCounters t_highest t_taped t_fault t_broken t_brokenAt t_spot t_here t_token t_value t_queued t_payed t_bestWait t_bestWhom t_bestCoins o.2.1 t_torn t_state t_readPage t_tape t_cuts t_letters t_queue t_busyTo t_servedIn t_waysOn t_costOn t_aheads o.2.2 t_isKept t_lanes t_lengths t_cells) o.1 := by
  refine mtI.of (cc := cX9_see) (maxL := 2) (ret := (some .int)) (by decide) rfl (Nat.le_of_ble_eq_true rfl) ?_
  intro p e s m below meth c A Q av hav hQ hx hb hr hml hown hts hlocks hK hP hD hA hS ls hl
  have hown : s.vm.findClass RX9 = some m.cls := hown
  have hl : lv_has ls 2 [(0, .ref qt), (1, .int p1)] := hl
  unfold Mod_see at hM
  have inX9w : ∀ w ∈ u_ws RX9 TX9 34, w ∈ wsX9_see := by decide +kernel
  have hf43 := hts (.fieldLink RX9 43 "LetsInModel" "seen" "[I") (by decide +kernel)
  have hf142 := hts (.fieldLink RX9 142 "LetsInModel" "seenMany" "I") (by decide +kernel)
  refine lv_aload_n hx hb dX9_see_0 rfl (lv_at hl 0 rfl) ?_
  refine lv_iload_n hx hb dX9_see_1 rfl (lv_at hl 1 rfl) ?_
  obtain ⟨o_1, hc, hM⟩ := bind_so hM
  refine mr_callVi (As := [.int p1]) (rest := []) (wr := []) ⟨hx, hb, hml, hown, hts⟩ (k_Mod_isOne l D cI cB cZ cS cT qt qt_state qt_readPage qt_tape qt_cuts qt_letters qt_queue qt_busyTo qt_servedIn qt_waysOn qt_costOn qt_aheads qt_seen qt_isKept qt_lanes qt_lengths qt_cells t_hasLaw t_hasCounters t_highest t_taped t_fault t_broken t_brokenAt t_spot t_here t_token t_value t_queued t_payed t_bestWait t_bestWhom t_bestCoins t_seenMany t_torn t_state t_readPage t_tape t_cuts t_letters t_queue t_busyTo t_servedIn t_waysOn t_costOn t_aheads t_seen t_isKept t_lanes t_lengths t_cells p1 _ hc) (cwV 1 hts gX9_see_X9_isOne rfl rfl rfl (by decide +kernel) ⟨Nat.le_of_ble_eq_true rfl, Nat.le_of_ble_eq_true rfl⟩) hK hP hD hS hA [0, 1, 2, 3, 4, 5, 6, 7, 8, 9, 10, 11, 12, 13, 14, 15, 16] [] [0, 1, 2, 3, 4, 5, 6, 7, 8, 9, 10, 11, 12, 13, 14, 15, 16] (w_Mod cI cB cZ cS cT qt qt_state qt_readPage qt_tape qt_cuts qt_letters qt_queue qt_busyTo qt_servedIn qt_waysOn qt_costOn qt_aheads qt_seen qt_isKept qt_lanes qt_lengths qt_cells t_hasLaw t_hasCounters t_highest t_taped t_fault t_broken t_brokenAt t_spot t_here t_token t_value t_queued t_payed t_bestWait t_bestWhom t_bestCoins t_seenMany t_torn t_state t_readPage t_tape t_cuts t_letters t_queue t_busyTo t_servedIn t_waysOn t_costOn t_aheads t_seen t_isKept t_lanes t_lengths t_cells) rfl rfl rfl rfl (by decide) rfl rfl 9 0 rfl rfl rfl rfl hl.1 rfl (Nat.le_of_ble_eq_true rfl) dX9_see_2 ⟨Nat.zero_le _, Nat.zero_le _⟩ (fun H locs hP hD hS => ?_)
  refine mr_if_ne (tgt := 10) hx hb hM dX9_see_5 (by decide) (fun hM => ?_) (fun hM => ?_)
  · refine lv_aload_n hx hb dX9_see_10 rfl (lv_at hl 0 rfl) ?_
    refine lv_iload_n hx hb dX9_see_11 rfl (lv_at hl 1 rfl) ?_
    obtain ⟨o_2, hc, hM⟩ := bind_so hM
    refine mr_callVi (As := [.int p1]) (rest := []) (wr := []) ⟨hx, hb, hml, hown, hts⟩ (k_Mod_seenAt l D cI cB cZ cS cT qt qt_state qt_readPage qt_tape qt_cuts qt_letters qt_queue qt_busyTo qt_servedIn qt_waysOn qt_costOn qt_aheads qt_seen qt_isKept qt_lanes qt_lengths qt_cells t_hasLaw t_hasCounters t_highest t_taped t_fault t_broken t_brokenAt t_spot t_here t_token t_value t_queued t_payed t_bestWait t_bestWhom t_bestCoins t_seenMany t_torn t_state t_readPage t_tape t_cuts t_letters t_queue t_busyTo t_servedIn t_waysOn t_costOn t_aheads t_seen t_isKept t_lanes t_lengths t_cells p1 _ hc) (cwV 1 hts gX9_see_X9_seenAt rfl rfl rfl (by decide +kernel) ⟨Nat.le_of_ble_eq_true rfl, Nat.le_of_ble_eq_true rfl⟩) hK hP hD hS hA [0, 1, 2, 3, 4, 5, 6, 7, 8, 9, 10, 11, 12, 13, 14, 15, 16] [] [0, 1, 2, 3, 4, 5, 6, 7, 8, 9, 10, 11, 12, 13, 14, 15, 16] (w_Mod cI cB cZ cS cT qt qt_state qt_readPage qt_tape qt_cuts qt_letters qt_queue qt_busyTo qt_servedIn qt_waysOn qt_costOn qt_aheads qt_seen qt_isKept qt_lanes qt_lengths qt_cells t_hasLaw t_hasCounters t_highest t_taped t_fault t_broken t_brokenAt t_spot t_here t_token t_value t_queued t_payed t_bestWait t_bestWhom t_bestCoins t_seenMany t_torn t_state t_readPage t_tape t_cuts t_letters t_queue t_busyTo t_servedIn t_waysOn t_costOn t_aheads t_seen t_isKept t_lanes t_lengths t_cells) rfl rfl rfl rfl (by decide) rfl rfl 9 0 rfl rfl rfl rfl hl.1 rfl (Nat.le_of_ble_eq_true rfl) dX9_see_12 ⟨Nat.zero_le _, Nat.zero_le _⟩ (fun H locs hP hD hS => ?_)
    refine lv_bipush (v := (-4)) hx hb dX9_see_15 (by decide) ?_
    refine mr_icmp_eq (tgt := 23) hx hb hM dX9_see_17 (by decide) (fun hM => ?_) (fun hM => ?_)
    · refine lv_aload_n hx hb dX9_see_23 rfl (lv_at hl 0 rfl) ?_
      refine va_get (D := D) (ci := 9) (v := .ref qt_seen) (C := RX9) (T := TX9) (N := 34) hx hb hts inX9w hown hK hP 0 rfl rfl 27 (by decide) hf43 (fun _ h9 => h9) rfl dX9_see_24 ?_
      refine lv_aload_n hx hb dX9_see_27 rfl (lv_at hl 0 rfl) ?_
      refine va_get (D := D) (ci := 9) (v := .int t_seenMany) (C := RX9) (T := TX9) (N := 34) hx hb hts inX9w hown hK hP 0 rfl rfl 28 (by decide) hf142 (fun _ h9 => h9) rfl dX9_see_28 ?_
      refine lv_iload_n hx hb dX9_see_31 rfl (lv_at hl 1 rfl) ?_
      refine mr_iast hx hb hK hP hD hS 12 0 (fun t_seen_3 => (w_Mod cI cB cZ cS cT qt qt_state qt_readPage qt_tape qt_cuts qt_letters qt_queue qt_busyTo qt_servedIn qt_waysOn qt_costOn qt_aheads qt_seen qt_isKept qt_lanes qt_lengths qt_cells t_hasLaw t_hasCounters t_highest t_taped t_fault t_broken t_brokenAt t_spot t_here t_token t_value t_queued t_payed t_bestWait t_bestWhom t_bestCoins t_seenMany t_torn t_state t_readPage t_tape t_cuts t_letters t_queue t_busyTo t_servedIn t_waysOn t_costOn t_aheads t_seen_3 t_isKept t_lanes t_lengths t_cells)) rfl rfl (fun _ => rfl) hM dX9_see_32 (fun t_seen_3 hM H locs hP hD hS => ?_)
      refine lv_aload_n hx hb dX9_see_33 rfl (lv_at hl 0 rfl) ?_
      refine lv_dup hx hb dX9_see_34 rfl ?_
      refine va_get (D := D) (ci := 9) (v := .int t_seenMany) (C := RX9) (T := TX9) (N := 34) hx hb hts inX9w hown hK hP 0 rfl rfl 28 (by decide) hf142 (fun _ h9 => h9) rfl dX9_see_35 ?_
      refine lv_iconst (v := 1) hx hb dX9_see_38 (by decide) ?_
      refine lv_iadd hx hb dX9_see_39 ?_
      refine mr_nmI hM (fun t_seenMany_4 hM => ?_)
      refine mr_put (D := D) (ci := 9) (v := .int t_seenMany_4) (ty := .int) (C := RX9) (T := TX9) (N := 34) hx hb hts inX9w tyX9 tyX9_ok nmX9 hown hK hP hD hS 0 rfl rfl 28 (by decide) hf142 (fun _ h9 => h9) rfl (by decide +kernel) rfl rfl (Nat.le_of_ble_eq_true rfl) dX9_see_40 (w_Mod cI cB cZ cS cT qt qt_state qt_readPage qt_tape qt_cuts qt_letters qt_queue qt_busyTo qt_servedIn qt_waysOn qt_costOn qt_aheads qt_seen qt_isKept qt_lanes qt_lengths qt_cells t_hasLaw t_hasCounters t_highest t_taped t_fault t_broken t_brokenAt t_spot t_here t_token t_value t_queued t_payed t_bestWait t_bestWhom t_bestCoins t_seenMany_4 t_torn t_state t_readPage t_tape t_cuts t_letters t_queue t_busyTo t_servedIn t_waysOn t_costOn t_aheads t_seen_3 t_isKept t_lanes t_lengths t_cells) rfl (fun H locs hP hD hS => ?_)
      refine lv_aload_n hx hb dX9_see_43 rfl (lv_at hl 0 rfl) ?_
      refine va_get (D := D) (ci := 9) (v := .int t_seenMany_4) (C := RX9) (T := TX9) (N := 34) hx hb hts inX9w hown hK hP 0 rfl rfl 28 (by decide) hf142 (fun _ h9 => h9) rfl dX9_see_44 ?_
      have hM := Option.some.inj hM
      subst hM
      exact mr_iret hx hb hr hlocks hQ hP hD hS rfl dX9_see_47
    · refine lv_bipush (v := (-2)) hx hb dX9_see_20 (by decide) ?_
      have hM := Option.some.inj hM
      subst hM
      exact mr_iret hx hb hr hlocks hQ hP hD hS rfl dX9_see_22
  · refine lv_iconst (v := (-1)) hx hb dX9_see_8 (by decide) ?_
    have hM := Option.some.inj hM
    subst hM
    exact mr_iret hx hb hr hlocks hQ hP hD hS rfl dX9_see_9

abbrev rmX9_forget : Room := { frames := 0, cells := 0, slots := 0, locals := 0 }
set_option maxHeartbeats 40000000 in
set_option maxRecDepth 100000 in
theorem k_Mod_forget (l : Launch) (D : va_G) (cI cB cZ cS cT : ClassId) (qt qt_state qt_readPage qt_tape qt_cuts qt_letters qt_queue qt_busyTo qt_servedIn qt_waysOn qt_costOn qt_aheads qt_seen qt_isKept qt_lanes qt_lengths qt_cells : Nat) (t_hasLaw t_hasCounters t_highest t_taped t_fault t_broken t_brokenAt t_spot t_here t_token t_value t_queued t_payed t_bestWait t_bestWhom t_bestCoins t_seenMany t_torn : Int32) (t_state t_readPage t_tape t_cuts t_letters t_queue t_busyTo t_servedIn t_waysOn t_costOn t_aheads t_seen t_isKept t_lanes t_lengths t_cells : Nat → Int32)  (o : Int32 × Int32) (hM : Mod_forget t_seenMany = some o) : mtI l yX9_forget wsX9_forget rmX9_forget D (tys5 cI cB cZ cS cT) [.ref qt] (w_Mod cI cB cZ cS cT qt qt_state qt_readPage qt_tape qt_cuts qt_letters qt_queue qt_busyTo qt_servedIn qt_waysOn qt_costOn qt_aheads qt_seen qt_isKept qt_lanes qt_lengths qt_cells t_hasLaw t_hasCounters t_highest t_taped t_fault t_broken t_brokenAt t_spot t_here t_token t_value t_queued t_payed t_bestWait t_bestWhom t_bestCoins t_seenMany t_torn t_state t_readPage t_tape t_cuts t_letters t_queue t_busyTo t_servedIn t_waysOn t_costOn t_aheads t_seen t_isKept t_lanes t_lengths t_cells) (w_Mod cI cB cZ cS cT qt qt_state qt_readPage qt_tape qt_cuts qt_letters qt_queue qt_busyTo qt_servedIn qt_waysOn qt_costOn qt_aheads qt_seen qt_isKept qt_lanes qt_lengths qt_cells t_hasLaw t_hasCounters t_highest t_taped t_fault t_broken t_brokenAt t_spot t_here t_token t_value t_queued t_payed t_bestWait t_bestWhom t_bestCoins o.2 t_torn t_state t_readPage t_tape t_cuts t_letters t_queue t_busyTo t_servedIn t_waysOn t_costOn t_aheads t_seen t_isKept t_lanes t_lengths t_cells) o.1 := by
  refine mtI.of (cc := cX9_forget) (maxL := 2) (ret := (some .int)) (by decide) rfl (Nat.le_of_ble_eq_true rfl) ?_
  intro p e s m below meth c A Q av hav hQ hx hb hr hml hown hts hlocks hK hP hD hA hS ls hl
  have hown : s.vm.findClass RX9 = some m.cls := hown
  have hl : lv_has ls 2 [(0, .ref qt)] := hl
  unfold Mod_forget at hM
  have inX9w : ∀ w ∈ u_ws RX9 TX9 34, w ∈ wsX9_forget := by decide +kernel
  have hf142 := hts (.fieldLink RX9 142 "LetsInModel" "seenMany" "I") (by decide +kernel)
  refine lv_aload_n hx hb dX9_forget_0 rfl (lv_at hl 0 rfl) ?_
  refine va_get (D := D) (ci := 9) (v := .int t_seenMany) (C := RX9) (T := TX9) (N := 34) hx hb hts inX9w hown hK hP 0 rfl rfl 28 (by decide) hf142 (fun _ h9 => h9) rfl dX9_forget_1 ?_
  refine lv_istore_n (lv' := [(1, .int t_seenMany), (0, .ref qt)]) hx hb dX9_forget_4 rfl hl (by decide) rfl (fun ls hl => ?_)
  refine lv_aload_n hx hb dX9_forget_5 rfl (lv_at hl 1 rfl) ?_
  refine lv_iconst (v := 0) hx hb dX9_forget_6 (by decide) ?_
  refine mr_put (D := D) (ci := 9) (v := .int 0) (ty := .int) (C := RX9) (T := TX9) (N := 34) hx hb hts inX9w tyX9 tyX9_ok nmX9 hown hK hP hD hS 0 rfl rfl 28 (by decide) hf142 (fun _ h9 => h9) rfl (by decide +kernel) rfl rfl (Nat.le_of_ble_eq_true rfl) dX9_forget_7 (w_Mod cI cB cZ cS cT qt qt_state qt_readPage qt_tape qt_cuts qt_letters qt_queue qt_busyTo qt_servedIn qt_waysOn qt_costOn qt_aheads qt_seen qt_isKept qt_lanes qt_lengths qt_cells t_hasLaw t_hasCounters t_highest t_taped t_fault t_broken t_brokenAt t_spot t_here t_token t_value t_queued t_payed t_bestWait t_bestWhom t_bestCoins 0 t_torn t_state t_readPage t_tape t_cuts t_letters t_queue t_busyTo t_servedIn t_waysOn t_costOn t_aheads t_seen t_isKept t_lanes t_lengths t_cells) rfl (fun H locs hP hD hS => ?_)
  refine lv_iload_n hx hb dX9_forget_10 rfl (lv_at hl 0 rfl) ?_
  have hM := Option.some.inj hM
  subst hM
  exact mr_iret hx hb hr hlocks hQ hP hD hS rfl dX9_forget_11

abbrev rmX9_cameFirst : Room := { frames := 0, cells := 0, slots := 0, locals := 0 }
set_option maxHeartbeats 40000000 in
set_option maxRecDepth 100000 in
theorem k_Mod_cameFirst (l : Launch) (D : va_G) (cI cB cZ cS cT : ClassId) (qt qt_state qt_readPage qt_tape qt_cuts qt_letters qt_queue qt_busyTo qt_servedIn qt_waysOn qt_costOn qt_aheads qt_seen qt_isKept qt_lanes qt_lengths qt_cells : Nat) (t_hasLaw t_hasCounters t_highest t_taped t_fault t_broken t_brokenAt t_spot t_here t_token t_value t_queued t_payed t_bestWait t_bestWhom t_bestCoins t_seenMany t_torn : Int32) (t_state t_readPage t_tape t_cuts t_letters t_queue t_busyTo t_servedIn t_waysOn t_costOn t_aheads t_seen t_isKept t_lanes t_lengths t_cells : Nat → Int32) (p1 p2 : Int32) (o : Int32) (hM : Mod_cameFirst p1 p2 t_state = some o) : mtI l yX9_cameFirst wsX9_cameFirst rmX9_cameFirst D (tys5 cI cB cZ cS cT) [.ref qt, .int p1, .int p2] (w_Mod cI cB cZ cS cT qt qt_state qt_readPage qt_tape qt_cuts qt_letters qt_queue qt_busyTo qt_servedIn qt_waysOn qt_costOn qt_aheads qt_seen qt_isKept qt_lanes qt_lengths qt_cells t_hasLaw t_hasCounters t_highest t_taped t_fault t_broken t_brokenAt t_spot t_here t_token t_value t_queued t_payed t_bestWait t_bestWhom t_bestCoins t_seenMany t_torn t_state t_readPage t_tape t_cuts t_letters t_queue t_busyTo t_servedIn t_waysOn t_costOn t_aheads t_seen t_isKept t_lanes t_lengths t_cells) (w_Mod cI cB cZ cS cT qt qt_state qt_readPage qt_tape qt_cuts qt_letters qt_queue qt_busyTo qt_servedIn qt_waysOn qt_costOn qt_aheads qt_seen qt_isKept qt_lanes qt_lengths qt_cells t_hasLaw t_hasCounters t_highest t_taped t_fault t_broken t_brokenAt t_spot t_here t_token t_value t_queued t_payed t_bestWait t_bestWhom t_bestCoins t_seenMany t_torn t_state t_readPage t_tape t_cuts t_letters t_queue t_busyTo t_servedIn t_waysOn t_costOn t_aheads t_seen t_isKept t_lanes t_lengths t_cells) o := by
  refine mtI.of (cc := cX9_cameFirst) (maxL := 5) (ret := (some .boolean)) (by decide) rfl (Nat.le_of_ble_eq_true rfl) ?_
  intro p e s m below meth c A Q av hav hQ hx hb hr hml hown hts hlocks hK hP hD hA hS ls hl
  have hown : s.vm.findClass RX9 = some m.cls := hown
  have hl : lv_has ls 5 [(0, .ref qt), (1, .int p1), (2, .int p2)] := hl
  unfold Mod_cameFirst at hM
  have inX9w : ∀ w ∈ u_ws RX9 TX9 34, w ∈ wsX9_cameFirst := by decide +kernel
  have hf7 := hts (.fieldLink RX9 7 "LetsInModel" "state" "[I") (by decide +kernel)
  refine lv_aload_n hx hb dX9_cameFirst_0 rfl (lv_at hl 0 rfl) ?_
  refine va_get (D := D) (ci := 9) (v := .ref qt_state) (C := RX9) (T := TX9) (N := 34) hx hb hts inX9w hown hK hP 0 rfl rfl 0 (by decide) hf7 (fun _ h9 => h9) rfl dX9_cameFirst_1 ?_
  refine lv_bipush (v := 6) hx hb dX9_cameFirst_4 (by decide) ?_
  refine lv_iload_n hx hb dX9_cameFirst_6 rfl (lv_at hl 1 rfl) ?_
  refine lv_imul hx hb dX9_cameFirst_7 ?_
  refine lv_iconst (v := 1) hx hb dX9_cameFirst_8 (by decide) ?_
  refine lv_iadd hx hb dX9_cameFirst_9 ?_
  refine mr_iald hx hb hK hP 1 0 rfl rfl hM dX9_cameFirst_10 (fun v_1 hM => ?_)
  refine lv_istore_n (lv' := [(3, .int v_1), (0, .ref qt), (1, .int p1), (2, .int p2)]) hx hb dX9_cameFirst_11 rfl hl (by decide) rfl (fun ls hl => ?_)
  refine lv_aload_n hx hb dX9_cameFirst_12 rfl (lv_at hl 1 rfl) ?_
  refine va_get (D := D) (ci := 9) (v := .ref qt_state) (C := RX9) (T := TX9) (N := 34) hx hb hts inX9w hown hK hP 0 rfl rfl 0 (by decide) hf7 (fun _ h9 => h9) rfl dX9_cameFirst_13 ?_
  refine lv_bipush (v := 6) hx hb dX9_cameFirst_16 (by decide) ?_
  refine lv_iload_n hx hb dX9_cameFirst_18 rfl (lv_at hl 3 rfl) ?_
  refine lv_imul hx hb dX9_cameFirst_19 ?_
  refine lv_iconst (v := 1) hx hb dX9_cameFirst_20 (by decide) ?_
  refine lv_iadd hx hb dX9_cameFirst_21 ?_
  refine mr_iald hx hb hK hP 1 0 rfl rfl hM dX9_cameFirst_22 (fun v_2 hM => ?_)
  refine lv_istore (lv' := [(4, .int v_2), (3, .int v_1), (0, .ref qt), (1, .int p1), (2, .int p2)]) hx hb dX9_cameFirst_23 hl (by decide) rfl (fun ls hl => ?_)
  refine lv_iload_n hx hb dX9_cameFirst_25 rfl (lv_at hl 1 rfl) ?_
  refine lv_iload hx hb dX9_cameFirst_26 (lv_at hl 0 rfl) ?_
  refine mr_icmp_lt (tgt := 42) hx hb hM dX9_cameFirst_28 (by decide) (fun hM => ?_) (fun hM => ?_)
  · refine lv_iconst (v := 1) hx hb dX9_cameFirst_42 (by decide) ?_
    refine lv_goto (tgt := 47) hx hb dX9_cameFirst_43 (by decide) ?_
    have hM := Option.some.inj hM
    subst hM
    exact mr_zret hx hb hr (by decide) hlocks hQ hP hD hS rfl dX9_cameFirst_47
  · refine lv_iload_n hx hb dX9_cameFirst_31 rfl (lv_at hl 1 rfl) ?_
    refine lv_iload hx hb dX9_cameFirst_32 (lv_at hl 0 rfl) ?_
    refine mr_icmp_ne (tgt := 46) hx hb hM dX9_cameFirst_34 (by decide) (fun hM => ?_) (fun hM => ?_)
    · refine lv_iconst (v := 0) hx hb dX9_cameFirst_46 (by decide) ?_
      have hM := Option.some.inj hM
      subst hM
      exact mr_zret hx hb hr (by decide) hlocks hQ hP hD hS rfl dX9_cameFirst_47
    · refine lv_iload_n hx hb dX9_cameFirst_37 rfl (lv_at hl 3 rfl) ?_
      refine lv_iload_n hx hb dX9_cameFirst_38 rfl (lv_at hl 4 rfl) ?_
      refine mr_icmp_ge (tgt := 46) hx hb hM dX9_cameFirst_39 (by decide) (fun hM => ?_) (fun hM => ?_)
      · refine lv_iconst (v := 0) hx hb dX9_cameFirst_46 (by decide) ?_
        have hM := Option.some.inj hM
        subst hM
        exact mr_zret hx hb hr (by decide) hlocks hQ hP hD hS rfl dX9_cameFirst_47
      · refine lv_iconst (v := 1) hx hb dX9_cameFirst_42 (by decide) ?_
        refine lv_goto (tgt := 47) hx hb dX9_cameFirst_43 (by decide) ?_
        have hM := Option.some.inj hM
        subst hM
        exact mr_zret hx hb hr (by decide) hlocks hQ hP hD hS rfl dX9_cameFirst_47

abbrev rmX9_told : Room := { frames := 3, cells := 0, slots := 0, locals := 68 }
set_option maxHeartbeats 40000000 in
set_option maxRecDepth 100000 in
theorem k_Mod_told (l : Launch) (D : va_G) (cI cB cZ cS cT : ClassId) (qt qt_state qt_readPage qt_tape qt_cuts qt_letters qt_queue qt_busyTo qt_servedIn qt_waysOn qt_costOn qt_aheads qt_seen qt_isKept qt_lanes qt_lengths qt_cells : Nat) (t_hasLaw t_hasCounters t_highest t_taped t_fault t_broken t_brokenAt t_spot t_here t_token t_value t_queued t_payed t_bestWait t_bestWhom t_bestCoins t_seenMany t_torn : Int32) (t_state t_readPage t_tape t_cuts t_letters t_queue t_busyTo t_servedIn t_waysOn t_costOn t_aheads t_seen t_isKept t_lanes t_lengths t_cells : Nat → Int32) (p1 p2 : Int32) (o : Int32) (hM : Mod_told p1 p2 t_seenMany t_state t_seen = some o) : mtI l yX9_told wsX9_told rmX9_told D (tys5 cI cB cZ cS cT) [.ref qt, .int p1, .int p2] (w_Mod cI cB cZ cS cT qt qt_state qt_readPage qt_tape qt_cuts qt_letters qt_queue qt_busyTo qt_servedIn qt_waysOn qt_costOn qt_aheads qt_seen qt_isKept qt_lanes qt_lengths qt_cells t_hasLaw t_hasCounters t_highest t_taped t_fault t_broken t_brokenAt t_spot t_here t_token t_value t_queued t_payed t_bestWait t_bestWhom t_bestCoins t_seenMany t_torn t_state t_readPage t_tape t_cuts t_letters t_queue t_busyTo t_servedIn t_waysOn t_costOn t_aheads t_seen t_isKept t_lanes t_lengths t_cells) (w_Mod cI cB cZ cS cT qt qt_state qt_readPage qt_tape qt_cuts qt_letters qt_queue qt_busyTo qt_servedIn qt_waysOn qt_costOn qt_aheads qt_seen qt_isKept qt_lanes qt_lengths qt_cells t_hasLaw t_hasCounters t_highest t_taped t_fault t_broken t_brokenAt t_spot t_here t_token t_value t_queued t_payed t_bestWait t_bestWhom t_bestCoins t_seenMany t_torn t_state t_readPage t_tape t_cuts t_letters t_queue t_busyTo t_servedIn t_waysOn t_costOn t_aheads t_seen t_isKept t_lanes t_lengths t_cells) o := by
  refine mtI.of (cc := cX9_told) (maxL := 6) (ret := (some .int)) (by decide) rfl (Nat.le_of_ble_eq_true rfl) ?_
  intro p e s m below meth c A Q av hav hQ hx hb hr hml hown hts hlocks hK hP hD hA hS ls hl
  have hown : s.vm.findClass RX9 = some m.cls := hown
  have hl : lv_has ls 6 [(0, .ref qt), (1, .int p1), (2, .int p2)] := hl
  unfold Mod_told at hM
  have inX9w : ∀ w ∈ u_ws RX9 TX9 34, w ∈ wsX9_told := by decide +kernel
  have hf43 := hts (.fieldLink RX9 43 "LetsInModel" "seen" "[I") (by decide +kernel)
  refine lv_aload_n hx hb dX9_told_0 rfl (lv_at hl 0 rfl) ?_
  refine lv_iload_n hx hb dX9_told_1 rfl (lv_at hl 1 rfl) ?_
  refine lv_iload_n hx hb dX9_told_2 rfl (lv_at hl 2 rfl) ?_
  obtain ⟨o_1, hc, hM⟩ := bind_so hM
  refine mr_callVi (As := [.int p1, .int p2]) (rest := []) (wr := []) ⟨hx, hb, hml, hown, hts⟩ (k_Mod_areTwo l D cI cB cZ cS cT qt qt_state qt_readPage qt_tape qt_cuts qt_letters qt_queue qt_busyTo qt_servedIn qt_waysOn qt_costOn qt_aheads qt_seen qt_isKept qt_lanes qt_lengths qt_cells t_hasLaw t_hasCounters t_highest t_taped t_fault t_broken t_brokenAt t_spot t_here t_token t_value t_queued t_payed t_bestWait t_bestWhom t_bestCoins t_seenMany t_torn t_state t_readPage t_tape t_cuts t_letters t_queue t_busyTo t_servedIn t_waysOn t_costOn t_aheads t_seen t_isKept t_lanes t_lengths t_cells p1 p2 _ hc) (cwV 2 hts gX9_told_X9_areTwo rfl rfl rfl (by decide +kernel) ⟨Nat.le_of_ble_eq_true rfl, Nat.le_of_ble_eq_true rfl⟩) hK hP hD hS hA [0, 1, 2, 3, 4, 5, 6, 7, 8, 9, 10, 11, 12, 13, 14, 15, 16] [] [0, 1, 2, 3, 4, 5, 6, 7, 8, 9, 10, 11, 12, 13, 14, 15, 16] (w_Mod cI cB cZ cS cT qt qt_state qt_readPage qt_tape qt_cuts qt_letters qt_queue qt_busyTo qt_servedIn qt_waysOn qt_costOn qt_aheads qt_seen qt_isKept qt_lanes qt_lengths qt_cells t_hasLaw t_hasCounters t_highest t_taped t_fault t_broken t_brokenAt t_spot t_here t_token t_value t_queued t_payed t_bestWait t_bestWhom t_bestCoins t_seenMany t_torn t_state t_readPage t_tape t_cuts t_letters t_queue t_busyTo t_servedIn t_waysOn t_costOn t_aheads t_seen t_isKept t_lanes t_lengths t_cells) rfl rfl rfl rfl (by decide) rfl rfl 9 0 rfl rfl rfl rfl hl.1 rfl (Nat.le_of_ble_eq_true rfl) dX9_told_3 ⟨Nat.zero_le _, Nat.zero_le _⟩ (fun H locs hP hD hS => ?_)
  refine mr_if_ne (tgt := 11) hx hb hM dX9_told_6 (by decide) (fun hM => ?_) (fun hM => ?_)
  · refine lv_aload_n hx hb dX9_told_11 rfl (lv_at hl 0 rfl) ?_
    refine lv_iload_n hx hb dX9_told_12 rfl (lv_at hl 1 rfl) ?_
    obtain ⟨o_2, hc, hM⟩ := bind_so hM
    refine mr_callVi (As := [.int p1]) (rest := []) (wr := []) ⟨hx, hb, hml, hown, hts⟩ (k_Mod_seenAt l D cI cB cZ cS cT qt qt_state qt_readPage qt_tape qt_cuts qt_letters qt_queue qt_busyTo qt_servedIn qt_waysOn qt_costOn qt_aheads qt_seen qt_isKept qt_lanes qt_lengths qt_cells t_hasLaw t_hasCounters t_highest t_taped t_fault t_broken t_brokenAt t_spot t_here t_token t_value t_queued t_payed t_bestWait t_bestWhom t_bestCoins t_seenMany t_torn t_state t_readPage t_tape t_cuts t_letters t_queue t_busyTo t_servedIn t_waysOn t_costOn t_aheads t_seen t_isKept t_lanes t_lengths t_cells p1 _ hc) (cwV 1 hts gX9_told_X9_seenAt rfl rfl rfl (by decide +kernel) ⟨Nat.le_of_ble_eq_true rfl, Nat.le_of_ble_eq_true rfl⟩) hK hP hD hS hA [0, 1, 2, 3, 4, 5, 6, 7, 8, 9, 10, 11, 12, 13, 14, 15, 16] [] [0, 1, 2, 3, 4, 5, 6, 7, 8, 9, 10, 11, 12, 13, 14, 15, 16] (w_Mod cI cB cZ cS cT qt qt_state qt_readPage qt_tape qt_cuts qt_letters qt_queue qt_busyTo qt_servedIn qt_waysOn qt_costOn qt_aheads qt_seen qt_isKept qt_lanes qt_lengths qt_cells t_hasLaw t_hasCounters t_highest t_taped t_fault t_broken t_brokenAt t_spot t_here t_token t_value t_queued t_payed t_bestWait t_bestWhom t_bestCoins t_seenMany t_torn t_state t_readPage t_tape t_cuts t_letters t_queue t_busyTo t_servedIn t_waysOn t_costOn t_aheads t_seen t_isKept t_lanes t_lengths t_cells) rfl rfl rfl rfl (by decide) rfl rfl 9 0 rfl rfl rfl rfl hl.1 rfl (Nat.le_of_ble_eq_true rfl) dX9_told_13 ⟨Nat.zero_le _, Nat.zero_le _⟩ (fun H locs hP hD hS => ?_)
    refine lv_istore_n (lv' := [(3, .int o_2), (0, .ref qt), (1, .int p1), (2, .int p2)]) hx hb dX9_told_16 rfl hl (by decide) rfl (fun ls hl => ?_)
    refine lv_aload_n hx hb dX9_told_17 rfl (lv_at hl 1 rfl) ?_
    refine lv_iload_n hx hb dX9_told_18 rfl (lv_at hl 3 rfl) ?_
    obtain ⟨o_3, hc, hM⟩ := bind_so hM
    refine mr_callVi (As := [.int p2]) (rest := []) (wr := []) ⟨hx, hb, hml, hown, hts⟩ (k_Mod_seenAt l D cI cB cZ cS cT qt qt_state qt_readPage qt_tape qt_cuts qt_letters qt_queue qt_busyTo qt_servedIn qt_waysOn qt_costOn qt_aheads qt_seen qt_isKept qt_lanes qt_lengths qt_cells t_hasLaw t_hasCounters t_highest t_taped t_fault t_broken t_brokenAt t_spot t_here t_token t_value t_queued t_payed t_bestWait t_bestWhom t_bestCoins t_seenMany t_torn t_state t_readPage t_tape t_cuts t_letters t_queue t_busyTo t_servedIn t_waysOn t_costOn t_aheads t_seen t_isKept t_lanes t_lengths t_cells p2 _ hc) (cwV 1 hts gX9_told_X9_seenAt rfl rfl rfl (by decide +kernel) ⟨Nat.le_of_ble_eq_true rfl, Nat.le_of_ble_eq_true rfl⟩) hK hP hD hS hA [0, 1, 2, 3, 4, 5, 6, 7, 8, 9, 10, 11, 12, 13, 14, 15, 16] [] [0, 1, 2, 3, 4, 5, 6, 7, 8, 9, 10, 11, 12, 13, 14, 15, 16] (w_Mod cI cB cZ cS cT qt qt_state qt_readPage qt_tape qt_cuts qt_letters qt_queue qt_busyTo qt_servedIn qt_waysOn qt_costOn qt_aheads qt_seen qt_isKept qt_lanes qt_lengths qt_cells t_hasLaw t_hasCounters t_highest t_taped t_fault t_broken t_brokenAt t_spot t_here t_token t_value t_queued t_payed t_bestWait t_bestWhom t_bestCoins t_seenMany t_torn t_state t_readPage t_tape t_cuts t_letters t_queue t_busyTo t_servedIn t_waysOn t_costOn t_aheads t_seen t_isKept t_lanes t_lengths t_cells) rfl rfl rfl rfl (by decide) rfl rfl 9 0 rfl rfl rfl rfl hl.1 rfl (Nat.le_of_ble_eq_true rfl) dX9_told_19 ⟨Nat.zero_le _, Nat.zero_le _⟩ (fun H locs hP hD hS => ?_)
    refine lv_istore (lv' := [(4, .int o_3), (3, .int o_2), (0, .ref qt), (1, .int p1), (2, .int p2)]) hx hb dX9_told_22 hl (by decide) rfl (fun ls hl => ?_)
    refine lv_iload_n hx hb dX9_told_24 rfl (lv_at hl 1 rfl) ?_
    refine lv_bipush (v := (-4)) hx hb dX9_told_25 (by decide) ?_
    refine mr_icmp_eq (tgt := 46) hx hb hM dX9_told_27 (by decide) (fun hM => ?_) (fun hM => ?_)
    · refine lv_bipush (v := (-4)) hx hb dX9_told_46 (by decide) ?_
      have hM := Option.some.inj hM
      subst hM
      exact mr_iret hx hb hr hlocks hQ hP hD hS rfl dX9_told_48
    · refine lv_iload hx hb dX9_told_30 (lv_at hl 0 rfl) ?_
      refine lv_bipush (v := (-4)) hx hb dX9_told_32 (by decide) ?_
      refine mr_icmp_eq (tgt := 46) hx hb hM dX9_told_34 (by decide) (fun hM => ?_) (fun hM => ?_)
      · refine lv_bipush (v := (-4)) hx hb dX9_told_46 (by decide) ?_
        have hM := Option.some.inj hM
        subst hM
        exact mr_iret hx hb hr hlocks hQ hP hD hS rfl dX9_told_48
      · refine lv_aload_n hx hb dX9_told_37 rfl (lv_at hl 2 rfl) ?_
        refine lv_iload_n hx hb dX9_told_38 rfl (lv_at hl 3 rfl) ?_
        refine lv_iload_n hx hb dX9_told_39 rfl (lv_at hl 4 rfl) ?_
        obtain ⟨o_4, hc, hM⟩ := bind_so hM
        refine mr_callVi (As := [.int p1, .int p2]) (rest := []) (wr := []) ⟨hx, hb, hml, hown, hts⟩ (k_Mod_cameFirst l D cI cB cZ cS cT qt qt_state qt_readPage qt_tape qt_cuts qt_letters qt_queue qt_busyTo qt_servedIn qt_waysOn qt_costOn qt_aheads qt_seen qt_isKept qt_lanes qt_lengths qt_cells t_hasLaw t_hasCounters t_highest t_taped t_fault t_broken t_brokenAt t_spot t_here t_token t_value t_queued t_payed t_bestWait t_bestWhom t_bestCoins t_seenMany t_torn t_state t_readPage t_tape t_cuts t_letters t_queue t_busyTo t_servedIn t_waysOn t_costOn t_aheads t_seen t_isKept t_lanes t_lengths t_cells p1 p2 _ hc) (cwV 2 hts gX9_told_X9_cameFirst rfl rfl rfl (by decide +kernel) ⟨Nat.le_of_ble_eq_true rfl, Nat.le_of_ble_eq_true rfl⟩) hK hP hD hS hA [0, 1, 2, 3, 4, 5, 6, 7, 8, 9, 10, 11, 12, 13, 14, 15, 16] [] [0, 1, 2, 3, 4, 5, 6, 7, 8, 9, 10, 11, 12, 13, 14, 15, 16] (w_Mod cI cB cZ cS cT qt qt_state qt_readPage qt_tape qt_cuts qt_letters qt_queue qt_busyTo qt_servedIn qt_waysOn qt_costOn qt_aheads qt_seen qt_isKept qt_lanes qt_lengths qt_cells t_hasLaw t_hasCounters t_highest t_taped t_fault t_broken t_brokenAt t_spot t_here t_token t_value t_queued t_payed t_bestWait t_bestWhom t_bestCoins t_seenMany t_torn t_state t_readPage t_tape t_cuts t_letters t_queue t_busyTo t_servedIn t_waysOn t_costOn t_aheads t_seen t_isKept t_lanes t_lengths t_cells) rfl rfl rfl rfl (by decide) rfl rfl 9 0 rfl rfl rfl rfl hl.1 rfl (Nat.le_of_ble_eq_true rfl) dX9_told_40 ⟨Nat.zero_le _, Nat.zero_le _⟩ (fun H locs hP hD hS => ?_)
        refine mr_if_ne (tgt := 49) hx hb hM dX9_told_43 (by decide) (fun hM => ?_) (fun hM => ?_)
        · refine lv_iload_n hx hb dX9_told_49 rfl (lv_at hl 1 rfl) ?_
          refine lv_iload hx hb dX9_told_50 (lv_at hl 0 rfl) ?_
          refine mr_icmp_le (tgt := 57) hx hb hM dX9_told_52 (by decide) (fun hM => ?_) (fun hM => ?_)
          · refine lv_iload_n hx hb dX9_told_57 rfl (lv_at hl 1 rfl) ?_
            refine lv_iconst (v := 1) hx hb dX9_told_58 (by decide) ?_
            refine lv_iadd hx hb dX9_told_59 ?_
            refine mr_nmI hM (fun x5_5 hM => ?_)
            refine lv_istore (lv' := [(5, .int x5_5), (4, .int o_3), (3, .int o_2), (0, .ref qt), (1, .int p1), (2, .int p2)]) hx hb dX9_told_60 hl (by decide) rfl (fun ls hl => ?_)
            have hL62 : ∀ (K84 : Option (Int32)) (K93 : Option (Int32)), (K84  = some o → ∀ (H : Heap) (locs : List Loc), va_P D vwCl (w_Mod cI cB cZ cS cT qt qt_state qt_readPage qt_tape qt_cuts qt_letters qt_queue qt_busyTo qt_servedIn qt_waysOn qt_costOn qt_aheads qt_seen qt_isKept qt_lanes qt_lengths qt_cells t_hasLaw t_hasCounters t_highest t_taped t_fault t_broken t_brokenAt t_spot t_here t_token t_value t_queued t_payed t_bestWait t_bestWhom t_bestCoins t_seenMany t_torn t_state t_readPage t_tape t_cuts t_letters t_queue t_busyTo t_servedIn t_waysOn t_costOn t_aheads t_seen t_isKept t_lanes t_lengths t_cells) H → va_D A (w_Mod cI cB cZ cS cT qt qt_state qt_readPage qt_tape qt_cuts qt_letters qt_queue qt_busyTo qt_servedIn qt_waysOn qt_costOn qt_aheads qt_seen qt_isKept qt_lanes qt_lengths qt_cells t_hasLaw t_hasCounters t_highest t_taped t_fault t_broken t_brokenAt t_spot t_here t_token t_value t_queued t_payed t_bestWait t_bestWhom t_bestCoins t_seenMany t_torn t_state t_readPage t_tape t_cuts t_letters t_queue t_busyTo t_servedIn t_waysOn t_costOn t_aheads t_seen t_isKept t_lanes t_lengths t_cells) → va_S A s.heap H locs → ∀ ls : Array Slot, lv_has ls 6 [] → W p l e rmX9_told s m av below meth c H locs 0 0 Q (F0 m 84 ls [])) → (K93  = some o → ∀ (H : Heap) (locs : List Loc), va_P D vwCl (w_Mod cI cB cZ cS cT qt qt_state qt_readPage qt_tape qt_cuts qt_letters qt_queue qt_busyTo qt_servedIn qt_waysOn qt_costOn qt_aheads qt_seen qt_isKept qt_lanes qt_lengths qt_cells t_hasLaw t_hasCounters t_highest t_taped t_fault t_broken t_brokenAt t_spot t_here t_token t_value t_queued t_payed t_bestWait t_bestWhom t_bestCoins t_seenMany t_torn t_state t_readPage t_tape t_cuts t_letters t_queue t_busyTo t_servedIn t_waysOn t_costOn t_aheads t_seen t_isKept t_lanes t_lengths t_cells) H → va_D A (w_Mod cI cB cZ cS cT qt qt_state qt_readPage qt_tape qt_cuts qt_letters qt_queue qt_busyTo qt_servedIn qt_waysOn qt_costOn qt_aheads qt_seen qt_isKept qt_lanes qt_lengths qt_cells t_hasLaw t_hasCounters t_highest t_taped t_fault t_broken t_brokenAt t_spot t_here t_token t_value t_queued t_payed t_bestWait t_bestWhom t_bestCoins t_seenMany t_torn t_state t_readPage t_tape t_cuts t_letters t_queue t_busyTo t_servedIn t_waysOn t_costOn t_aheads t_seen t_isKept t_lanes t_lengths t_cells) → va_S A s.heap H locs → ∀ ls : Array Slot, lv_has ls 6 [] → W p l e rmX9_told s m av below meth c H locs 0 0 Q (F0 m 93 ls [])) → ∀ (n : Nat) (x5_6 : Int32), Mod_told_L62 t_state t_seen p2 o_3 K84 K93 n x5_6 = some o → ∀ (H : Heap) (locs : List Loc), va_P D vwCl (w_Mod cI cB cZ cS cT qt qt_state qt_readPage qt_tape qt_cuts qt_letters qt_queue qt_busyTo qt_servedIn qt_waysOn qt_costOn qt_aheads qt_seen qt_isKept qt_lanes qt_lengths qt_cells t_hasLaw t_hasCounters t_highest t_taped t_fault t_broken t_brokenAt t_spot t_here t_token t_value t_queued t_payed t_bestWait t_bestWhom t_bestCoins t_seenMany t_torn t_state t_readPage t_tape t_cuts t_letters t_queue t_busyTo t_servedIn t_waysOn t_costOn t_aheads t_seen t_isKept t_lanes t_lengths t_cells) H → va_D A (w_Mod cI cB cZ cS cT qt qt_state qt_readPage qt_tape qt_cuts qt_letters qt_queue qt_busyTo qt_servedIn qt_waysOn qt_costOn qt_aheads qt_seen qt_isKept qt_lanes qt_lengths qt_cells t_hasLaw t_hasCounters t_highest t_taped t_fault t_broken t_brokenAt t_spot t_here t_token t_value t_queued t_payed t_bestWait t_bestWhom t_bestCoins t_seenMany t_torn t_state t_readPage t_tape t_cuts t_letters t_queue t_busyTo t_servedIn t_waysOn t_costOn t_aheads t_seen t_isKept t_lanes t_lengths t_cells) → va_S A s.heap H locs → ∀ ls : Array Slot, lv_has ls 6 [(0, .ref qt), (2, .int p2), (4, .int o_3), (5, .int x5_6)] → W p l e rmX9_told s m av below meth c H locs 0 0 Q (F0 m 62 ls []) := by
              intro K84 K93 hK84 hK93 n
              induction n with
              | zero =>
                intro x5_6 hM
                rw [Mod_told_L62] at hM
                cases hM
              | succ n ih =>
                intro x5_6 hM H locs hP hD hS ls hl
                rw [Mod_told_L62] at hM
                refine lv_iload hx hb dX9_told_62 (lv_at hl 3 rfl) ?_
                refine lv_iload hx hb dX9_told_64 (lv_at hl 2 rfl) ?_
                refine mr_icmp_ge (tgt := 93) hx hb hM dX9_told_66 (by decide) (fun hM => ?_) (fun hM => ?_)
                · exact hK93  hM _ _ hP hD hS ls (lv_sub hl [] rfl)
                · refine lv_aload_n hx hb dX9_told_69 rfl (lv_at hl 0 rfl) ?_
                  refine lv_aload_n hx hb dX9_told_70 rfl (lv_at hl 0 rfl) ?_
                  refine va_get (D := D) (ci := 9) (v := .ref qt_seen) (C := RX9) (T := TX9) (N := 34) hx hb hts inX9w hown hK hP 0 rfl rfl 27 (by decide) hf43 (fun _ h9 => h9) rfl dX9_told_71 ?_
                  refine lv_iload hx hb dX9_told_74 (lv_at hl 3 rfl) ?_
                  refine mr_iald hx hb hK hP 12 0 rfl rfl hM dX9_told_76 (fun v_7 hM => ?_)
                  refine lv_iload_n hx hb dX9_told_77 rfl (lv_at hl 1 rfl) ?_
                  obtain ⟨o_8, hc, hM⟩ := bind_so hM
                  refine mr_callVi (As := [.int v_7, .int p2]) (rest := []) (wr := []) ⟨hx, hb, hml, hown, hts⟩ (k_Mod_cameFirst l D cI cB cZ cS cT qt qt_state qt_readPage qt_tape qt_cuts qt_letters qt_queue qt_busyTo qt_servedIn qt_waysOn qt_costOn qt_aheads qt_seen qt_isKept qt_lanes qt_lengths qt_cells t_hasLaw t_hasCounters t_highest t_taped t_fault t_broken t_brokenAt t_spot t_here t_token t_value t_queued t_payed t_bestWait t_bestWhom t_bestCoins t_seenMany t_torn t_state t_readPage t_tape t_cuts t_letters t_queue t_busyTo t_servedIn t_waysOn t_costOn t_aheads t_seen t_isKept t_lanes t_lengths t_cells v_7 p2 _ hc) (cwV 2 hts gX9_told_X9_cameFirst rfl rfl rfl (by decide +kernel) ⟨Nat.le_of_ble_eq_true rfl, Nat.le_of_ble_eq_true rfl⟩) hK hP hD hS hA [0, 1, 2, 3, 4, 5, 6, 7, 8, 9, 10, 11, 12, 13, 14, 15, 16] [] [0, 1, 2, 3, 4, 5, 6, 7, 8, 9, 10, 11, 12, 13, 14, 15, 16] (w_Mod cI cB cZ cS cT qt qt_state qt_readPage qt_tape qt_cuts qt_letters qt_queue qt_busyTo qt_servedIn qt_waysOn qt_costOn qt_aheads qt_seen qt_isKept qt_lanes qt_lengths qt_cells t_hasLaw t_hasCounters t_highest t_taped t_fault t_broken t_brokenAt t_spot t_here t_token t_value t_queued t_payed t_bestWait t_bestWhom t_bestCoins t_seenMany t_torn t_state t_readPage t_tape t_cuts t_letters t_queue t_busyTo t_servedIn t_waysOn t_costOn t_aheads t_seen t_isKept t_lanes t_lengths t_cells) rfl rfl rfl rfl (by decide) rfl rfl 9 0 rfl rfl rfl rfl hl.1 rfl (Nat.le_of_ble_eq_true rfl) dX9_told_78 ⟨Nat.zero_le _, Nat.zero_le _⟩ (fun H locs hP hD hS => ?_)
                  refine mr_if_eq (tgt := 87) hx hb hM dX9_told_81 (by decide) (fun hM => ?_) (fun hM => ?_)
                  · refine mr_iinc (k := 3) (d := 1) hx hb (fun x5_9 => [(5, .int x5_9), (0, .ref qt), (2, .int p2), (4, .int o_3)]) hM (by decide) dX9_told_87 hl rfl (by decide) (fun _ => rfl) (fun x5_9 hM ls hl => ?_)
                    refine lv_goto (tgt := 62) hx hb dX9_told_90 (by decide) ?_
                    exact ih x5_9 hM _ _ hP hD hS ls (lv_sub hl [1, 2, 3, 0] rfl)
                  · exact hK84  hM _ _ hP hD hS ls (lv_sub hl [] rfl)
            refine hL62 _ _ (fun  hM H locs hP hD hS ls hl => ?_) (fun  hM H locs hP hD hS ls hl => ?_) _ x5_5 hM _ _ hP hD hS ls (lv_sub hl [3, 5, 1, 0] rfl)
            · refine lv_bipush (v := (-4)) hx hb dX9_told_84 (by decide) ?_
              have hM := Option.some.inj hM
              subst hM
              exact mr_iret hx hb hr hlocks hQ hP hD hS rfl dX9_told_86
            · refine lv_iconst (v := 0) hx hb dX9_told_93 (by decide) ?_
              have hM := Option.some.inj hM
              subst hM
              exact mr_iret hx hb hr hlocks hQ hP hD hS rfl dX9_told_94
          · refine lv_iconst (v := 1) hx hb dX9_told_55 (by decide) ?_
            have hM := Option.some.inj hM
            subst hM
            exact mr_iret hx hb hr hlocks hQ hP hD hS rfl dX9_told_56
        · refine lv_bipush (v := (-4)) hx hb dX9_told_46 (by decide) ?_
          have hM := Option.some.inj hM
          subst hM
          exact mr_iret hx hb hr hlocks hQ hP hD hS rfl dX9_told_48
  · refine lv_iconst (v := (-1)) hx hb dX9_told_9 (by decide) ?_
    have hM := Option.some.inj hM
    subst hM
    exact mr_iret hx hb hr hlocks hQ hP hD hS rfl dX9_told_10

abbrev rmX9_judge : Room := { frames := 5, cells := 0, slots := 0, locals := 120 }
set_option maxHeartbeats 40000000 in
set_option maxRecDepth 100000 in
theorem k_Mod_judge (l : Launch) (D : va_G) (cI cB cZ cS cT : ClassId) (qt qt_state qt_readPage qt_tape qt_cuts qt_letters qt_queue qt_busyTo qt_servedIn qt_waysOn qt_costOn qt_aheads qt_seen qt_isKept qt_lanes qt_lengths qt_cells : Nat) (t_hasLaw t_hasCounters t_highest t_taped t_fault t_broken t_brokenAt t_spot t_here t_token t_value t_queued t_payed t_bestWait t_bestWhom t_bestCoins t_seenMany t_torn : Int32) (t_state t_readPage t_tape t_cuts t_letters t_queue t_busyTo t_servedIn t_waysOn t_costOn t_aheads t_seen t_isKept t_lanes t_lengths t_cells : Nat → Int32)  (o : Int32 × Int32 × Int32 × (Nat → Int32) × (Nat → Int32)) (hM : Mod_judge t_payed t_seenMany t_state t_queue t_seen = some o) : mtI l yX9_judge wsX9_judge rmX9_judge D (tys5 cI cB cZ cS cT) [.ref qt] (w_Mod cI cB cZ cS cT qt qt_state qt_readPage qt_tape qt_cuts qt_letters qt_queue qt_busyTo qt_servedIn qt_waysOn qt_costOn qt_aheads qt_seen qt_isKept qt_lanes qt_lengths qt_cells t_hasLaw t_hasCounters t_highest t_taped t_fault t_broken t_brokenAt t_spot t_here t_token t_value t_queued t_payed t_bestWait t_bestWhom t_bestCoins t_seenMany t_torn t_state t_readPage t_tape t_cuts t_letters t_queue t_busyTo t_servedIn t_waysOn t_costOn t_aheads t_seen t_isKept t_lanes t_lengths t_cells) (w_Mod cI cB cZ cS cT qt qt_state qt_readPage qt_tape qt_cuts qt_letters qt_queue qt_busyTo qt_servedIn qt_waysOn qt_costOn qt_aheads qt_seen qt_isKept qt_lanes qt_lengths qt_cells t_hasLaw t_hasCounters t_highest t_taped t_fault t_broken t_brokenAt t_spot t_here t_token t_value o.2.1 o.2.2.1 t_bestWait t_bestWhom t_bestCoins t_seenMany t_torn o.2.2.2.1 t_readPage t_tape t_cuts t_letters o.2.2.2.2 t_busyTo t_servedIn t_waysOn t_costOn t_aheads t_seen t_isKept t_lanes t_lengths t_cells) o.1 := by
  refine mtI.of (cc := cX9_judge) (maxL := 3) (ret := (some .int)) (by decide) rfl (Nat.le_of_ble_eq_true rfl) ?_
  intro p e s m below meth c A Q av hav hQ hx hb hr hml hown hts hlocks hK hP hD hA hS ls hl
  have hown : s.vm.findClass RX9 = some m.cls := hown
  have hl : lv_has ls 3 [(0, .ref qt)] := hl
  unfold Mod_judge at hM
  have inX9w : ∀ w ∈ u_ws RX9 TX9 34, w ∈ wsX9_judge := by decide +kernel
  have hf142 := hts (.fieldLink RX9 142 "LetsInModel" "seenMany" "I") (by decide +kernel)
  have hf43 := hts (.fieldLink RX9 43 "LetsInModel" "seen" "[I") (by decide +kernel)
  have hf25 := hts (.fieldLink RX9 25 "LetsInModel" "queue" "[I") (by decide +kernel)
  refine lv_iconst (v := 0) hx hb dX9_judge_0 (by decide) ?_
  refine lv_istore_n (lv' := [(1, .int 0), (0, .ref qt)]) hx hb dX9_judge_1 rfl hl (by decide) rfl (fun ls hl => ?_)
  refine lv_iconst (v := 0) hx hb dX9_judge_2 (by decide) ?_
  refine lv_istore_n (lv' := [(2, .int 0), (1, .int 0), (0, .ref qt)]) hx hb dX9_judge_3 rfl hl (by decide) rfl (fun ls hl => ?_)
  have hL4 : ∀ (K29 : Int32 → Option (Int32 × Int32 × Int32 × (Nat → Int32) × (Nat → Int32))), (∀ (x1_6 : Int32), K29 x1_6 = some o → ∀ (H : Heap) (locs : List Loc), va_P D vwCl (w_Mod cI cB cZ cS cT qt qt_state qt_readPage qt_tape qt_cuts qt_letters qt_queue qt_busyTo qt_servedIn qt_waysOn qt_costOn qt_aheads qt_seen qt_isKept qt_lanes qt_lengths qt_cells t_hasLaw t_hasCounters t_highest t_taped t_fault t_broken t_brokenAt t_spot t_here t_token t_value t_queued t_payed t_bestWait t_bestWhom t_bestCoins t_seenMany t_torn t_state t_readPage t_tape t_cuts t_letters t_queue t_busyTo t_servedIn t_waysOn t_costOn t_aheads t_seen t_isKept t_lanes t_lengths t_cells) H → va_D A (w_Mod cI cB cZ cS cT qt qt_state qt_readPage qt_tape qt_cuts qt_letters qt_queue qt_busyTo qt_servedIn qt_waysOn qt_costOn qt_aheads qt_seen qt_isKept qt_lanes qt_lengths qt_cells t_hasLaw t_hasCounters t_highest t_taped t_fault t_broken t_brokenAt t_spot t_here t_token t_value t_queued t_payed t_bestWait t_bestWhom t_bestCoins t_seenMany t_torn t_state t_readPage t_tape t_cuts t_letters t_queue t_busyTo t_servedIn t_waysOn t_costOn t_aheads t_seen t_isKept t_lanes t_lengths t_cells) → va_S A s.heap H locs → ∀ ls : Array Slot, lv_has ls 3 [(0, .ref qt), (1, .int x1_6)] → W p l e rmX9_judge s m av below meth c H locs 0 0 Q (F0 m 29 ls [])) → ∀ (n : Nat) (x1_1 x2_2 : Int32), Mod_judge_L4 t_seenMany t_seen K29 n x1_1 x2_2 = some o → ∀ (H : Heap) (locs : List Loc), va_P D vwCl (w_Mod cI cB cZ cS cT qt qt_state qt_readPage qt_tape qt_cuts qt_letters qt_queue qt_busyTo qt_servedIn qt_waysOn qt_costOn qt_aheads qt_seen qt_isKept qt_lanes qt_lengths qt_cells t_hasLaw t_hasCounters t_highest t_taped t_fault t_broken t_brokenAt t_spot t_here t_token t_value t_queued t_payed t_bestWait t_bestWhom t_bestCoins t_seenMany t_torn t_state t_readPage t_tape t_cuts t_letters t_queue t_busyTo t_servedIn t_waysOn t_costOn t_aheads t_seen t_isKept t_lanes t_lengths t_cells) H → va_D A (w_Mod cI cB cZ cS cT qt qt_state qt_readPage qt_tape qt_cuts qt_letters qt_queue qt_busyTo qt_servedIn qt_waysOn qt_costOn qt_aheads qt_seen qt_isKept qt_lanes qt_lengths qt_cells t_hasLaw t_hasCounters t_highest t_taped t_fault t_broken t_brokenAt t_spot t_here t_token t_value t_queued t_payed t_bestWait t_bestWhom t_bestCoins t_seenMany t_torn t_state t_readPage t_tape t_cuts t_letters t_queue t_busyTo t_servedIn t_waysOn t_costOn t_aheads t_seen t_isKept t_lanes t_lengths t_cells) → va_S A s.heap H locs → ∀ ls : Array Slot, lv_has ls 3 [(0, .ref qt), (1, .int x1_1), (2, .int x2_2)] → W p l e rmX9_judge s m av below meth c H locs 0 0 Q (F0 m 4 ls []) := by
    intro K29 hK29 n
    induction n with
    | zero =>
      intro x1_1 x2_2 hM
      rw [Mod_judge_L4] at hM
      cases hM
    | succ n ih =>
      intro x1_1 x2_2 hM H locs hP hD hS ls hl
      rw [Mod_judge_L4] at hM
      refine lv_iload_n hx hb dX9_judge_4 rfl (lv_at hl 2 rfl) ?_
      refine lv_aload_n hx hb dX9_judge_5 rfl (lv_at hl 0 rfl) ?_
      refine va_get (D := D) (ci := 9) (v := .int t_seenMany) (C := RX9) (T := TX9) (N := 34) hx hb hts inX9w hown hK hP 0 rfl rfl 28 (by decide) hf142 (fun _ h9 => h9) rfl dX9_judge_6 ?_
      refine mr_icmp_ge (tgt := 29) hx hb hM dX9_judge_9 (by decide) (fun hM => ?_) (fun hM => ?_)
      · exact hK29 x1_1 hM _ _ hP hD hS ls (lv_sub hl [0, 1] rfl)
      · refine lv_iload_n hx hb dX9_judge_12 rfl (lv_at hl 1 rfl) ?_
        refine lv_iconst (v := 1) hx hb dX9_judge_13 (by decide) ?_
        refine lv_aload_n hx hb dX9_judge_14 rfl (lv_at hl 0 rfl) ?_
        refine va_get (D := D) (ci := 9) (v := .ref qt_seen) (C := RX9) (T := TX9) (N := 34) hx hb hts inX9w hown hK hP 0 rfl rfl 27 (by decide) hf43 (fun _ h9 => h9) rfl dX9_judge_15 ?_
        refine lv_iload_n hx hb dX9_judge_18 rfl (lv_at hl 2 rfl) ?_
        refine mr_iald hx hb hK hP 12 0 rfl rfl hM dX9_judge_19 (fun v_3 hM => ?_)
        refine lv_ishl hx hb dX9_judge_20 ?_
        refine lv_ior hx hb dX9_judge_21 ?_
        refine mr_nmI hM (fun x1_4 hM => ?_)
        refine lv_istore_n (lv' := [(1, .int x1_4), (0, .ref qt), (2, .int x2_2)]) hx hb dX9_judge_22 rfl hl (by decide) rfl (fun ls hl => ?_)
        refine mr_iinc (k := 2) (d := 1) hx hb (fun x2_5 => [(2, .int x2_5), (1, .int x1_4), (0, .ref qt)]) hM (by decide) dX9_judge_23 hl rfl (by decide) (fun _ => rfl) (fun x2_5 hM ls hl => ?_)
        refine lv_goto (tgt := 4) hx hb dX9_judge_26 (by decide) ?_
        exact ih x1_4 x2_5 hM _ _ hP hD hS ls (lv_sub hl [2, 1, 0] rfl)
  refine hL4 _ (fun x1_6 hM H locs hP hD hS ls hl => ?_) _ 0 0 hM _ _ hP hD hS ls (lv_sub hl [2, 1, 0] rfl)
  refine lv_aload_n hx hb dX9_judge_29 rfl (lv_at hl 0 rfl) ?_
  refine lv_iload_n hx hb dX9_judge_30 rfl (lv_at hl 1 rfl) ?_
  obtain ⟨o_7, hc, hM⟩ := bind_so hM
  refine mr_callVv (As := [.int x1_6]) (rest := []) (wr := []) ⟨hx, hb, hml, hown, hts⟩ (k_Mod_layRow l D cI cB cZ cS cT qt qt_state qt_readPage qt_tape qt_cuts qt_letters qt_queue qt_busyTo qt_servedIn qt_waysOn qt_costOn qt_aheads qt_seen qt_isKept qt_lanes qt_lengths qt_cells t_hasLaw t_hasCounters t_highest t_taped t_fault t_broken t_brokenAt t_spot t_here t_token t_value t_queued t_payed t_bestWait t_bestWhom t_bestCoins t_seenMany t_torn t_state t_readPage t_tape t_cuts t_letters t_queue t_busyTo t_servedIn t_waysOn t_costOn t_aheads t_seen t_isKept t_lanes t_lengths t_cells x1_6 _ hc) (cwV 1 hts gX9_judge_X9_layRow rfl rfl rfl (by decide +kernel) ⟨Nat.le_of_ble_eq_true rfl, Nat.le_of_ble_eq_true rfl⟩) hK hP hD hS hA [0, 1, 2, 3, 4, 5, 6, 7, 8, 9, 10, 11, 12, 13, 14, 15, 16] [] [0, 1, 2, 3, 4, 5, 6, 7, 8, 9, 10, 11, 12, 13, 14, 15, 16] (w_Mod cI cB cZ cS cT qt qt_state qt_readPage qt_tape qt_cuts qt_letters qt_queue qt_busyTo qt_servedIn qt_waysOn qt_costOn qt_aheads qt_seen qt_isKept qt_lanes qt_lengths qt_cells t_hasLaw t_hasCounters t_highest t_taped t_fault t_broken t_brokenAt t_spot t_here t_token t_value o_7.1 o_7.2.1 t_bestWait t_bestWhom t_bestCoins t_seenMany t_torn o_7.2.2.1 t_readPage t_tape t_cuts t_letters o_7.2.2.2 t_busyTo t_servedIn t_waysOn t_costOn t_aheads t_seen t_isKept t_lanes t_lengths t_cells) rfl rfl rfl rfl (by decide) rfl rfl 9 0 rfl rfl rfl rfl hl.1 rfl (Nat.le_of_ble_eq_true rfl) dX9_judge_31 ⟨Nat.zero_le _, Nat.zero_le _⟩ (fun H locs hP hD hS => ?_)
  refine lv_iconst (v := 0) hx hb dX9_judge_34 (by decide) ?_
  refine lv_istore_n (lv' := [(2, .int 0), (0, .ref qt), (1, .int x1_6)]) hx hb dX9_judge_35 rfl hl (by decide) rfl (fun ls hl => ?_)
  have hL36 : ∀ (K59 : Int32 → Option (Int32 × Int32 × Int32 × (Nat → Int32) × (Nat → Int32))) (K67 : Option (Int32 × Int32 × Int32 × (Nat → Int32) × (Nat → Int32))), (∀ (x2_12 : Int32), K59 x2_12 = some o → ∀ (H : Heap) (locs : List Loc), va_P D vwCl (w_Mod cI cB cZ cS cT qt qt_state qt_readPage qt_tape qt_cuts qt_letters qt_queue qt_busyTo qt_servedIn qt_waysOn qt_costOn qt_aheads qt_seen qt_isKept qt_lanes qt_lengths qt_cells t_hasLaw t_hasCounters t_highest t_taped t_fault t_broken t_brokenAt t_spot t_here t_token t_value o_7.1 o_7.2.1 t_bestWait t_bestWhom t_bestCoins t_seenMany t_torn o_7.2.2.1 t_readPage t_tape t_cuts t_letters o_7.2.2.2 t_busyTo t_servedIn t_waysOn t_costOn t_aheads t_seen t_isKept t_lanes t_lengths t_cells) H → va_D A (w_Mod cI cB cZ cS cT qt qt_state qt_readPage qt_tape qt_cuts qt_letters qt_queue qt_busyTo qt_servedIn qt_waysOn qt_costOn qt_aheads qt_seen qt_isKept qt_lanes qt_lengths qt_cells t_hasLaw t_hasCounters t_highest t_taped t_fault t_broken t_brokenAt t_spot t_here t_token t_value o_7.1 o_7.2.1 t_bestWait t_bestWhom t_bestCoins t_seenMany t_torn o_7.2.2.1 t_readPage t_tape t_cuts t_letters o_7.2.2.2 t_busyTo t_servedIn t_waysOn t_costOn t_aheads t_seen t_isKept t_lanes t_lengths t_cells) → va_S A s.heap H locs → ∀ ls : Array Slot, lv_has ls 3 [(2, .int x2_12)] → W p l e rmX9_judge s m av below meth c H locs 0 0 Q (F0 m 59 ls [])) → (K67  = some o → ∀ (H : Heap) (locs : List Loc), va_P D vwCl (w_Mod cI cB cZ cS cT qt qt_state qt_readPage qt_tape qt_cuts qt_letters qt_queue qt_busyTo qt_servedIn qt_waysOn qt_costOn qt_aheads qt_seen qt_isKept qt_lanes qt_lengths qt_cells t_hasLaw t_hasCounters t_highest t_taped t_fault t_broken t_brokenAt t_spot t_here t_token t_value o_7.1 o_7.2.1 t_bestWait t_bestWhom t_bestCoins t_seenMany t_torn o_7.2.2.1 t_readPage t_tape t_cuts t_letters o_7.2.2.2 t_busyTo t_servedIn t_waysOn t_costOn t_aheads t_seen t_isKept t_lanes t_lengths t_cells) H → va_D A (w_Mod cI cB cZ cS cT qt qt_state qt_readPage qt_tape qt_cuts qt_letters qt_queue qt_busyTo qt_servedIn qt_waysOn qt_costOn qt_aheads qt_seen qt_isKept qt_lanes qt_lengths qt_cells t_hasLaw t_hasCounters t_highest t_taped t_fault t_broken t_brokenAt t_spot t_here t_token t_value o_7.1 o_7.2.1 t_bestWait t_bestWhom t_bestCoins t_seenMany t_torn o_7.2.2.1 t_readPage t_tape t_cuts t_letters o_7.2.2.2 t_busyTo t_servedIn t_waysOn t_costOn t_aheads t_seen t_isKept t_lanes t_lengths t_cells) → va_S A s.heap H locs → ∀ ls : Array Slot, lv_has ls 3 [] → W p l e rmX9_judge s m av below meth c H locs 0 0 Q (F0 m 67 ls [])) → ∀ (n : Nat) (x2_8 : Int32), Mod_judge_L36 t_seenMany t_seen o_7 K59 K67 n x2_8 = some o → ∀ (H : Heap) (locs : List Loc), va_P D vwCl (w_Mod cI cB cZ cS cT qt qt_state qt_readPage qt_tape qt_cuts qt_letters qt_queue qt_busyTo qt_servedIn qt_waysOn qt_costOn qt_aheads qt_seen qt_isKept qt_lanes qt_lengths qt_cells t_hasLaw t_hasCounters t_highest t_taped t_fault t_broken t_brokenAt t_spot t_here t_token t_value o_7.1 o_7.2.1 t_bestWait t_bestWhom t_bestCoins t_seenMany t_torn o_7.2.2.1 t_readPage t_tape t_cuts t_letters o_7.2.2.2 t_busyTo t_servedIn t_waysOn t_costOn t_aheads t_seen t_isKept t_lanes t_lengths t_cells) H → va_D A (w_Mod cI cB cZ cS cT qt qt_state qt_readPage qt_tape qt_cuts qt_letters qt_queue qt_busyTo qt_servedIn qt_waysOn qt_costOn qt_aheads qt_seen qt_isKept qt_lanes qt_lengths qt_cells t_hasLaw t_hasCounters t_highest t_taped t_fault t_broken t_brokenAt t_spot t_here t_token t_value o_7.1 o_7.2.1 t_bestWait t_bestWhom t_bestCoins t_seenMany t_torn o_7.2.2.1 t_readPage t_tape t_cuts t_letters o_7.2.2.2 t_busyTo t_servedIn t_waysOn t_costOn t_aheads t_seen t_isKept t_lanes t_lengths t_cells) → va_S A s.heap H locs → ∀ ls : Array Slot, lv_has ls 3 [(0, .ref qt), (2, .int x2_8)] → W p l e rmX9_judge s m av below meth c H locs 0 0 Q (F0 m 36 ls []) := by
    intro K59 K67 hK59 hK67 n
    induction n with
    | zero =>
      intro x2_8 hM
      rw [Mod_judge_L36] at hM
      cases hM
    | succ n ih =>
      intro x2_8 hM H locs hP hD hS ls hl
      rw [Mod_judge_L36] at hM
      refine lv_iload_n hx hb dX9_judge_36 rfl (lv_at hl 1 rfl) ?_
      refine lv_aload_n hx hb dX9_judge_37 rfl (lv_at hl 0 rfl) ?_
      refine va_get (D := D) (ci := 9) (v := .int t_seenMany) (C := RX9) (T := TX9) (N := 34) hx hb hts inX9w hown hK hP 0 rfl rfl 28 (by decide) hf142 (fun _ h9 => h9) rfl dX9_judge_38 ?_
      refine mr_icmp_ge (tgt := 67) hx hb hM dX9_judge_41 (by decide) (fun hM => ?_) (fun hM => ?_)
      · exact hK67  hM _ _ hP hD hS ls (lv_sub hl [] rfl)
      · refine lv_aload_n hx hb dX9_judge_44 rfl (lv_at hl 0 rfl) ?_
        refine va_get (D := D) (ci := 9) (v := .ref qt_queue) (C := RX9) (T := TX9) (N := 34) hx hb hts inX9w hown hK hP 0 rfl rfl 16 (by decide) hf25 (fun _ h9 => h9) rfl dX9_judge_45 ?_
        refine lv_iload_n hx hb dX9_judge_48 rfl (lv_at hl 1 rfl) ?_
        refine mr_iald hx hb hK hP 6 0 rfl rfl hM dX9_judge_49 (fun v_9 hM => ?_)
        refine lv_aload_n hx hb dX9_judge_50 rfl (lv_at hl 0 rfl) ?_
        refine va_get (D := D) (ci := 9) (v := .ref qt_seen) (C := RX9) (T := TX9) (N := 34) hx hb hts inX9w hown hK hP 0 rfl rfl 27 (by decide) hf43 (fun _ h9 => h9) rfl dX9_judge_51 ?_
        refine lv_iload_n hx hb dX9_judge_54 rfl (lv_at hl 1 rfl) ?_
        refine mr_iald hx hb hK hP 12 0 rfl rfl hM dX9_judge_55 (fun v_10 hM => ?_)
        refine mr_icmp_eq (tgt := 61) hx hb hM dX9_judge_56 (by decide) (fun hM => ?_) (fun hM => ?_)
        · refine mr_iinc (k := 1) (d := 1) hx hb (fun x2_11 => [(2, .int x2_11), (0, .ref qt)]) hM (by decide) dX9_judge_61 hl rfl (by decide) (fun _ => rfl) (fun x2_11 hM ls hl => ?_)
          refine lv_goto (tgt := 36) hx hb dX9_judge_64 (by decide) ?_
          exact ih x2_11 hM _ _ hP hD hS ls (lv_sub hl [1, 0] rfl)
        · exact hK59 x2_8 hM _ _ hP hD hS ls (lv_sub hl [1] rfl)
  refine hL36 _ _ (fun x2_12 hM H locs hP hD hS ls hl => ?_) (fun  hM H locs hP hD hS ls hl => ?_) _ 0 hM _ _ hP hD hS ls (lv_sub hl [1, 0] rfl)
  · refine lv_iload_n hx hb dX9_judge_59 rfl (lv_at hl 0 rfl) ?_
    have hM := Option.some.inj hM
    subst hM
    exact mr_iret hx hb hr hlocks hQ hP hD hS rfl dX9_judge_60
  · refine lv_bipush (v := (-4)) hx hb dX9_judge_67 (by decide) ?_
    have hM := Option.some.inj hM
    subst hM
    exact mr_iret hx hb hr hlocks hQ hP hD hS rfl dX9_judge_69

abbrev rmX9_day : Room := { frames := 5, cells := 0, slots := 0, locals := 121 }
set_option maxHeartbeats 40000000 in
set_option maxRecDepth 100000 in
theorem k_Mod_day (l : Launch) (D : va_G) (cI cB cZ cS cT : ClassId) (qt qt_state qt_readPage qt_tape qt_cuts qt_letters qt_queue qt_busyTo qt_servedIn qt_waysOn qt_costOn qt_aheads qt_seen qt_isKept qt_lanes qt_lengths qt_cells : Nat) (t_hasLaw t_hasCounters t_highest t_taped t_fault t_broken t_brokenAt t_spot t_here t_token t_value t_queued t_payed t_bestWait t_bestWhom t_bestCoins t_seenMany t_torn : Int32) (t_state t_readPage t_tape t_cuts t_letters t_queue t_busyTo t_servedIn t_waysOn t_costOn t_aheads t_seen t_isKept t_lanes t_lengths t_cells : Nat → Int32) (p1 p2 : Int32) (o : Int32 × Int32 × Int32 × (Nat → Int32) × (Nat → Int32) × (Nat → Int32) × (Nat → Int32)) (hM : Mod_day p1 p2 t_queued t_payed t_state t_queue t_busyTo t_servedIn = some o) : mtI l yX9_day wsX9_day rmX9_day D (tys5 cI cB cZ cS cT) [.ref qt, .int p1, .int p2] (w_Mod cI cB cZ cS cT qt qt_state qt_readPage qt_tape qt_cuts qt_letters qt_queue qt_busyTo qt_servedIn qt_waysOn qt_costOn qt_aheads qt_seen qt_isKept qt_lanes qt_lengths qt_cells t_hasLaw t_hasCounters t_highest t_taped t_fault t_broken t_brokenAt t_spot t_here t_token t_value t_queued t_payed t_bestWait t_bestWhom t_bestCoins t_seenMany t_torn t_state t_readPage t_tape t_cuts t_letters t_queue t_busyTo t_servedIn t_waysOn t_costOn t_aheads t_seen t_isKept t_lanes t_lengths t_cells) (w_Mod cI cB cZ cS cT qt qt_state qt_readPage qt_tape qt_cuts qt_letters qt_queue qt_busyTo qt_servedIn qt_waysOn qt_costOn qt_aheads qt_seen qt_isKept qt_lanes qt_lengths qt_cells t_hasLaw t_hasCounters t_highest t_taped t_fault t_broken t_brokenAt t_spot t_here t_token t_value o.2.1 o.2.2.1 t_bestWait t_bestWhom t_bestCoins t_seenMany t_torn o.2.2.2.1 t_readPage t_tape t_cuts t_letters o.2.2.2.2.1 o.2.2.2.2.2.1 o.2.2.2.2.2.2 t_waysOn t_costOn t_aheads t_seen t_isKept t_lanes t_lengths t_cells) o.1 := by
  refine mtI.of (cc := cX9_day) (maxL := 5) (ret := (some .int)) (by decide) rfl (Nat.le_of_ble_eq_true rfl) ?_
  intro p e s m below meth c A Q av hav hQ hx hb hr hml hown hts hlocks hK hP hD hA hS ls hl
  have hown : s.vm.findClass RX9 = some m.cls := hown
  have hl : lv_has ls 5 [(0, .ref qt), (1, .int p1), (2, .int p2)] := hl
  unfold Mod_day at hM
  have inX9w : ∀ w ∈ u_ws RX9 TX9 34, w ∈ wsX9_day := by decide +kernel
  have hfc121 := hts (.constantLong RX9 121 3) (by decide +kernel)
  have hfc264 := hts (.constant RX9 264 1103515245) (by decide +kernel)
  have hf7 := hts (.fieldLink RX9 7 "LetsInModel" "state" "[I") (by decide +kernel)
  refine lv_iload_n hx hb dX9_day_0 rfl (lv_at hl 2 rfl) ?_
  refine lv_i2l hx hb dX9_day_1 rfl ?_
  refine lv_lconst (v := 0) hx hb dX9_day_2 (by decide) ?_
  refine lv_ldc2 (v := 3) hx hb hown hfc121 dX9_day_3 ?_
  obtain ⟨o_1, hc, hM⟩ := bind_so hM
  refine mr_callSi (As := [.long p2.toInt64, .long 0, .long 3]) (rest := []) ⟨hx, hb, hml, hown, hts⟩ (k_Mod_in l D cI cB cZ cS cT   p2.toInt64 0 3 _ hc) (cwS 3 hts gX9_day_X9_in rfl rfl rfl (by decide +kernel) ⟨Nat.le_of_ble_eq_true rfl, Nat.le_of_ble_eq_true rfl⟩) hK hP hD hS hA rfl hl.1 rfl (Nat.le_of_ble_eq_true rfl) dX9_day_6 ⟨Nat.zero_le _, Nat.zero_le _⟩ (fun H locs hP hS => ?_)
  refine mr_if_ne (tgt := 14) hx hb hM dX9_day_9 (by decide) (fun hM => ?_) (fun hM => ?_)
  · refine lv_aload_n hx hb dX9_day_14 rfl (lv_at hl 0 rfl) ?_
    refine lv_iconst (v := 0) hx hb dX9_day_15 (by decide) ?_
    refine lv_sipush (v := 282) hx hb dX9_day_16 (by decide) ?_
    obtain ⟨o_2, hc, hM⟩ := bind_so hM
    refine mr_callVv (As := [.int 0, .int 282]) (rest := []) (wr := []) ⟨hx, hb, hml, hown, hts⟩ (k_Mod_copies l D cI cB cZ cS cT qt qt_state qt_readPage qt_tape qt_cuts qt_letters qt_queue qt_busyTo qt_servedIn qt_waysOn qt_costOn qt_aheads qt_seen qt_isKept qt_lanes qt_lengths qt_cells t_hasLaw t_hasCounters t_highest t_taped t_fault t_broken t_brokenAt t_spot t_here t_token t_value t_queued t_payed t_bestWait t_bestWhom t_bestCoins t_seenMany t_torn t_state t_readPage t_tape t_cuts t_letters t_queue t_busyTo t_servedIn t_waysOn t_costOn t_aheads t_seen t_isKept t_lanes t_lengths t_cells 0 282 _ hc) (cwV 2 hts gX9_day_X9_copies rfl rfl rfl (by decide +kernel) ⟨Nat.le_of_ble_eq_true rfl, Nat.le_of_ble_eq_true rfl⟩) hK hP hD hS hA [0, 1, 2, 3, 4, 5, 6, 7, 8, 9, 10, 11, 12, 13, 14, 15, 16] [] [0, 1, 2, 3, 4, 5, 6, 7, 8, 9, 10, 11, 12, 13, 14, 15, 16] (w_Mod cI cB cZ cS cT qt qt_state qt_readPage qt_tape qt_cuts qt_letters qt_queue qt_busyTo qt_servedIn qt_waysOn qt_costOn qt_aheads qt_seen qt_isKept qt_lanes qt_lengths qt_cells t_hasLaw t_hasCounters t_highest t_taped t_fault t_broken t_brokenAt t_spot t_here t_token t_value t_queued t_payed t_bestWait t_bestWhom t_bestCoins t_seenMany t_torn o_2 t_readPage t_tape t_cuts t_letters t_queue t_busyTo t_servedIn t_waysOn t_costOn t_aheads t_seen t_isKept t_lanes t_lengths t_cells) rfl rfl rfl rfl (by decide) rfl rfl 9 0 rfl rfl rfl rfl hl.1 rfl (Nat.le_of_ble_eq_true rfl) dX9_day_19 ⟨Nat.zero_le _, Nat.zero_le _⟩ (fun H locs hP hD hS => ?_)
    refine lv_iload_n hx hb dX9_day_22 rfl (lv_at hl 1 rfl) ?_
    refine lv_istore_n (lv' := [(3, .int p1), (0, .ref qt), (1, .int p1), (2, .int p2)]) hx hb dX9_day_23 rfl hl (by decide) rfl (fun ls hl => ?_)
    refine lv_iconst (v := 0) hx hb dX9_day_24 (by decide) ?_
    refine lv_istore (lv' := [(4, .int 0), (3, .int p1), (0, .ref qt), (1, .int p1), (2, .int p2)]) hx hb dX9_day_25 hl (by decide) rfl (fun ls hl => ?_)
    have hL27 : ∀ (K79 : (Nat → Int32) → Option (Int32 × Int32 × Int32 × (Nat → Int32) × (Nat → Int32) × (Nat → Int32) × (Nat → Int32))), (∀ (t_state_10 : Nat → Int32), K79 t_state_10 = some o → ∀ (H : Heap) (locs : List Loc), va_P D vwCl (w_Mod cI cB cZ cS cT qt qt_state qt_readPage qt_tape qt_cuts qt_letters qt_queue qt_busyTo qt_servedIn qt_waysOn qt_costOn qt_aheads qt_seen qt_isKept qt_lanes qt_lengths qt_cells t_hasLaw t_hasCounters t_highest t_taped t_fault t_broken t_brokenAt t_spot t_here t_token t_value t_queued t_payed t_bestWait t_bestWhom t_bestCoins t_seenMany t_torn t_state_10 t_readPage t_tape t_cuts t_letters t_queue t_busyTo t_servedIn t_waysOn t_costOn t_aheads t_seen t_isKept t_lanes t_lengths t_cells) H → va_D A (w_Mod cI cB cZ cS cT qt qt_state qt_readPage qt_tape qt_cuts qt_letters qt_queue qt_busyTo qt_servedIn qt_waysOn qt_costOn qt_aheads qt_seen qt_isKept qt_lanes qt_lengths qt_cells t_hasLaw t_hasCounters t_highest t_taped t_fault t_broken t_brokenAt t_spot t_here t_token t_value t_queued t_payed t_bestWait t_bestWhom t_bestCoins t_seenMany t_torn t_state_10 t_readPage t_tape t_cuts t_letters t_queue t_busyTo t_servedIn t_waysOn t_costOn t_aheads t_seen t_isKept t_lanes t_lengths t_cells) → va_S A s.heap H locs → ∀ ls : Array Slot, lv_has ls 5 [(0, .ref qt), (2, .int p2)] → W p l e rmX9_day s m av below meth c H locs 0 0 Q (F0 m 79 ls [])) → ∀ (n : Nat) (x3_3 x4_4 : Int32) (t_state_5 : Nat → Int32), Mod_day_L27 K79 n x3_3 x4_4 t_state_5 = some o → ∀ (H : Heap) (locs : List Loc), va_P D vwCl (w_Mod cI cB cZ cS cT qt qt_state qt_readPage qt_tape qt_cuts qt_letters qt_queue qt_busyTo qt_servedIn qt_waysOn qt_costOn qt_aheads qt_seen qt_isKept qt_lanes qt_lengths qt_cells t_hasLaw t_hasCounters t_highest t_taped t_fault t_broken t_brokenAt t_spot t_here t_token t_value t_queued t_payed t_bestWait t_bestWhom t_bestCoins t_seenMany t_torn t_state_5 t_readPage t_tape t_cuts t_letters t_queue t_busyTo t_servedIn t_waysOn t_costOn t_aheads t_seen t_isKept t_lanes t_lengths t_cells) H → va_D A (w_Mod cI cB cZ cS cT qt qt_state qt_readPage qt_tape qt_cuts qt_letters qt_queue qt_busyTo qt_servedIn qt_waysOn qt_costOn qt_aheads qt_seen qt_isKept qt_lanes qt_lengths qt_cells t_hasLaw t_hasCounters t_highest t_taped t_fault t_broken t_brokenAt t_spot t_here t_token t_value t_queued t_payed t_bestWait t_bestWhom t_bestCoins t_seenMany t_torn t_state_5 t_readPage t_tape t_cuts t_letters t_queue t_busyTo t_servedIn t_waysOn t_costOn t_aheads t_seen t_isKept t_lanes t_lengths t_cells) → va_S A s.heap H locs → ∀ ls : Array Slot, lv_has ls 5 [(0, .ref qt), (2, .int p2), (3, .int x3_3), (4, .int x4_4)] → W p l e rmX9_day s m av below meth c H locs 0 0 Q (F0 m 27 ls []) := by
      intro K79 hK79 n
      induction n with
      | zero =>
        intro x3_3 x4_4 t_state_5 hM
        rw [Mod_day_L27] at hM
        cases hM
      | succ n ih =>
        intro x3_3 x4_4 t_state_5 hM H locs hP hD hS ls hl
        rw [Mod_day_L27] at hM
        refine lv_iload hx hb dX9_day_27 (lv_at hl 3 rfl) ?_
        refine lv_aload_n hx hb dX9_day_29 rfl (lv_at hl 0 rfl) ?_
        obtain ⟨o_6, hc, hM⟩ := bind_so hM
        refine mr_callVi (As := []) (rest := [.int x4_4]) (wr := []) ⟨hx, hb, hml, hown, hts⟩ (k_Mod_many l D cI cB cZ cS cT qt qt_state qt_readPage qt_tape qt_cuts qt_letters qt_queue qt_busyTo qt_servedIn qt_waysOn qt_costOn qt_aheads qt_seen qt_isKept qt_lanes qt_lengths qt_cells t_hasLaw t_hasCounters t_highest t_taped t_fault t_broken t_brokenAt t_spot t_here t_token t_value t_queued t_payed t_bestWait t_bestWhom t_bestCoins t_seenMany t_torn t_state_5 t_readPage t_tape t_cuts t_letters t_queue t_busyTo t_servedIn t_waysOn t_costOn t_aheads t_seen t_isKept t_lanes t_lengths t_cells  _ hc) (cwV 0 hts gX9_day_X9_many rfl rfl rfl (by decide +kernel) ⟨Nat.le_of_ble_eq_true rfl, Nat.le_of_ble_eq_true rfl⟩) hK hP hD hS hA [0, 1, 2, 3, 4, 5, 6, 7, 8, 9, 10, 11, 12, 13, 14, 15, 16] [] [0, 1, 2, 3, 4, 5, 6, 7, 8, 9, 10, 11, 12, 13, 14, 15, 16] (w_Mod cI cB cZ cS cT qt qt_state qt_readPage qt_tape qt_cuts qt_letters qt_queue qt_busyTo qt_servedIn qt_waysOn qt_costOn qt_aheads qt_seen qt_isKept qt_lanes qt_lengths qt_cells t_hasLaw t_hasCounters t_highest t_taped t_fault t_broken t_brokenAt t_spot t_here t_token t_value t_queued t_payed t_bestWait t_bestWhom t_bestCoins t_seenMany t_torn t_state_5 t_readPage t_tape t_cuts t_letters t_queue t_busyTo t_servedIn t_waysOn t_costOn t_aheads t_seen t_isKept t_lanes t_lengths t_cells) rfl rfl rfl rfl (by decide) rfl rfl 9 0 rfl rfl rfl rfl hl.1 rfl (Nat.le_of_ble_eq_true rfl) dX9_day_30 ⟨Nat.zero_le _, Nat.zero_le _⟩ (fun H locs hP hD hS => ?_)
        refine mr_icmp_ge (tgt := 79) hx hb hM dX9_day_33 (by decide) (fun hM => ?_) (fun hM => ?_)
        · exact hK79 t_state_5 hM _ _ hP hD hS ls (lv_sub hl [0, 1] rfl)
        · refine lv_iload_n hx hb dX9_day_36 rfl (lv_at hl 2 rfl) ?_
          refine lv_ldcw (v := 1103515245) hx hb hown hfc264 dX9_day_37 ?_
          refine lv_imul hx hb dX9_day_40 ?_
          refine lv_sipush (v := 12345) hx hb dX9_day_41 (by decide) ?_
          refine lv_iadd hx hb dX9_day_44 ?_
          refine mr_nmI hM (fun x3_7 hM => ?_)
          refine lv_istore_n (lv' := [(3, .int x3_7), (0, .ref qt), (2, .int p2), (4, .int x4_4)]) hx hb dX9_day_45 rfl hl (by decide) rfl (fun ls hl => ?_)
          refine lv_aload_n hx hb dX9_day_46 rfl (lv_at hl 1 rfl) ?_
          refine va_get (D := D) (ci := 9) (v := .ref qt_state) (C := RX9) (T := TX9) (N := 34) hx hb hts inX9w hown hK hP 0 rfl rfl 0 (by decide) hf7 (fun _ h9 => h9) rfl dX9_day_47 ?_
          refine lv_sipush (v := 282) hx hb dX9_day_50 (by decide) ?_
          refine lv_bipush (v := 6) hx hb dX9_day_53 (by decide) ?_
          refine lv_iload hx hb dX9_day_55 (lv_at hl 3 rfl) ?_
          refine lv_imul hx hb dX9_day_57 ?_
          refine lv_iadd hx hb dX9_day_58 ?_
          refine lv_iconst (v := 1) hx hb dX9_day_59 (by decide) ?_
          refine lv_iadd hx hb dX9_day_60 ?_
          refine lv_iload_n hx hb dX9_day_61 rfl (lv_at hl 0 rfl) ?_
          refine lv_bipush (v := 16) hx hb dX9_day_62 (by decide) ?_
          refine lv_ishr hx hb dX9_day_64 ?_
          refine lv_sipush (v := 32767) hx hb dX9_day_65 (by decide) ?_
          refine lv_iand hx hb dX9_day_68 ?_
          refine lv_bipush (v := 61) hx hb dX9_day_69 (by decide) ?_
          refine lv_irem hx hb dX9_day_71 (by decide) ?_
          refine mr_iast hx hb hK hP hD hS 1 0 (fun t_state_8 => (w_Mod cI cB cZ cS cT qt qt_state qt_readPage qt_tape qt_cuts qt_letters qt_queue qt_busyTo qt_servedIn qt_waysOn qt_costOn qt_aheads qt_seen qt_isKept qt_lanes qt_lengths qt_cells t_hasLaw t_hasCounters t_highest t_taped t_fault t_broken t_brokenAt t_spot t_here t_token t_value t_queued t_payed t_bestWait t_bestWhom t_bestCoins t_seenMany t_torn t_state_8 t_readPage t_tape t_cuts t_letters t_queue t_busyTo t_servedIn t_waysOn t_costOn t_aheads t_seen t_isKept t_lanes t_lengths t_cells)) rfl rfl (fun _ => rfl) hM dX9_day_72 (fun t_state_8 hM H locs hP hD hS => ?_)
          refine mr_iinc (k := 3) (d := 1) hx hb (fun x4_9 => [(4, .int x4_9), (3, .int x3_7), (0, .ref qt), (2, .int p2)]) hM (by decide) dX9_day_73 hl rfl (by decide) (fun _ => rfl) (fun x4_9 hM ls hl => ?_)
          refine lv_goto (tgt := 27) hx hb dX9_day_76 (by decide) ?_
          exact ih x3_7 x4_9 t_state_8 hM _ _ hP hD hS ls (lv_sub hl [2, 3, 1, 0] rfl)
    refine hL27 _ (fun t_state_10 hM H locs hP hD hS ls hl => ?_) _ p1 0 o_2 hM _ _ hP hD hS ls (lv_sub hl [2, 4, 1, 0] rfl)
    refine lv_aload_n hx hb dX9_day_79 rfl (lv_at hl 0 rfl) ?_
    refine lv_sipush (v := 130) hx hb dX9_day_80 (by decide) ?_
    obtain ⟨o_11, hc, hM⟩ := bind_so hM
    refine mr_callVv (As := [.int 130]) (rest := []) (wr := []) ⟨hx, hb, hml, hown, hts⟩ (k_Mod_runsTo l D cI cB cZ cS cT qt qt_state qt_readPage qt_tape qt_cuts qt_letters qt_queue qt_busyTo qt_servedIn qt_waysOn qt_costOn qt_aheads qt_seen qt_isKept qt_lanes qt_lengths qt_cells t_hasLaw t_hasCounters t_highest t_taped t_fault t_broken t_brokenAt t_spot t_here t_token t_value t_queued t_payed t_bestWait t_bestWhom t_bestCoins t_seenMany t_torn t_state_10 t_readPage t_tape t_cuts t_letters t_queue t_busyTo t_servedIn t_waysOn t_costOn t_aheads t_seen t_isKept t_lanes t_lengths t_cells 130 _ hc) (cwV 1 hts gX9_day_X9_runsTo rfl rfl rfl (by decide +kernel) ⟨Nat.le_of_ble_eq_true rfl, Nat.le_of_ble_eq_true rfl⟩) hK hP hD hS hA [0, 1, 2, 3, 4, 5, 6, 7, 8, 9, 10, 11, 12, 13, 14, 15, 16] [] [0, 1, 2, 3, 4, 5, 6, 7, 8, 9, 10, 11, 12, 13, 14, 15, 16] (w_Mod cI cB cZ cS cT qt qt_state qt_readPage qt_tape qt_cuts qt_letters qt_queue qt_busyTo qt_servedIn qt_waysOn qt_costOn qt_aheads qt_seen qt_isKept qt_lanes qt_lengths qt_cells t_hasLaw t_hasCounters t_highest t_taped t_fault t_broken t_brokenAt t_spot t_here t_token t_value o_11.1 o_11.2.1 t_bestWait t_bestWhom t_bestCoins t_seenMany t_torn o_11.2.2.1 t_readPage t_tape t_cuts t_letters o_11.2.2.2.1 o_11.2.2.2.2.1 o_11.2.2.2.2.2 t_waysOn t_costOn t_aheads t_seen t_isKept t_lanes t_lengths t_cells) rfl rfl rfl rfl (by decide) rfl rfl 9 0 rfl rfl rfl rfl hl.1 rfl (Nat.le_of_ble_eq_true rfl) dX9_day_83 ⟨Nat.zero_le _, Nat.zero_le _⟩ (fun H locs hP hD hS => ?_)
    refine lv_aload_n hx hb dX9_day_86 rfl (lv_at hl 0 rfl) ?_
    refine lv_iload_n hx hb dX9_day_87 rfl (lv_at hl 1 rfl) ?_
    obtain ⟨o_12, hc, hM⟩ := bind_so hM
    refine mr_callVi (As := [.int p2]) (rest := []) (wr := []) ⟨hx, hb, hml, hown, hts⟩ (k_Mod_allOf l D cI cB cZ cS cT qt qt_state qt_readPage qt_tape qt_cuts qt_letters qt_queue qt_busyTo qt_servedIn qt_waysOn qt_costOn qt_aheads qt_seen qt_isKept qt_lanes qt_lengths qt_cells t_hasLaw t_hasCounters t_highest t_taped t_fault t_broken t_brokenAt t_spot t_here t_token t_value o_11.1 o_11.2.1 t_bestWait t_bestWhom t_bestCoins t_seenMany t_torn o_11.2.2.1 t_readPage t_tape t_cuts t_letters o_11.2.2.2.1 o_11.2.2.2.2.1 o_11.2.2.2.2.2 t_waysOn t_costOn t_aheads t_seen t_isKept t_lanes t_lengths t_cells p2 _ hc) (cwV 1 hts gX9_day_X9_allOf rfl rfl rfl (by decide +kernel) ⟨Nat.le_of_ble_eq_true rfl, Nat.le_of_ble_eq_true rfl⟩) hK hP hD hS hA [0, 1, 2, 3, 4, 5, 6, 7, 8, 9, 10, 11, 12, 13, 14, 15, 16] [] [0, 1, 2, 3, 4, 5, 6, 7, 8, 9, 10, 11, 12, 13, 14, 15, 16] (w_Mod cI cB cZ cS cT qt qt_state qt_readPage qt_tape qt_cuts qt_letters qt_queue qt_busyTo qt_servedIn qt_waysOn qt_costOn qt_aheads qt_seen qt_isKept qt_lanes qt_lengths qt_cells t_hasLaw t_hasCounters t_highest t_taped t_fault t_broken t_brokenAt t_spot t_here t_token t_value o_11.1 o_11.2.1 t_bestWait t_bestWhom t_bestCoins t_seenMany t_torn o_11.2.2.1 t_readPage t_tape t_cuts t_letters o_11.2.2.2.1 o_11.2.2.2.2.1 o_11.2.2.2.2.2 t_waysOn t_costOn t_aheads t_seen t_isKept t_lanes t_lengths t_cells) rfl rfl rfl rfl (by decide) rfl rfl 9 0 rfl rfl rfl rfl hl.1 rfl (Nat.le_of_ble_eq_true rfl) dX9_day_88 ⟨Nat.zero_le _, Nat.zero_le _⟩ (fun H locs hP hD hS => ?_)
    have hM := Option.some.inj hM
    subst hM
    exact mr_iret hx hb hr hlocks hQ hP hD hS rfl dX9_day_91
  · refine lv_iconst (v := (-1)) hx hb dX9_day_12 (by decide) ?_
    have hM := Option.some.inj hM
    subst hM
    exact mr_iret hx hb hr hlocks hQ hP hD hS rfl dX9_day_13

abbrev rmX9_keep : Room := { frames := 1, cells := 0, slots := 0, locals := 25 }
set_option maxHeartbeats 40000000 in
set_option maxRecDepth 100000 in
theorem k_Mod_keep (l : Launch) (D : va_G) (cI cB cZ cS cT : ClassId) (qt qt_state qt_readPage qt_tape qt_cuts qt_letters qt_queue qt_busyTo qt_servedIn qt_waysOn qt_costOn qt_aheads qt_seen qt_isKept qt_lanes qt_lengths qt_cells : Nat) (t_hasLaw t_hasCounters t_highest t_taped t_fault t_broken t_brokenAt t_spot t_here t_token t_value t_queued t_payed t_bestWait t_bestWhom t_bestCoins t_seenMany t_torn : Int32) (t_state t_readPage t_tape t_cuts t_letters t_queue t_busyTo t_servedIn t_waysOn t_costOn t_aheads t_seen t_isKept t_lanes t_lengths t_cells : Nat → Int32) (p1 : Int32) (o : Int32 × (Nat → Int32) × (Nat → Int32)) (hM : Mod_keep p1 t_state t_isKept = some o) : mtI l yX9_keep wsX9_keep rmX9_keep D (tys5 cI cB cZ cS cT) [.ref qt, .int p1] (w_Mod cI cB cZ cS cT qt qt_state qt_readPage qt_tape qt_cuts qt_letters qt_queue qt_busyTo qt_servedIn qt_waysOn qt_costOn qt_aheads qt_seen qt_isKept qt_lanes qt_lengths qt_cells t_hasLaw t_hasCounters t_highest t_taped t_fault t_broken t_brokenAt t_spot t_here t_token t_value t_queued t_payed t_bestWait t_bestWhom t_bestCoins t_seenMany t_torn t_state t_readPage t_tape t_cuts t_letters t_queue t_busyTo t_servedIn t_waysOn t_costOn t_aheads t_seen t_isKept t_lanes t_lengths t_cells) (w_Mod cI cB cZ cS cT qt qt_state qt_readPage qt_tape qt_cuts qt_letters qt_queue qt_busyTo qt_servedIn qt_waysOn qt_costOn qt_aheads qt_seen qt_isKept qt_lanes qt_lengths qt_cells t_hasLaw t_hasCounters t_highest t_taped t_fault t_broken t_brokenAt t_spot t_here t_token t_value t_queued t_payed t_bestWait t_bestWhom t_bestCoins t_seenMany t_torn o.2.1 t_readPage t_tape t_cuts t_letters t_queue t_busyTo t_servedIn t_waysOn t_costOn t_aheads t_seen o.2.2 t_lanes t_lengths t_cells) o.1 := by
  refine mtI.of (cc := cX9_keep) (maxL := 3) (ret := (some .int)) (by decide) rfl (Nat.le_of_ble_eq_true rfl) ?_
  intro p e s m below meth c A Q av hav hQ hx hb hr hml hown hts hlocks hK hP hD hA hS ls hl
  have hown : s.vm.findClass RX9 = some m.cls := hown
  have hl : lv_has ls 3 [(0, .ref qt), (1, .int p1)] := hl
  unfold Mod_keep at hM
  have inX9w : ∀ w ∈ u_ws RX9 TX9 34, w ∈ wsX9_keep := by decide +kernel
  have hf46 := hts (.fieldLink RX9 46 "LetsInModel" "isKept" "[Z") (by decide +kernel)
  refine lv_iload_n hx hb dX9_keep_0 rfl (lv_at hl 1 rfl) ?_
  refine lv_i2l hx hb dX9_keep_1 rfl ?_
  refine lv_lconst (v := 0) hx hb dX9_keep_2 (by decide) ?_
  refine lv_lconst (v := 1) hx hb dX9_keep_3 (by decide) ?_
  obtain ⟨o_1, hc, hM⟩ := bind_so hM
  refine mr_callSi (As := [.long p1.toInt64, .long 0, .long 1]) (rest := []) ⟨hx, hb, hml, hown, hts⟩ (k_Mod_in l D cI cB cZ cS cT   p1.toInt64 0 1 _ hc) (cwS 3 hts gX9_keep_X9_in rfl rfl rfl (by decide +kernel) ⟨Nat.le_of_ble_eq_true rfl, Nat.le_of_ble_eq_true rfl⟩) hK hP hD hS hA rfl hl.1 rfl (Nat.le_of_ble_eq_true rfl) dX9_keep_4 ⟨Nat.zero_le _, Nat.zero_le _⟩ (fun H locs hP hS => ?_)
  refine mr_if_ne (tgt := 12) hx hb hM dX9_keep_7 (by decide) (fun hM => ?_) (fun hM => ?_)
  · refine lv_aload_n hx hb dX9_keep_12 rfl (lv_at hl 0 rfl) ?_
    refine lv_iconst (v := 0) hx hb dX9_keep_13 (by decide) ?_
    refine lv_bipush (v := 94) hx hb dX9_keep_14 (by decide) ?_
    refine lv_iload_n hx hb dX9_keep_16 rfl (lv_at hl 1 rfl) ?_
    refine lv_iconst (v := 1) hx hb dX9_keep_17 (by decide) ?_
    refine lv_iadd hx hb dX9_keep_18 ?_
    refine lv_imul hx hb dX9_keep_19 ?_
    obtain ⟨o_2, hc, hM⟩ := bind_so hM
    refine mr_callVv (As := [.int 0, .int (94 * (p1 + 1))]) (rest := []) (wr := []) ⟨hx, hb, hml, hown, hts⟩ (k_Mod_copies l D cI cB cZ cS cT qt qt_state qt_readPage qt_tape qt_cuts qt_letters qt_queue qt_busyTo qt_servedIn qt_waysOn qt_costOn qt_aheads qt_seen qt_isKept qt_lanes qt_lengths qt_cells t_hasLaw t_hasCounters t_highest t_taped t_fault t_broken t_brokenAt t_spot t_here t_token t_value t_queued t_payed t_bestWait t_bestWhom t_bestCoins t_seenMany t_torn t_state t_readPage t_tape t_cuts t_letters t_queue t_busyTo t_servedIn t_waysOn t_costOn t_aheads t_seen t_isKept t_lanes t_lengths t_cells 0 (94 * (p1 + 1)) _ hc) (cwV 2 hts gX9_keep_X9_copies rfl rfl rfl (by decide +kernel) ⟨Nat.le_of_ble_eq_true rfl, Nat.le_of_ble_eq_true rfl⟩) hK hP hD hS hA [0, 1, 2, 3, 4, 5, 6, 7, 8, 9, 10, 11, 12, 13, 14, 15, 16] [] [0, 1, 2, 3, 4, 5, 6, 7, 8, 9, 10, 11, 12, 13, 14, 15, 16] (w_Mod cI cB cZ cS cT qt qt_state qt_readPage qt_tape qt_cuts qt_letters qt_queue qt_busyTo qt_servedIn qt_waysOn qt_costOn qt_aheads qt_seen qt_isKept qt_lanes qt_lengths qt_cells t_hasLaw t_hasCounters t_highest t_taped t_fault t_broken t_brokenAt t_spot t_here t_token t_value t_queued t_payed t_bestWait t_bestWhom t_bestCoins t_seenMany t_torn o_2 t_readPage t_tape t_cuts t_letters t_queue t_busyTo t_servedIn t_waysOn t_costOn t_aheads t_seen t_isKept t_lanes t_lengths t_cells) rfl rfl rfl rfl (by decide) rfl rfl 9 0 rfl rfl rfl rfl hl.1 rfl (Nat.le_of_ble_eq_true rfl) dX9_keep_20 ⟨Nat.zero_le _, Nat.zero_le _⟩ (fun H locs hP hD hS => ?_)
    refine lv_aload_n hx hb dX9_keep_23 rfl (lv_at hl 0 rfl) ?_
    refine va_get (D := D) (ci := 9) (v := .ref qt_isKept) (C := RX9) (T := TX9) (N := 34) hx hb hts inX9w hown hK hP 0 rfl rfl 29 (by decide) hf46 (fun _ h9 => h9) rfl dX9_keep_24 ?_
    refine lv_iload_n hx hb dX9_keep_27 rfl (lv_at hl 1 rfl) ?_
    refine mr_zald hx hb hK hP 13 2 rfl rfl hM dX9_keep_28 (fun v_3 hM => ?_)
    refine mr_jn hM (fun j37_4 => ∀ (y_5 : Int32), j37_4 y_5 = some o → ∀ (H : Heap) (locs : List Loc), va_P D vwCl (w_Mod cI cB cZ cS cT qt qt_state qt_readPage qt_tape qt_cuts qt_letters qt_queue qt_busyTo qt_servedIn qt_waysOn qt_costOn qt_aheads qt_seen qt_isKept qt_lanes qt_lengths qt_cells t_hasLaw t_hasCounters t_highest t_taped t_fault t_broken t_brokenAt t_spot t_here t_token t_value t_queued t_payed t_bestWait t_bestWhom t_bestCoins t_seenMany t_torn o_2 t_readPage t_tape t_cuts t_letters t_queue t_busyTo t_servedIn t_waysOn t_costOn t_aheads t_seen t_isKept t_lanes t_lengths t_cells) H → va_D A (w_Mod cI cB cZ cS cT qt qt_state qt_readPage qt_tape qt_cuts qt_letters qt_queue qt_busyTo qt_servedIn qt_waysOn qt_costOn qt_aheads qt_seen qt_isKept qt_lanes qt_lengths qt_cells t_hasLaw t_hasCounters t_highest t_taped t_fault t_broken t_brokenAt t_spot t_here t_token t_value t_queued t_payed t_bestWait t_bestWhom t_bestCoins t_seenMany t_torn o_2 t_readPage t_tape t_cuts t_letters t_queue t_busyTo t_servedIn t_waysOn t_costOn t_aheads t_seen t_isKept t_lanes t_lengths t_cells) → va_S A s.heap H locs → ∀ ls : Array Slot, lv_has ls 3 [(0, .ref qt), (1, .int p1)] → W p l e rmX9_keep s m av below meth c H locs 0 0 Q (F0 m 37 ls [.int y_5])) (fun y_5 hM H locs hP hD hS ls hl => ?_) (fun j37_4 hj37_4 hM => ?_)
    · refine lv_istore_n (lv' := [(2, .int y_5), (0, .ref qt), (1, .int p1)]) hx hb dX9_keep_37 rfl hl (by decide) rfl (fun ls hl => ?_)
      refine lv_aload_n hx hb dX9_keep_38 rfl (lv_at hl 1 rfl) ?_
      refine va_get (D := D) (ci := 9) (v := .ref qt_isKept) (C := RX9) (T := TX9) (N := 34) hx hb hts inX9w hown hK hP 0 rfl rfl 29 (by decide) hf46 (fun _ h9 => h9) rfl dX9_keep_39 ?_
      refine lv_iload_n hx hb dX9_keep_42 rfl (lv_at hl 2 rfl) ?_
      refine lv_iconst (v := 1) hx hb dX9_keep_43 (by decide) ?_
      refine mr_zast hx hb hK hP hD hS 13 2 (fun t_isKept_6 => (w_Mod cI cB cZ cS cT qt qt_state qt_readPage qt_tape qt_cuts qt_letters qt_queue qt_busyTo qt_servedIn qt_waysOn qt_costOn qt_aheads qt_seen qt_isKept qt_lanes qt_lengths qt_cells t_hasLaw t_hasCounters t_highest t_taped t_fault t_broken t_brokenAt t_spot t_here t_token t_value t_queued t_payed t_bestWait t_bestWhom t_bestCoins t_seenMany t_torn o_2 t_readPage t_tape t_cuts t_letters t_queue t_busyTo t_servedIn t_waysOn t_costOn t_aheads t_seen t_isKept_6 t_lanes t_lengths t_cells)) rfl rfl (fun _ => rfl) hM dX9_keep_44 (fun t_isKept_6 hM H locs hP hD hS => ?_)
      refine lv_iload_n hx hb dX9_keep_45 rfl (lv_at hl 0 rfl) ?_
      have hM := Option.some.inj hM
      subst hM
      exact mr_iret hx hb hr hlocks hQ hP hD hS rfl dX9_keep_46
    · refine mr_if_eq (tgt := 36) hx hb hM dX9_keep_29 (by decide) (fun hM => ?_) (fun hM => ?_)
      · refine lv_iconst (v := 0) hx hb dX9_keep_36 (by decide) ?_
        exact hj37_4 0 hM _ _ hP hD hS ls (lv_sub hl [0, 1] rfl)
      · refine lv_iconst (v := 1) hx hb dX9_keep_32 (by decide) ?_
        refine lv_goto (tgt := 37) hx hb dX9_keep_33 (by decide) ?_
        exact hj37_4 1 hM _ _ hP hD hS ls (lv_sub hl [0, 1] rfl)
  · refine lv_iconst (v := (-1)) hx hb dX9_keep_10 (by decide) ?_
    have hM := Option.some.inj hM
    subst hM
    exact mr_iret hx hb hr hlocks hQ hP hD hS rfl dX9_keep_11

abbrev rmX9_back : Room := { frames := 1, cells := 0, slots := 0, locals := 25 }
set_option maxHeartbeats 40000000 in
set_option maxRecDepth 100000 in
theorem k_Mod_back (l : Launch) (D : va_G) (cI cB cZ cS cT : ClassId) (qt qt_state qt_readPage qt_tape qt_cuts qt_letters qt_queue qt_busyTo qt_servedIn qt_waysOn qt_costOn qt_aheads qt_seen qt_isKept qt_lanes qt_lengths qt_cells : Nat) (t_hasLaw t_hasCounters t_highest t_taped t_fault t_broken t_brokenAt t_spot t_here t_token t_value t_queued t_payed t_bestWait t_bestWhom t_bestCoins t_seenMany t_torn : Int32) (t_state t_readPage t_tape t_cuts t_letters t_queue t_busyTo t_servedIn t_waysOn t_costOn t_aheads t_seen t_isKept t_lanes t_lengths t_cells : Nat → Int32) (p1 : Int32) (o : Int32 × (Nat → Int32)) (hM : Mod_back p1 t_state t_isKept = some o) : mtI l yX9_back wsX9_back rmX9_back D (tys5 cI cB cZ cS cT) [.ref qt, .int p1] (w_Mod cI cB cZ cS cT qt qt_state qt_readPage qt_tape qt_cuts qt_letters qt_queue qt_busyTo qt_servedIn qt_waysOn qt_costOn qt_aheads qt_seen qt_isKept qt_lanes qt_lengths qt_cells t_hasLaw t_hasCounters t_highest t_taped t_fault t_broken t_brokenAt t_spot t_here t_token t_value t_queued t_payed t_bestWait t_bestWhom t_bestCoins t_seenMany t_torn t_state t_readPage t_tape t_cuts t_letters t_queue t_busyTo t_servedIn t_waysOn t_costOn t_aheads t_seen t_isKept t_lanes t_lengths t_cells) (w_Mod cI cB cZ cS cT qt qt_state qt_readPage qt_tape qt_cuts qt_letters qt_queue qt_busyTo qt_servedIn qt_waysOn qt_costOn qt_aheads qt_seen qt_isKept qt_lanes qt_lengths qt_cells t_hasLaw t_hasCounters t_highest t_taped t_fault t_broken t_brokenAt t_spot t_here t_token t_value t_queued t_payed t_bestWait t_bestWhom t_bestCoins t_seenMany t_torn o.2 t_readPage t_tape t_cuts t_letters t_queue t_busyTo t_servedIn t_waysOn t_costOn t_aheads t_seen t_isKept t_lanes t_lengths t_cells) o.1 := by
  refine mtI.of (cc := cX9_back) (maxL := 2) (ret := (some .int)) (by decide) rfl (Nat.le_of_ble_eq_true rfl) ?_
  intro p e s m below meth c A Q av hav hQ hx hb hr hml hown hts hlocks hK hP hD hA hS ls hl
  have hown : s.vm.findClass RX9 = some m.cls := hown
  have hl : lv_has ls 2 [(0, .ref qt), (1, .int p1)] := hl
  unfold Mod_back at hM
  have inX9w : ∀ w ∈ u_ws RX9 TX9 34, w ∈ wsX9_back := by decide +kernel
  have hf46 := hts (.fieldLink RX9 46 "LetsInModel" "isKept" "[Z") (by decide +kernel)
  refine lv_iload_n hx hb dX9_back_0 rfl (lv_at hl 1 rfl) ?_
  refine lv_i2l hx hb dX9_back_1 rfl ?_
  refine lv_lconst (v := 0) hx hb dX9_back_2 (by decide) ?_
  refine lv_lconst (v := 1) hx hb dX9_back_3 (by decide) ?_
  obtain ⟨o_1, hc, hM⟩ := bind_so hM
  refine mr_callSi (As := [.long p1.toInt64, .long 0, .long 1]) (rest := []) ⟨hx, hb, hml, hown, hts⟩ (k_Mod_in l D cI cB cZ cS cT   p1.toInt64 0 1 _ hc) (cwS 3 hts gX9_back_X9_in rfl rfl rfl (by decide +kernel) ⟨Nat.le_of_ble_eq_true rfl, Nat.le_of_ble_eq_true rfl⟩) hK hP hD hS hA rfl hl.1 rfl (Nat.le_of_ble_eq_true rfl) dX9_back_4 ⟨Nat.zero_le _, Nat.zero_le _⟩ (fun H locs hP hS => ?_)
  refine mr_if_ne (tgt := 12) hx hb hM dX9_back_7 (by decide) (fun hM => ?_) (fun hM => ?_)
  · refine lv_aload_n hx hb dX9_back_12 rfl (lv_at hl 0 rfl) ?_
    refine va_get (D := D) (ci := 9) (v := .ref qt_isKept) (C := RX9) (T := TX9) (N := 34) hx hb hts inX9w hown hK hP 0 rfl rfl 29 (by decide) hf46 (fun _ h9 => h9) rfl dX9_back_13 ?_
    refine lv_iload_n hx hb dX9_back_16 rfl (lv_at hl 1 rfl) ?_
    refine mr_zald hx hb hK hP 13 2 rfl rfl hM dX9_back_17 (fun v_2 hM => ?_)
    refine mr_if_ne (tgt := 24) hx hb hM dX9_back_18 (by decide) (fun hM => ?_) (fun hM => ?_)
    · refine lv_aload_n hx hb dX9_back_24 rfl (lv_at hl 0 rfl) ?_
      refine lv_bipush (v := 94) hx hb dX9_back_25 (by decide) ?_
      refine lv_iload_n hx hb dX9_back_27 rfl (lv_at hl 1 rfl) ?_
      refine lv_iconst (v := 1) hx hb dX9_back_28 (by decide) ?_
      refine lv_iadd hx hb dX9_back_29 ?_
      refine lv_imul hx hb dX9_back_30 ?_
      refine lv_iconst (v := 0) hx hb dX9_back_31 (by decide) ?_
      obtain ⟨o_3, hc, hM⟩ := bind_so hM
      refine mr_callVv (As := [.int (94 * (p1 + 1)), .int 0]) (rest := []) (wr := []) ⟨hx, hb, hml, hown, hts⟩ (k_Mod_copies l D cI cB cZ cS cT qt qt_state qt_readPage qt_tape qt_cuts qt_letters qt_queue qt_busyTo qt_servedIn qt_waysOn qt_costOn qt_aheads qt_seen qt_isKept qt_lanes qt_lengths qt_cells t_hasLaw t_hasCounters t_highest t_taped t_fault t_broken t_brokenAt t_spot t_here t_token t_value t_queued t_payed t_bestWait t_bestWhom t_bestCoins t_seenMany t_torn t_state t_readPage t_tape t_cuts t_letters t_queue t_busyTo t_servedIn t_waysOn t_costOn t_aheads t_seen t_isKept t_lanes t_lengths t_cells (94 * (p1 + 1)) 0 _ hc) (cwV 2 hts gX9_back_X9_copies rfl rfl rfl (by decide +kernel) ⟨Nat.le_of_ble_eq_true rfl, Nat.le_of_ble_eq_true rfl⟩) hK hP hD hS hA [0, 1, 2, 3, 4, 5, 6, 7, 8, 9, 10, 11, 12, 13, 14, 15, 16] [] [0, 1, 2, 3, 4, 5, 6, 7, 8, 9, 10, 11, 12, 13, 14, 15, 16] (w_Mod cI cB cZ cS cT qt qt_state qt_readPage qt_tape qt_cuts qt_letters qt_queue qt_busyTo qt_servedIn qt_waysOn qt_costOn qt_aheads qt_seen qt_isKept qt_lanes qt_lengths qt_cells t_hasLaw t_hasCounters t_highest t_taped t_fault t_broken t_brokenAt t_spot t_here t_token t_value t_queued t_payed t_bestWait t_bestWhom t_bestCoins t_seenMany t_torn o_3 t_readPage t_tape t_cuts t_letters t_queue t_busyTo t_servedIn t_waysOn t_costOn t_aheads t_seen t_isKept t_lanes t_lengths t_cells) rfl rfl rfl rfl (by decide) rfl rfl 9 0 rfl rfl rfl rfl hl.1 rfl (Nat.le_of_ble_eq_true rfl) dX9_back_32 ⟨Nat.zero_le _, Nat.zero_le _⟩ (fun H locs hP hD hS => ?_)
      refine lv_aload_n hx hb dX9_back_35 rfl (lv_at hl 0 rfl) ?_
      obtain ⟨o_4, hc, hM⟩ := bind_so hM
      refine mr_callVi (As := []) (rest := []) (wr := []) ⟨hx, hb, hml, hown, hts⟩ (k_Mod_many l D cI cB cZ cS cT qt qt_state qt_readPage qt_tape qt_cuts qt_letters qt_queue qt_busyTo qt_servedIn qt_waysOn qt_costOn qt_aheads qt_seen qt_isKept qt_lanes qt_lengths qt_cells t_hasLaw t_hasCounters t_highest t_taped t_fault t_broken t_brokenAt t_spot t_here t_token t_value t_queued t_payed t_bestWait t_bestWhom t_bestCoins t_seenMany t_torn o_3 t_readPage t_tape t_cuts t_letters t_queue t_busyTo t_servedIn t_waysOn t_costOn t_aheads t_seen t_isKept t_lanes t_lengths t_cells  _ hc) (cwV 0 hts gX9_back_X9_many rfl rfl rfl (by decide +kernel) ⟨Nat.le_of_ble_eq_true rfl, Nat.le_of_ble_eq_true rfl⟩) hK hP hD hS hA [0, 1, 2, 3, 4, 5, 6, 7, 8, 9, 10, 11, 12, 13, 14, 15, 16] [] [0, 1, 2, 3, 4, 5, 6, 7, 8, 9, 10, 11, 12, 13, 14, 15, 16] (w_Mod cI cB cZ cS cT qt qt_state qt_readPage qt_tape qt_cuts qt_letters qt_queue qt_busyTo qt_servedIn qt_waysOn qt_costOn qt_aheads qt_seen qt_isKept qt_lanes qt_lengths qt_cells t_hasLaw t_hasCounters t_highest t_taped t_fault t_broken t_brokenAt t_spot t_here t_token t_value t_queued t_payed t_bestWait t_bestWhom t_bestCoins t_seenMany t_torn o_3 t_readPage t_tape t_cuts t_letters t_queue t_busyTo t_servedIn t_waysOn t_costOn t_aheads t_seen t_isKept t_lanes t_lengths t_cells) rfl rfl rfl rfl (by decide) rfl rfl 9 0 rfl rfl rfl rfl hl.1 rfl (Nat.le_of_ble_eq_true rfl) dX9_back_36 ⟨Nat.zero_le _, Nat.zero_le _⟩ (fun H locs hP hD hS => ?_)
      have hM := Option.some.inj hM
      subst hM
      exact mr_iret hx hb hr hlocks hQ hP hD hS rfl dX9_back_39
    · refine lv_bipush (v := (-2)) hx hb dX9_back_21 (by decide) ?_
      have hM := Option.some.inj hM
      subst hM
      exact mr_iret hx hb hr hlocks hQ hP hD hS rfl dX9_back_23
  · refine lv_iconst (v := (-1)) hx hb dX9_back_10 (by decide) ?_
    have hM := Option.some.inj hM
    subst hM
    exact mr_iret hx hb hr hlocks hQ hP hD hS rfl dX9_back_11

abbrev rmX9_sheet : Room := { frames := 1, cells := 0, slots := 0, locals := 25 }
set_option maxHeartbeats 40000000 in
set_option maxRecDepth 100000 in
theorem k_Mod_sheet (l : Launch) (D : va_G) (cI cB cZ cS cT : ClassId) (qt qt_state qt_readPage qt_tape qt_cuts qt_letters qt_queue qt_busyTo qt_servedIn qt_waysOn qt_costOn qt_aheads qt_seen qt_isKept qt_lanes qt_lengths qt_cells : Nat) (t_hasLaw t_hasCounters t_highest t_taped t_fault t_broken t_brokenAt t_spot t_here t_token t_value t_queued t_payed t_bestWait t_bestWhom t_bestCoins t_seenMany t_torn : Int32) (t_state t_readPage t_tape t_cuts t_letters t_queue t_busyTo t_servedIn t_waysOn t_costOn t_aheads t_seen t_isKept t_lanes t_lengths t_cells : Nat → Int32) (p1 p2 p3 : Int32) (o : Int32 × (Nat → Int32) × (Nat → Int32) × (Nat → Int32)) (hM : Mod_sheet p1 p2 p3 t_lanes t_lengths t_cells = some o) : mtI l yX9_sheet wsX9_sheet rmX9_sheet D (tys5 cI cB cZ cS cT) [.ref qt, .int p1, .int p2, .int p3] (w_Mod cI cB cZ cS cT qt qt_state qt_readPage qt_tape qt_cuts qt_letters qt_queue qt_busyTo qt_servedIn qt_waysOn qt_costOn qt_aheads qt_seen qt_isKept qt_lanes qt_lengths qt_cells t_hasLaw t_hasCounters t_highest t_taped t_fault t_broken t_brokenAt t_spot t_here t_token t_value t_queued t_payed t_bestWait t_bestWhom t_bestCoins t_seenMany t_torn t_state t_readPage t_tape t_cuts t_letters t_queue t_busyTo t_servedIn t_waysOn t_costOn t_aheads t_seen t_isKept t_lanes t_lengths t_cells) (w_Mod cI cB cZ cS cT qt qt_state qt_readPage qt_tape qt_cuts qt_letters qt_queue qt_busyTo qt_servedIn qt_waysOn qt_costOn qt_aheads qt_seen qt_isKept qt_lanes qt_lengths qt_cells t_hasLaw t_hasCounters t_highest t_taped t_fault t_broken t_brokenAt t_spot t_here t_token t_value t_queued t_payed t_bestWait t_bestWhom t_bestCoins t_seenMany t_torn t_state t_readPage t_tape t_cuts t_letters t_queue t_busyTo t_servedIn t_waysOn t_costOn t_aheads t_seen t_isKept o.2.1 o.2.2.1 o.2.2.2) o.1 := by
  refine mtI.of (cc := cX9_sheet) (maxL := 5) (ret := (some .int)) (by decide) rfl (Nat.le_of_ble_eq_true rfl) ?_
  intro p e s m below meth c A Q av hav hQ hx hb hr hml hown hts hlocks hK hP hD hA hS ls hl
  have hown : s.vm.findClass RX9 = some m.cls := hown
  have hl : lv_has ls 5 [(0, .ref qt), (1, .int p1), (2, .int p2), (3, .int p3)] := hl
  unfold Mod_sheet at hM
  have inX9w : ∀ w ∈ u_ws RX9 TX9 34, w ∈ wsX9_sheet := by decide +kernel
  have hfc121 := hts (.constantLong RX9 121 3) (by decide +kernel)
  have hfc169 := hts (.constantLong RX9 169 2) (by decide +kernel)
  have hf50 := hts (.fieldLink RX9 50 "LetsInModel" "lanes" "[I") (by decide +kernel)
  have hf53 := hts (.fieldLink RX9 53 "LetsInModel" "lengths" "[I") (by decide +kernel)
  have hf56 := hts (.fieldLink RX9 56 "LetsInModel" "cells" "[I") (by decide +kernel)
  refine lv_iload_n hx hb dX9_sheet_0 rfl (lv_at hl 1 rfl) ?_
  refine lv_i2l hx hb dX9_sheet_1 rfl ?_
  refine lv_lconst (v := 0) hx hb dX9_sheet_2 (by decide) ?_
  refine lv_ldc2 (v := 3) hx hb hown hfc121 dX9_sheet_3 ?_
  obtain ⟨o_1, hc, hM⟩ := bind_so hM
  refine mr_callSi (As := [.long p1.toInt64, .long 0, .long 3]) (rest := []) ⟨hx, hb, hml, hown, hts⟩ (k_Mod_in l D cI cB cZ cS cT   p1.toInt64 0 3 _ hc) (cwS 3 hts gX9_sheet_X9_in rfl rfl rfl (by decide +kernel) ⟨Nat.le_of_ble_eq_true rfl, Nat.le_of_ble_eq_true rfl⟩) hK hP hD hS hA rfl hl.1 rfl (Nat.le_of_ble_eq_true rfl) dX9_sheet_6 ⟨Nat.zero_le _, Nat.zero_le _⟩ (fun H locs hP hS => ?_)
  refine mr_if_eq (tgt := 30) hx hb hM dX9_sheet_9 (by decide) (fun hM => ?_) (fun hM => ?_)
  · refine lv_iconst (v := (-1)) hx hb dX9_sheet_30 (by decide) ?_
    have hM := Option.some.inj hM
    subst hM
    exact mr_iret hx hb hr hlocks hQ hP hD hS rfl dX9_sheet_31
  · refine lv_iload_n hx hb dX9_sheet_12 rfl (lv_at hl 2 rfl) ?_
    refine lv_i2l hx hb dX9_sheet_13 rfl ?_
    refine lv_lconst (v := 0) hx hb dX9_sheet_14 (by decide) ?_
    refine lv_ldc2 (v := 2) hx hb hown hfc169 dX9_sheet_15 ?_
    obtain ⟨o_2, hc, hM⟩ := bind_so hM
    refine mr_callSi (As := [.long p2.toInt64, .long 0, .long 2]) (rest := []) ⟨hx, hb, hml, hown, hts⟩ (k_Mod_in l D cI cB cZ cS cT   p2.toInt64 0 2 _ hc) (cwS 3 hts gX9_sheet_X9_in rfl rfl rfl (by decide +kernel) ⟨Nat.le_of_ble_eq_true rfl, Nat.le_of_ble_eq_true rfl⟩) hK hP hD hS hA rfl hl.1 rfl (Nat.le_of_ble_eq_true rfl) dX9_sheet_18 ⟨Nat.zero_le _, Nat.zero_le _⟩ (fun H locs hP hS => ?_)
    refine mr_if_eq (tgt := 30) hx hb hM dX9_sheet_21 (by decide) (fun hM => ?_) (fun hM => ?_)
    · refine lv_iconst (v := (-1)) hx hb dX9_sheet_30 (by decide) ?_
      have hM := Option.some.inj hM
      subst hM
      exact mr_iret hx hb hr hlocks hQ hP hD hS rfl dX9_sheet_31
    · refine lv_iload_n hx hb dX9_sheet_24 rfl (lv_at hl 3 rfl) ?_
      refine lv_bipush (v := 40) hx hb dX9_sheet_25 (by decide) ?_
      refine mr_icmp_le (tgt := 32) hx hb hM dX9_sheet_27 (by decide) (fun hM => ?_) (fun hM => ?_)
      · refine lv_iload_n hx hb dX9_sheet_32 rfl (lv_at hl 3 rfl) ?_
        refine mr_if_ge (tgt := 39) hx hb hM dX9_sheet_33 (by decide) (fun hM => ?_) (fun hM => ?_)
        · refine lv_aload_n hx hb dX9_sheet_39 rfl (lv_at hl 0 rfl) ?_
          refine va_get (D := D) (ci := 9) (v := .ref qt_lanes) (C := RX9) (T := TX9) (N := 34) hx hb hts inX9w hown hK hP 0 rfl rfl 30 (by decide) hf50 (fun _ h9 => h9) rfl dX9_sheet_40 ?_
          refine lv_iload_n hx hb dX9_sheet_43 rfl (lv_at hl 1 rfl) ?_
          refine lv_iload_n hx hb dX9_sheet_44 rfl (lv_at hl 2 rfl) ?_
          refine mr_iast hx hb hK hP hD hS 14 0 (fun t_lanes_3 => (w_Mod cI cB cZ cS cT qt qt_state qt_readPage qt_tape qt_cuts qt_letters qt_queue qt_busyTo qt_servedIn qt_waysOn qt_costOn qt_aheads qt_seen qt_isKept qt_lanes qt_lengths qt_cells t_hasLaw t_hasCounters t_highest t_taped t_fault t_broken t_brokenAt t_spot t_here t_token t_value t_queued t_payed t_bestWait t_bestWhom t_bestCoins t_seenMany t_torn t_state t_readPage t_tape t_cuts t_letters t_queue t_busyTo t_servedIn t_waysOn t_costOn t_aheads t_seen t_isKept t_lanes_3 t_lengths t_cells)) rfl rfl (fun _ => rfl) hM dX9_sheet_45 (fun t_lanes_3 hM H locs hP hD hS => ?_)
          refine lv_aload_n hx hb dX9_sheet_46 rfl (lv_at hl 0 rfl) ?_
          refine va_get (D := D) (ci := 9) (v := .ref qt_lengths) (C := RX9) (T := TX9) (N := 34) hx hb hts inX9w hown hK hP 0 rfl rfl 31 (by decide) hf53 (fun _ h9 => h9) rfl dX9_sheet_47 ?_
          refine lv_iload_n hx hb dX9_sheet_50 rfl (lv_at hl 1 rfl) ?_
          refine lv_iload_n hx hb dX9_sheet_51 rfl (lv_at hl 3 rfl) ?_
          refine mr_iast hx hb hK hP hD hS 15 0 (fun t_lengths_4 => (w_Mod cI cB cZ cS cT qt qt_state qt_readPage qt_tape qt_cuts qt_letters qt_queue qt_busyTo qt_servedIn qt_waysOn qt_costOn qt_aheads qt_seen qt_isKept qt_lanes qt_lengths qt_cells t_hasLaw t_hasCounters t_highest t_taped t_fault t_broken t_brokenAt t_spot t_here t_token t_value t_queued t_payed t_bestWait t_bestWhom t_bestCoins t_seenMany t_torn t_state t_readPage t_tape t_cuts t_letters t_queue t_busyTo t_servedIn t_waysOn t_costOn t_aheads t_seen t_isKept t_lanes_3 t_lengths_4 t_cells)) rfl rfl (fun _ => rfl) hM dX9_sheet_52 (fun t_lengths_4 hM H locs hP hD hS => ?_)
          refine lv_iconst (v := 0) hx hb dX9_sheet_53 (by decide) ?_
          refine lv_istore (lv' := [(4, .int 0), (0, .ref qt), (1, .int p1), (2, .int p2), (3, .int p3)]) hx hb dX9_sheet_54 hl (by decide) rfl (fun ls hl => ?_)
          have hL56 : ∀ (K82 : (Nat → Int32) → Option (Int32 × (Nat → Int32) × (Nat → Int32) × (Nat → Int32))), (∀ (t_cells_9 : Nat → Int32), K82 t_cells_9 = some o → ∀ (H : Heap) (locs : List Loc), va_P D vwCl (w_Mod cI cB cZ cS cT qt qt_state qt_readPage qt_tape qt_cuts qt_letters qt_queue qt_busyTo qt_servedIn qt_waysOn qt_costOn qt_aheads qt_seen qt_isKept qt_lanes qt_lengths qt_cells t_hasLaw t_hasCounters t_highest t_taped t_fault t_broken t_brokenAt t_spot t_here t_token t_value t_queued t_payed t_bestWait t_bestWhom t_bestCoins t_seenMany t_torn t_state t_readPage t_tape t_cuts t_letters t_queue t_busyTo t_servedIn t_waysOn t_costOn t_aheads t_seen t_isKept t_lanes_3 t_lengths_4 t_cells_9) H → va_D A (w_Mod cI cB cZ cS cT qt qt_state qt_readPage qt_tape qt_cuts qt_letters qt_queue qt_busyTo qt_servedIn qt_waysOn qt_costOn qt_aheads qt_seen qt_isKept qt_lanes qt_lengths qt_cells t_hasLaw t_hasCounters t_highest t_taped t_fault t_broken t_brokenAt t_spot t_here t_token t_value t_queued t_payed t_bestWait t_bestWhom t_bestCoins t_seenMany t_torn t_state t_readPage t_tape t_cuts t_letters t_queue t_busyTo t_servedIn t_waysOn t_costOn t_aheads t_seen t_isKept t_lanes_3 t_lengths_4 t_cells_9) → va_S A s.heap H locs → ∀ ls : Array Slot, lv_has ls 5 [] → W p l e rmX9_sheet s m av below meth c H locs 0 0 Q (F0 m 82 ls [])) → ∀ (n : Nat) (x4_5 : Int32) (t_cells_6 : Nat → Int32), Mod_sheet_L56 p1 K82 n x4_5 t_cells_6 = some o → ∀ (H : Heap) (locs : List Loc), va_P D vwCl (w_Mod cI cB cZ cS cT qt qt_state qt_readPage qt_tape qt_cuts qt_letters qt_queue qt_busyTo qt_servedIn qt_waysOn qt_costOn qt_aheads qt_seen qt_isKept qt_lanes qt_lengths qt_cells t_hasLaw t_hasCounters t_highest t_taped t_fault t_broken t_brokenAt t_spot t_here t_token t_value t_queued t_payed t_bestWait t_bestWhom t_bestCoins t_seenMany t_torn t_state t_readPage t_tape t_cuts t_letters t_queue t_busyTo t_servedIn t_waysOn t_costOn t_aheads t_seen t_isKept t_lanes_3 t_lengths_4 t_cells_6) H → va_D A (w_Mod cI cB cZ cS cT qt qt_state qt_readPage qt_tape qt_cuts qt_letters qt_queue qt_busyTo qt_servedIn qt_waysOn qt_costOn qt_aheads qt_seen qt_isKept qt_lanes qt_lengths qt_cells t_hasLaw t_hasCounters t_highest t_taped t_fault t_broken t_brokenAt t_spot t_here t_token t_value t_queued t_payed t_bestWait t_bestWhom t_bestCoins t_seenMany t_torn t_state t_readPage t_tape t_cuts t_letters t_queue t_busyTo t_servedIn t_waysOn t_costOn t_aheads t_seen t_isKept t_lanes_3 t_lengths_4 t_cells_6) → va_S A s.heap H locs → ∀ ls : Array Slot, lv_has ls 5 [(0, .ref qt), (1, .int p1), (4, .int x4_5)] → W p l e rmX9_sheet s m av below meth c H locs 0 0 Q (F0 m 56 ls []) := by
            intro K82 hK82 n
            induction n with
            | zero =>
              intro x4_5 t_cells_6 hM
              rw [Mod_sheet_L56] at hM
              cases hM
            | succ n ih =>
              intro x4_5 t_cells_6 hM H locs hP hD hS ls hl
              rw [Mod_sheet_L56] at hM
              refine lv_iload hx hb dX9_sheet_56 (lv_at hl 2 rfl) ?_
              refine lv_bipush (v := 40) hx hb dX9_sheet_58 (by decide) ?_
              refine mr_icmp_ge (tgt := 82) hx hb hM dX9_sheet_60 (by decide) (fun hM => ?_) (fun hM => ?_)
              · exact hK82 t_cells_6 hM _ _ hP hD hS ls (lv_sub hl [] rfl)
              · refine lv_aload_n hx hb dX9_sheet_63 rfl (lv_at hl 0 rfl) ?_
                refine va_get (D := D) (ci := 9) (v := .ref qt_cells) (C := RX9) (T := TX9) (N := 34) hx hb hts inX9w hown hK hP 0 rfl rfl 32 (by decide) hf56 (fun _ h9 => h9) rfl dX9_sheet_64 ?_
                refine lv_bipush (v := 40) hx hb dX9_sheet_67 (by decide) ?_
                refine lv_iload_n hx hb dX9_sheet_69 rfl (lv_at hl 1 rfl) ?_
                refine lv_imul hx hb dX9_sheet_70 ?_
                refine lv_iload hx hb dX9_sheet_71 (lv_at hl 2 rfl) ?_
                refine lv_iadd hx hb dX9_sheet_73 ?_
                refine lv_iconst (v := 0) hx hb dX9_sheet_74 (by decide) ?_
                refine mr_iast hx hb hK hP hD hS 16 0 (fun t_cells_7 => (w_Mod cI cB cZ cS cT qt qt_state qt_readPage qt_tape qt_cuts qt_letters qt_queue qt_busyTo qt_servedIn qt_waysOn qt_costOn qt_aheads qt_seen qt_isKept qt_lanes qt_lengths qt_cells t_hasLaw t_hasCounters t_highest t_taped t_fault t_broken t_brokenAt t_spot t_here t_token t_value t_queued t_payed t_bestWait t_bestWhom t_bestCoins t_seenMany t_torn t_state t_readPage t_tape t_cuts t_letters t_queue t_busyTo t_servedIn t_waysOn t_costOn t_aheads t_seen t_isKept t_lanes_3 t_lengths_4 t_cells_7)) rfl rfl (fun _ => rfl) hM dX9_sheet_75 (fun t_cells_7 hM H locs hP hD hS => ?_)
                refine mr_iinc (k := 2) (d := 1) hx hb (fun x4_8 => [(4, .int x4_8), (0, .ref qt), (1, .int p1)]) hM (by decide) dX9_sheet_76 hl rfl (by decide) (fun _ => rfl) (fun x4_8 hM ls hl => ?_)
                refine lv_goto (tgt := 56) hx hb dX9_sheet_79 (by decide) ?_
                exact ih x4_8 t_cells_7 hM _ _ hP hD hS ls (lv_sub hl [1, 2, 0] rfl)
          refine hL56 _ (fun t_cells_9 hM H locs hP hD hS ls hl => ?_) _ 0 t_cells hM _ _ hP hD hS ls (lv_sub hl [1, 2, 0] rfl)
          refine lv_iconst (v := 1) hx hb dX9_sheet_82 (by decide) ?_
          have hM := Option.some.inj hM
          subst hM
          exact mr_iret hx hb hr hlocks hQ hP hD hS rfl dX9_sheet_83
        · refine lv_bipush (v := (-14)) hx hb dX9_sheet_36 (by decide) ?_
          have hM := Option.some.inj hM
          subst hM
          exact mr_iret hx hb hr hlocks hQ hP hD hS rfl dX9_sheet_38
      · refine lv_iconst (v := (-1)) hx hb dX9_sheet_30 (by decide) ?_
        have hM := Option.some.inj hM
        subst hM
        exact mr_iret hx hb hr hlocks hQ hP hD hS rfl dX9_sheet_31

abbrev rmX9_lay : Room := { frames := 1, cells := 0, slots := 0, locals := 25 }
set_option maxHeartbeats 40000000 in
set_option maxRecDepth 100000 in
theorem k_Mod_lay (l : Launch) (D : va_G) (cI cB cZ cS cT : ClassId) (qt qt_state qt_readPage qt_tape qt_cuts qt_letters qt_queue qt_busyTo qt_servedIn qt_waysOn qt_costOn qt_aheads qt_seen qt_isKept qt_lanes qt_lengths qt_cells : Nat) (t_hasLaw t_hasCounters t_highest t_taped t_fault t_broken t_brokenAt t_spot t_here t_token t_value t_queued t_payed t_bestWait t_bestWhom t_bestCoins t_seenMany t_torn : Int32) (t_state t_readPage t_tape t_cuts t_letters t_queue t_busyTo t_servedIn t_waysOn t_costOn t_aheads t_seen t_isKept t_lanes t_lengths t_cells : Nat → Int32) (p1 p2 p3 : Int32) (o : Int32 × (Nat → Int32)) (hM : Mod_lay p1 p2 p3 t_lanes t_lengths t_cells = some o) : mtI l yX9_lay wsX9_lay rmX9_lay D (tys5 cI cB cZ cS cT) [.ref qt, .int p1, .int p2, .int p3] (w_Mod cI cB cZ cS cT qt qt_state qt_readPage qt_tape qt_cuts qt_letters qt_queue qt_busyTo qt_servedIn qt_waysOn qt_costOn qt_aheads qt_seen qt_isKept qt_lanes qt_lengths qt_cells t_hasLaw t_hasCounters t_highest t_taped t_fault t_broken t_brokenAt t_spot t_here t_token t_value t_queued t_payed t_bestWait t_bestWhom t_bestCoins t_seenMany t_torn t_state t_readPage t_tape t_cuts t_letters t_queue t_busyTo t_servedIn t_waysOn t_costOn t_aheads t_seen t_isKept t_lanes t_lengths t_cells) (w_Mod cI cB cZ cS cT qt qt_state qt_readPage qt_tape qt_cuts qt_letters qt_queue qt_busyTo qt_servedIn qt_waysOn qt_costOn qt_aheads qt_seen qt_isKept qt_lanes qt_lengths qt_cells t_hasLaw t_hasCounters t_highest t_taped t_fault t_broken t_brokenAt t_spot t_here t_token t_value t_queued t_payed t_bestWait t_bestWhom t_bestCoins t_seenMany t_torn t_state t_readPage t_tape t_cuts t_letters t_queue t_busyTo t_servedIn t_waysOn t_costOn t_aheads t_seen t_isKept t_lanes t_lengths o.2) o.1 := by
  refine mtI.of (cc := cX9_lay) (maxL := 4) (ret := (some .int)) (by decide) rfl (Nat.le_of_ble_eq_true rfl) ?_
  intro p e s m below meth c A Q av hav hQ hx hb hr hml hown hts hlocks hK hP hD hA hS ls hl
  have hown : s.vm.findClass RX9 = some m.cls := hown
  have hl : lv_has ls 4 [(0, .ref qt), (1, .int p1), (2, .int p2), (3, .int p3)] := hl
  unfold Mod_lay at hM
  have inX9w : ∀ w ∈ u_ws RX9 TX9 34, w ∈ wsX9_lay := by decide +kernel
  have hfc121 := hts (.constantLong RX9 121 3) (by decide +kernel)
  have hf50 := hts (.fieldLink RX9 50 "LetsInModel" "lanes" "[I") (by decide +kernel)
  have hf53 := hts (.fieldLink RX9 53 "LetsInModel" "lengths" "[I") (by decide +kernel)
  have hf56 := hts (.fieldLink RX9 56 "LetsInModel" "cells" "[I") (by decide +kernel)
  refine lv_iload_n hx hb dX9_lay_0 rfl (lv_at hl 1 rfl) ?_
  refine lv_i2l hx hb dX9_lay_1 rfl ?_
  refine lv_lconst (v := 0) hx hb dX9_lay_2 (by decide) ?_
  refine lv_ldc2 (v := 3) hx hb hown hfc121 dX9_lay_3 ?_
  obtain ⟨o_1, hc, hM⟩ := bind_so hM
  refine mr_callSi (As := [.long p1.toInt64, .long 0, .long 3]) (rest := []) ⟨hx, hb, hml, hown, hts⟩ (k_Mod_in l D cI cB cZ cS cT   p1.toInt64 0 3 _ hc) (cwS 3 hts gX9_lay_X9_in rfl rfl rfl (by decide +kernel) ⟨Nat.le_of_ble_eq_true rfl, Nat.le_of_ble_eq_true rfl⟩) hK hP hD hS hA rfl hl.1 rfl (Nat.le_of_ble_eq_true rfl) dX9_lay_6 ⟨Nat.zero_le _, Nat.zero_le _⟩ (fun H locs hP hS => ?_)
  refine mr_if_ne (tgt := 14) hx hb hM dX9_lay_9 (by decide) (fun hM => ?_) (fun hM => ?_)
  · refine lv_aload_n hx hb dX9_lay_14 rfl (lv_at hl 0 rfl) ?_
    refine va_get (D := D) (ci := 9) (v := .ref qt_lanes) (C := RX9) (T := TX9) (N := 34) hx hb hts inX9w hown hK hP 0 rfl rfl 30 (by decide) hf50 (fun _ h9 => h9) rfl dX9_lay_15 ?_
    refine lv_iload_n hx hb dX9_lay_18 rfl (lv_at hl 1 rfl) ?_
    refine mr_iald hx hb hK hP 14 0 rfl rfl hM dX9_lay_19 (fun v_2 hM => ?_)
    refine lv_bipush (v := (-4)) hx hb dX9_lay_20 (by decide) ?_
    refine mr_icmp_ne (tgt := 28) hx hb hM dX9_lay_22 (by decide) (fun hM => ?_) (fun hM => ?_)
    · refine lv_iload_n hx hb dX9_lay_28 rfl (lv_at hl 2 rfl) ?_
      refine lv_i2l hx hb dX9_lay_29 rfl ?_
      refine lv_lconst (v := 0) hx hb dX9_lay_30 (by decide) ?_
      refine lv_aload_n hx hb dX9_lay_31 rfl (lv_at hl 0 rfl) ?_
      refine va_get (D := D) (ci := 9) (v := .ref qt_lengths) (C := RX9) (T := TX9) (N := 34) hx hb hts inX9w hown hK hP 0 rfl rfl 31 (by decide) hf53 (fun _ h9 => h9) rfl dX9_lay_32 ?_
      refine lv_iload_n hx hb dX9_lay_35 rfl (lv_at hl 1 rfl) ?_
      refine mr_iald hx hb hK hP 15 0 rfl rfl hM dX9_lay_36 (fun v_3 hM => ?_)
      refine lv_iconst (v := 1) hx hb dX9_lay_37 (by decide) ?_
      refine lv_isub hx hb dX9_lay_38 ?_
      refine lv_i2l hx hb dX9_lay_39 rfl ?_
      obtain ⟨o_4, hc, hM⟩ := bind_so hM
      refine mr_callSi (As := [.long p2.toInt64, .long 0, .long ((v_3 - 1).toInt64)]) (rest := []) ⟨hx, hb, hml, hown, hts⟩ (k_Mod_in l D cI cB cZ cS cT   p2.toInt64 0 ((v_3 - 1).toInt64) _ hc) (cwS 3 hts gX9_lay_X9_in rfl rfl rfl (by decide +kernel) ⟨Nat.le_of_ble_eq_true rfl, Nat.le_of_ble_eq_true rfl⟩) hK hP hD hS hA rfl hl.1 rfl (Nat.le_of_ble_eq_true rfl) dX9_lay_40 ⟨Nat.zero_le _, Nat.zero_le _⟩ (fun H locs hP hS => ?_)
      refine mr_if_ne (tgt := 49) hx hb hM dX9_lay_43 (by decide) (fun hM => ?_) (fun hM => ?_)
      · refine lv_aload_n hx hb dX9_lay_49 rfl (lv_at hl 0 rfl) ?_
        refine va_get (D := D) (ci := 9) (v := .ref qt_cells) (C := RX9) (T := TX9) (N := 34) hx hb hts inX9w hown hK hP 0 rfl rfl 32 (by decide) hf56 (fun _ h9 => h9) rfl dX9_lay_50 ?_
        refine lv_bipush (v := 40) hx hb dX9_lay_53 (by decide) ?_
        refine lv_iload_n hx hb dX9_lay_55 rfl (lv_at hl 1 rfl) ?_
        refine lv_imul hx hb dX9_lay_56 ?_
        refine lv_iload_n hx hb dX9_lay_57 rfl (lv_at hl 2 rfl) ?_
        refine lv_iadd hx hb dX9_lay_58 ?_
        refine lv_aload_n hx hb dX9_lay_59 rfl (lv_at hl 0 rfl) ?_
        refine va_get (D := D) (ci := 9) (v := .ref qt_lanes) (C := RX9) (T := TX9) (N := 34) hx hb hts inX9w hown hK hP 0 rfl rfl 30 (by decide) hf50 (fun _ h9 => h9) rfl dX9_lay_60 ?_
        refine lv_iload_n hx hb dX9_lay_63 rfl (lv_at hl 1 rfl) ?_
        refine mr_iald hx hb hK hP 14 0 rfl rfl hM dX9_lay_64 (fun v_5 hM => ?_)
        refine mr_if_ne (tgt := 78) hx hb hM dX9_lay_65 (by decide) (fun hM => ?_) (fun hM => ?_)
        · refine lv_aload_n hx hb dX9_lay_78 rfl (lv_at hl 0 rfl) ?_
          refine va_get (D := D) (ci := 9) (v := .ref qt_lanes) (C := RX9) (T := TX9) (N := 34) hx hb hts inX9w hown hK hP 0 rfl rfl 30 (by decide) hf50 (fun _ h9 => h9) rfl dX9_lay_79 ?_
          refine lv_iload_n hx hb dX9_lay_82 rfl (lv_at hl 1 rfl) ?_
          refine mr_iald hx hb hK hP 14 0 rfl rfl hM dX9_lay_83 (fun v_6 hM => ?_)
          refine lv_iconst (v := 1) hx hb dX9_lay_84 (by decide) ?_
          refine mr_icmp_ne (tgt := 98) hx hb hM dX9_lay_85 (by decide) (fun hM => ?_) (fun hM => ?_)
          · refine lv_iload_n hx hb dX9_lay_98 rfl (lv_at hl 3 rfl) ?_
            refine mr_iast hx hb hK hP hD hS 16 0 (fun t_cells_7 => (w_Mod cI cB cZ cS cT qt qt_state qt_readPage qt_tape qt_cuts qt_letters qt_queue qt_busyTo qt_servedIn qt_waysOn qt_costOn qt_aheads qt_seen qt_isKept qt_lanes qt_lengths qt_cells t_hasLaw t_hasCounters t_highest t_taped t_fault t_broken t_brokenAt t_spot t_here t_token t_value t_queued t_payed t_bestWait t_bestWhom t_bestCoins t_seenMany t_torn t_state t_readPage t_tape t_cuts t_letters t_queue t_busyTo t_servedIn t_waysOn t_costOn t_aheads t_seen t_isKept t_lanes t_lengths t_cells_7)) rfl rfl (fun _ => rfl) hM dX9_lay_99 (fun t_cells_7 hM H locs hP hD hS => ?_)
            refine lv_iconst (v := 1) hx hb dX9_lay_100 (by decide) ?_
            have hM := Option.some.inj hM
            subst hM
            exact mr_iret hx hb hr hlocks hQ hP hD hS rfl dX9_lay_101
          · refine lv_iload_n hx hb dX9_lay_88 rfl (lv_at hl 3 rfl) ?_
            refine lv_bipush (v := 16) hx hb dX9_lay_89 (by decide) ?_
            refine lv_ishl hx hb dX9_lay_91 ?_
            refine lv_bipush (v := 16) hx hb dX9_lay_92 (by decide) ?_
            refine lv_ishr hx hb dX9_lay_94 ?_
            refine lv_goto (tgt := 99) hx hb dX9_lay_95 (by decide) ?_
            refine mr_iast hx hb hK hP hD hS 16 0 (fun t_cells_8 => (w_Mod cI cB cZ cS cT qt qt_state qt_readPage qt_tape qt_cuts qt_letters qt_queue qt_busyTo qt_servedIn qt_waysOn qt_costOn qt_aheads qt_seen qt_isKept qt_lanes qt_lengths qt_cells t_hasLaw t_hasCounters t_highest t_taped t_fault t_broken t_brokenAt t_spot t_here t_token t_value t_queued t_payed t_bestWait t_bestWhom t_bestCoins t_seenMany t_torn t_state t_readPage t_tape t_cuts t_letters t_queue t_busyTo t_servedIn t_waysOn t_costOn t_aheads t_seen t_isKept t_lanes t_lengths t_cells_8)) rfl rfl (fun _ => rfl) hM dX9_lay_99 (fun t_cells_8 hM H locs hP hD hS => ?_)
            refine lv_iconst (v := 1) hx hb dX9_lay_100 (by decide) ?_
            have hM := Option.some.inj hM
            subst hM
            exact mr_iret hx hb hr hlocks hQ hP hD hS rfl dX9_lay_101
        · refine lv_iload_n hx hb dX9_lay_68 rfl (lv_at hl 3 rfl) ?_
          refine lv_bipush (v := 24) hx hb dX9_lay_69 (by decide) ?_
          refine lv_ishl hx hb dX9_lay_71 ?_
          refine lv_bipush (v := 24) hx hb dX9_lay_72 (by decide) ?_
          refine lv_ishr hx hb dX9_lay_74 ?_
          refine lv_goto (tgt := 99) hx hb dX9_lay_75 (by decide) ?_
          refine mr_iast hx hb hK hP hD hS 16 0 (fun t_cells_9 => (w_Mod cI cB cZ cS cT qt qt_state qt_readPage qt_tape qt_cuts qt_letters qt_queue qt_busyTo qt_servedIn qt_waysOn qt_costOn qt_aheads qt_seen qt_isKept qt_lanes qt_lengths qt_cells t_hasLaw t_hasCounters t_highest t_taped t_fault t_broken t_brokenAt t_spot t_here t_token t_value t_queued t_payed t_bestWait t_bestWhom t_bestCoins t_seenMany t_torn t_state t_readPage t_tape t_cuts t_letters t_queue t_busyTo t_servedIn t_waysOn t_costOn t_aheads t_seen t_isKept t_lanes t_lengths t_cells_9)) rfl rfl (fun _ => rfl) hM dX9_lay_99 (fun t_cells_9 hM H locs hP hD hS => ?_)
          refine lv_iconst (v := 1) hx hb dX9_lay_100 (by decide) ?_
          have hM := Option.some.inj hM
          subst hM
          exact mr_iret hx hb hr hlocks hQ hP hD hS rfl dX9_lay_101
      · refine lv_bipush (v := (-12)) hx hb dX9_lay_46 (by decide) ?_
        have hM := Option.some.inj hM
        subst hM
        exact mr_iret hx hb hr hlocks hQ hP hD hS rfl dX9_lay_48
    · refine lv_bipush (v := (-11)) hx hb dX9_lay_25 (by decide) ?_
      have hM := Option.some.inj hM
      subst hM
      exact mr_iret hx hb hr hlocks hQ hP hD hS rfl dX9_lay_27
  · refine lv_iconst (v := (-1)) hx hb dX9_lay_12 (by decide) ?_
    have hM := Option.some.inj hM
    subst hM
    exact mr_iret hx hb hr hlocks hQ hP hD hS rfl dX9_lay_13

abbrev rmX9_read : Room := { frames := 4, cells := 0, slots := 0, locals := 92 }
set_option maxHeartbeats 40000000 in
set_option maxRecDepth 100000 in
theorem k_Mod_read (l : Launch) (D : va_G) (cI cB cZ cS cT : ClassId) (qt qt_state qt_readPage qt_tape qt_cuts qt_letters qt_queue qt_busyTo qt_servedIn qt_waysOn qt_costOn qt_aheads qt_seen qt_isKept qt_lanes qt_lengths qt_cells : Nat) (t_hasLaw t_hasCounters t_highest t_taped t_fault t_broken t_brokenAt t_spot t_here t_token t_value t_queued t_payed t_bestWait t_bestWhom t_bestCoins t_seenMany t_torn : Int32) (t_state t_readPage t_tape t_cuts t_letters t_queue t_busyTo t_servedIn t_waysOn t_costOn t_aheads t_seen t_isKept t_lanes t_lengths t_cells : Nat → Int32) (p1 p2 p3 p4 : Int32) (o : Int32 × Int32 × (Nat → Int32)) (hM : Mod_read p1 p2 p3 p4 t_torn t_state t_lanes t_lengths t_cells = some o) : mtI l yX9_read wsX9_read rmX9_read D (tys5 cI cB cZ cS cT) [.ref qt, .int p1, .int p2, .int p3, .int p4] (w_Mod cI cB cZ cS cT qt qt_state qt_readPage qt_tape qt_cuts qt_letters qt_queue qt_busyTo qt_servedIn qt_waysOn qt_costOn qt_aheads qt_seen qt_isKept qt_lanes qt_lengths qt_cells t_hasLaw t_hasCounters t_highest t_taped t_fault t_broken t_brokenAt t_spot t_here t_token t_value t_queued t_payed t_bestWait t_bestWhom t_bestCoins t_seenMany t_torn t_state t_readPage t_tape t_cuts t_letters t_queue t_busyTo t_servedIn t_waysOn t_costOn t_aheads t_seen t_isKept t_lanes t_lengths t_cells) (w_Mod cI cB cZ cS cT qt qt_state qt_readPage qt_tape qt_cuts qt_letters qt_queue qt_busyTo qt_servedIn qt_waysOn qt_costOn qt_aheads qt_seen qt_isKept qt_lanes qt_lengths qt_cells t_hasLaw t_hasCounters t_highest t_taped t_fault t_broken t_brokenAt t_spot t_here t_token t_value t_queued t_payed t_bestWait t_bestWhom t_bestCoins t_seenMany o.2.1 o.2.2 t_readPage t_tape t_cuts t_letters t_queue t_busyTo t_servedIn t_waysOn t_costOn t_aheads t_seen t_isKept t_lanes t_lengths t_cells) o.1 := by
  refine mtI.of (cc := cX9_read) (maxL := 9) (ret := (some .int)) (by decide) rfl (Nat.le_of_ble_eq_true rfl) ?_
  intro p e s m below meth c A Q av hav hQ hx hb hr hml hown hts hlocks hK hP hD hA hS ls hl
  have hown : s.vm.findClass RX9 = some m.cls := hown
  have hl : lv_has ls 9 [(0, .ref qt), (1, .int p1), (2, .int p2), (3, .int p3), (4, .int p4)] := hl
  unfold Mod_read at hM
  have inX9w : ∀ w ∈ u_ws RX9 TX9 34, w ∈ wsX9_read := by decide +kernel
  have hfc121 := hts (.constantLong RX9 121 3) (by decide +kernel)
  have hfc169 := hts (.constantLong RX9 169 2) (by decide +kernel)
  have hfc265 := hts (.constantLong RX9 265 13) (by decide +kernel)
  have hf50 := hts (.fieldLink RX9 50 "LetsInModel" "lanes" "[I") (by decide +kernel)
  have hf56 := hts (.fieldLink RX9 56 "LetsInModel" "cells" "[I") (by decide +kernel)
  have hf53 := hts (.fieldLink RX9 53 "LetsInModel" "lengths" "[I") (by decide +kernel)
  have hf267 := hts (.fieldLink RX9 267 "LetsInModel" "torn" "I") (by decide +kernel)
  refine lv_iload_n hx hb dX9_read_0 rfl (lv_at hl 1 rfl) ?_
  refine lv_i2l hx hb dX9_read_1 rfl ?_
  refine lv_lconst (v := 0) hx hb dX9_read_2 (by decide) ?_
  refine lv_ldc2 (v := 3) hx hb hown hfc121 dX9_read_3 ?_
  obtain ⟨o_1, hc, hM⟩ := bind_so hM
  refine mr_callSi (As := [.long p1.toInt64, .long 0, .long 3]) (rest := []) ⟨hx, hb, hml, hown, hts⟩ (k_Mod_in l D cI cB cZ cS cT   p1.toInt64 0 3 _ hc) (cwS 3 hts gX9_read_X9_in rfl rfl rfl (by decide +kernel) ⟨Nat.le_of_ble_eq_true rfl, Nat.le_of_ble_eq_true rfl⟩) hK hP hD hS hA rfl hl.1 rfl (Nat.le_of_ble_eq_true rfl) dX9_read_6 ⟨Nat.zero_le _, Nat.zero_le _⟩ (fun H locs hP hS => ?_)
  refine mr_if_eq (tgt := 37) hx hb hM dX9_read_9 (by decide) (fun hM => ?_) (fun hM => ?_)
  · refine lv_iconst (v := (-1)) hx hb dX9_read_37 (by decide) ?_
    have hM := Option.some.inj hM
    subst hM
    exact mr_iret hx hb hr hlocks hQ hP hD hS rfl dX9_read_38
  · refine lv_iload_n hx hb dX9_read_12 rfl (lv_at hl 2 rfl) ?_
    refine lv_i2l hx hb dX9_read_13 rfl ?_
    refine lv_lconst (v := 0) hx hb dX9_read_14 (by decide) ?_
    refine lv_ldc2 (v := 2) hx hb hown hfc169 dX9_read_15 ?_
    obtain ⟨o_2, hc, hM⟩ := bind_so hM
    refine mr_callSi (As := [.long p2.toInt64, .long 0, .long 2]) (rest := []) ⟨hx, hb, hml, hown, hts⟩ (k_Mod_in l D cI cB cZ cS cT   p2.toInt64 0 2 _ hc) (cwS 3 hts gX9_read_X9_in rfl rfl rfl (by decide +kernel) ⟨Nat.le_of_ble_eq_true rfl, Nat.le_of_ble_eq_true rfl⟩) hK hP hD hS hA rfl hl.1 rfl (Nat.le_of_ble_eq_true rfl) dX9_read_18 ⟨Nat.zero_le _, Nat.zero_le _⟩ (fun H locs hP hS => ?_)
    refine mr_if_eq (tgt := 37) hx hb hM dX9_read_21 (by decide) (fun hM => ?_) (fun hM => ?_)
    · refine lv_iconst (v := (-1)) hx hb dX9_read_37 (by decide) ?_
      have hM := Option.some.inj hM
      subst hM
      exact mr_iret hx hb hr hlocks hQ hP hD hS rfl dX9_read_38
    · refine lv_iload hx hb dX9_read_24 (lv_at hl 4 rfl) ?_
      refine lv_i2l hx hb dX9_read_26 rfl ?_
      refine lv_lconst (v := 0) hx hb dX9_read_27 (by decide) ?_
      refine lv_ldc2 (v := 13) hx hb hown hfc265 dX9_read_28 ?_
      obtain ⟨o_3, hc, hM⟩ := bind_so hM
      refine mr_callSi (As := [.long p4.toInt64, .long 0, .long 13]) (rest := []) ⟨hx, hb, hml, hown, hts⟩ (k_Mod_in l D cI cB cZ cS cT   p4.toInt64 0 13 _ hc) (cwS 3 hts gX9_read_X9_in rfl rfl rfl (by decide +kernel) ⟨Nat.le_of_ble_eq_true rfl, Nat.le_of_ble_eq_true rfl⟩) hK hP hD hS hA rfl hl.1 rfl (Nat.le_of_ble_eq_true rfl) dX9_read_31 ⟨Nat.zero_le _, Nat.zero_le _⟩ (fun H locs hP hS => ?_)
      refine mr_if_ne (tgt := 39) hx hb hM dX9_read_34 (by decide) (fun hM => ?_) (fun hM => ?_)
      · refine lv_aload_n hx hb dX9_read_39 rfl (lv_at hl 0 rfl) ?_
        refine lv_iconst (v := 0) hx hb dX9_read_40 (by decide) ?_
        refine lv_sipush (v := 376) hx hb dX9_read_41 (by decide) ?_
        obtain ⟨o_4, hc, hM⟩ := bind_so hM
        refine mr_callVv (As := [.int 0, .int 376]) (rest := []) (wr := []) ⟨hx, hb, hml, hown, hts⟩ (k_Mod_copies l D cI cB cZ cS cT qt qt_state qt_readPage qt_tape qt_cuts qt_letters qt_queue qt_busyTo qt_servedIn qt_waysOn qt_costOn qt_aheads qt_seen qt_isKept qt_lanes qt_lengths qt_cells t_hasLaw t_hasCounters t_highest t_taped t_fault t_broken t_brokenAt t_spot t_here t_token t_value t_queued t_payed t_bestWait t_bestWhom t_bestCoins t_seenMany t_torn t_state t_readPage t_tape t_cuts t_letters t_queue t_busyTo t_servedIn t_waysOn t_costOn t_aheads t_seen t_isKept t_lanes t_lengths t_cells 0 376 _ hc) (cwV 2 hts gX9_read_X9_copies rfl rfl rfl (by decide +kernel) ⟨Nat.le_of_ble_eq_true rfl, Nat.le_of_ble_eq_true rfl⟩) hK hP hD hS hA [0, 1, 2, 3, 4, 5, 6, 7, 8, 9, 10, 11, 12, 13, 14, 15, 16] [] [0, 1, 2, 3, 4, 5, 6, 7, 8, 9, 10, 11, 12, 13, 14, 15, 16] (w_Mod cI cB cZ cS cT qt qt_state qt_readPage qt_tape qt_cuts qt_letters qt_queue qt_busyTo qt_servedIn qt_waysOn qt_costOn qt_aheads qt_seen qt_isKept qt_lanes qt_lengths qt_cells t_hasLaw t_hasCounters t_highest t_taped t_fault t_broken t_brokenAt t_spot t_here t_token t_value t_queued t_payed t_bestWait t_bestWhom t_bestCoins t_seenMany t_torn o_4 t_readPage t_tape t_cuts t_letters t_queue t_busyTo t_servedIn t_waysOn t_costOn t_aheads t_seen t_isKept t_lanes t_lengths t_cells) rfl rfl rfl rfl (by decide) rfl rfl 9 0 rfl rfl rfl rfl hl.1 rfl (Nat.le_of_ble_eq_true rfl) dX9_read_44 ⟨Nat.zero_le _, Nat.zero_le _⟩ (fun H locs hP hD hS => ?_)
        refine lv_iconst (v := 0) hx hb dX9_read_47 (by decide) ?_
        refine lv_istore (lv' := [(5, .int 0), (0, .ref qt), (1, .int p1), (2, .int p2), (3, .int p3), (4, .int p4)]) hx hb dX9_read_48 hl (by decide) rfl (fun ls hl => ?_)
        refine lv_iconst (v := 0) hx hb dX9_read_50 (by decide) ?_
        refine lv_istore (lv' := [(6, .int 0), (5, .int 0), (0, .ref qt), (1, .int p1), (2, .int p2), (3, .int p3), (4, .int p4)]) hx hb dX9_read_51 hl (by decide) rfl (fun ls hl => ?_)
        refine lv_iconst (v := 0) hx hb dX9_read_53 (by decide) ?_
        refine lv_istore (lv' := [(7, .int 0), (6, .int 0), (5, .int 0), (0, .ref qt), (1, .int p1), (2, .int p2), (3, .int p3), (4, .int p4)]) hx hb dX9_read_54 hl (by decide) rfl (fun ls hl => ?_)
        have hL56 : ∀ (K184 : Int32 → (Nat → Int32) → Option (Int32 × Int32 × (Nat → Int32))) (K207 : Int32 → Int32 → (Nat → Int32) → Option (Int32 × Int32 × (Nat → Int32))), (∀ (x6_24 : Int32) (t_state_25 : Nat → Int32), K184 x6_24 t_state_25 = some o → ∀ (H : Heap) (locs : List Loc), va_P D vwCl (w_Mod cI cB cZ cS cT qt qt_state qt_readPage qt_tape qt_cuts qt_letters qt_queue qt_busyTo qt_servedIn qt_waysOn qt_costOn qt_aheads qt_seen qt_isKept qt_lanes qt_lengths qt_cells t_hasLaw t_hasCounters t_highest t_taped t_fault t_broken t_brokenAt t_spot t_here t_token t_value t_queued t_payed t_bestWait t_bestWhom t_bestCoins t_seenMany t_torn t_state_25 t_readPage t_tape t_cuts t_letters t_queue t_busyTo t_servedIn t_waysOn t_costOn t_aheads t_seen t_isKept t_lanes t_lengths t_cells) H → va_D A (w_Mod cI cB cZ cS cT qt qt_state qt_readPage qt_tape qt_cuts qt_letters qt_queue qt_busyTo qt_servedIn qt_waysOn qt_costOn qt_aheads qt_seen qt_isKept qt_lanes qt_lengths qt_cells t_hasLaw t_hasCounters t_highest t_taped t_fault t_broken t_brokenAt t_spot t_here t_token t_value t_queued t_payed t_bestWait t_bestWhom t_bestCoins t_seenMany t_torn t_state_25 t_readPage t_tape t_cuts t_letters t_queue t_busyTo t_servedIn t_waysOn t_costOn t_aheads t_seen t_isKept t_lanes t_lengths t_cells) → va_S A s.heap H locs → ∀ ls : Array Slot, lv_has ls 9 [(0, .ref qt), (6, .int x6_24)] → W p l e rmX9_read s m av below meth c H locs 0 0 Q (F0 m 184 ls [])) → (∀ (x5_27 x6_28 : Int32) (t_state_29 : Nat → Int32), K207 x5_27 x6_28 t_state_29 = some o → ∀ (H : Heap) (locs : List Loc), va_P D vwCl (w_Mod cI cB cZ cS cT qt qt_state qt_readPage qt_tape qt_cuts qt_letters qt_queue qt_busyTo qt_servedIn qt_waysOn qt_costOn qt_aheads qt_seen qt_isKept qt_lanes qt_lengths qt_cells t_hasLaw t_hasCounters t_highest t_taped t_fault t_broken t_brokenAt t_spot t_here t_token t_value t_queued t_payed t_bestWait t_bestWhom t_bestCoins t_seenMany t_torn t_state_29 t_readPage t_tape t_cuts t_letters t_queue t_busyTo t_servedIn t_waysOn t_costOn t_aheads t_seen t_isKept t_lanes t_lengths t_cells) H → va_D A (w_Mod cI cB cZ cS cT qt qt_state qt_readPage qt_tape qt_cuts qt_letters qt_queue qt_busyTo qt_servedIn qt_waysOn qt_costOn qt_aheads qt_seen qt_isKept qt_lanes qt_lengths qt_cells t_hasLaw t_hasCounters t_highest t_taped t_fault t_broken t_brokenAt t_spot t_here t_token t_value t_queued t_payed t_bestWait t_bestWhom t_bestCoins t_seenMany t_torn t_state_29 t_readPage t_tape t_cuts t_letters t_queue t_busyTo t_servedIn t_waysOn t_costOn t_aheads t_seen t_isKept t_lanes t_lengths t_cells) → va_S A s.heap H locs → ∀ ls : Array Slot, lv_has ls 9 [(0, .ref qt), (5, .int x5_27), (6, .int x6_28)] → W p l e rmX9_read s m av below meth c H locs 0 0 Q (F0 m 207 ls [])) → ∀ (n : Nat) (x5_5 x6_6 x7_7 : Int32) (t_state_8 : Nat → Int32), Mod_read_L56 t_lanes t_lengths t_cells p1 p2 p3 p4 K184 K207 n x5_5 x6_6 x7_7 t_state_8 = some o → ∀ (H : Heap) (locs : List Loc), va_P D vwCl (w_Mod cI cB cZ cS cT qt qt_state qt_readPage qt_tape qt_cuts qt_letters qt_queue qt_busyTo qt_servedIn qt_waysOn qt_costOn qt_aheads qt_seen qt_isKept qt_lanes qt_lengths qt_cells t_hasLaw t_hasCounters t_highest t_taped t_fault t_broken t_brokenAt t_spot t_here t_token t_value t_queued t_payed t_bestWait t_bestWhom t_bestCoins t_seenMany t_torn t_state_8 t_readPage t_tape t_cuts t_letters t_queue t_busyTo t_servedIn t_waysOn t_costOn t_aheads t_seen t_isKept t_lanes t_lengths t_cells) H → va_D A (w_Mod cI cB cZ cS cT qt qt_state qt_readPage qt_tape qt_cuts qt_letters qt_queue qt_busyTo qt_servedIn qt_waysOn qt_costOn qt_aheads qt_seen qt_isKept qt_lanes qt_lengths qt_cells t_hasLaw t_hasCounters t_highest t_taped t_fault t_broken t_brokenAt t_spot t_here t_token t_value t_queued t_payed t_bestWait t_bestWhom t_bestCoins t_seenMany t_torn t_state_8 t_readPage t_tape t_cuts t_letters t_queue t_busyTo t_servedIn t_waysOn t_costOn t_aheads t_seen t_isKept t_lanes t_lengths t_cells) → va_S A s.heap H locs → ∀ ls : Array Slot, lv_has ls 9 [(0, .ref qt), (1, .int p1), (2, .int p2), (3, .int p3), (4, .int p4), (5, .int x5_5), (6, .int x6_6), (7, .int x7_7)] → W p l e rmX9_read s m av below meth c H locs 0 0 Q (F0 m 56 ls []) := by
          intro K184 K207 hK184 hK207 n
          induction n with
          | zero =>
            intro x5_5 x6_6 x7_7 t_state_8 hM
            rw [Mod_read_L56] at hM
            cases hM
          | succ n ih =>
            intro x5_5 x6_6 x7_7 t_state_8 hM H locs hP hD hS ls hl
            rw [Mod_read_L56] at hM
            refine lv_iload hx hb dX9_read_56 (lv_at hl 7 rfl) ?_
            refine lv_iconst (v := 3) hx hb dX9_read_58 (by decide) ?_
            refine lv_iload hx hb dX9_read_59 (lv_at hl 4 rfl) ?_
            refine lv_imul hx hb dX9_read_61 ?_
            refine mr_icmp_ge (tgt := 207) hx hb hM dX9_read_62 (by decide) (fun hM => ?_) (fun hM => ?_)
            · exact hK207 x5_5 x6_6 t_state_8 hM _ _ hP hD hS ls (lv_sub hl [0, 5, 6] rfl)
            · refine lv_iload hx hb dX9_read_65 (lv_at hl 5 rfl) ?_
              refine mr_if_ne (tgt := 207) hx hb hM dX9_read_67 (by decide) (fun hM => ?_) (fun hM => ?_)
              · exact hK207 x5_5 x6_6 t_state_8 hM _ _ hP hD hS ls (lv_sub hl [0, 5, 6] rfl)
              · refine lv_aload_n hx hb dX9_read_70 rfl (lv_at hl 0 rfl) ?_
                refine va_get (D := D) (ci := 9) (v := .ref qt_lanes) (C := RX9) (T := TX9) (N := 34) hx hb hts inX9w hown hK hP 0 rfl rfl 30 (by decide) hf50 (fun _ h9 => h9) rfl dX9_read_71 ?_
                refine lv_iload_n hx hb dX9_read_74 rfl (lv_at hl 1 rfl) ?_
                refine mr_iald hx hb hK hP 14 0 rfl rfl hM dX9_read_75 (fun v_9 hM => ?_)
                refine lv_bipush (v := (-4)) hx hb dX9_read_76 (by decide) ?_
                refine mr_jn hM (fun j126_10 => ∀ (y_11 : Int32), j126_10 y_11 = some o → ∀ (H : Heap) (locs : List Loc), va_P D vwCl (w_Mod cI cB cZ cS cT qt qt_state qt_readPage qt_tape qt_cuts qt_letters qt_queue qt_busyTo qt_servedIn qt_waysOn qt_costOn qt_aheads qt_seen qt_isKept qt_lanes qt_lengths qt_cells t_hasLaw t_hasCounters t_highest t_taped t_fault t_broken t_brokenAt t_spot t_here t_token t_value t_queued t_payed t_bestWait t_bestWhom t_bestCoins t_seenMany t_torn t_state_8 t_readPage t_tape t_cuts t_letters t_queue t_busyTo t_servedIn t_waysOn t_costOn t_aheads t_seen t_isKept t_lanes t_lengths t_cells) H → va_D A (w_Mod cI cB cZ cS cT qt qt_state qt_readPage qt_tape qt_cuts qt_letters qt_queue qt_busyTo qt_servedIn qt_waysOn qt_costOn qt_aheads qt_seen qt_isKept qt_lanes qt_lengths qt_cells t_hasLaw t_hasCounters t_highest t_taped t_fault t_broken t_brokenAt t_spot t_here t_token t_value t_queued t_payed t_bestWait t_bestWhom t_bestCoins t_seenMany t_torn t_state_8 t_readPage t_tape t_cuts t_letters t_queue t_busyTo t_servedIn t_waysOn t_costOn t_aheads t_seen t_isKept t_lanes t_lengths t_cells) → va_S A s.heap H locs → ∀ ls : Array Slot, lv_has ls 9 [(0, .ref qt), (1, .int p1), (2, .int p2), (3, .int p3), (4, .int p4), (6, .int x6_6), (7, .int x7_7)] → W p l e rmX9_read s m av below meth c H locs 0 0 Q (F0 m 126 ls [.int y_11])) (fun y_11 hM H locs hP hD hS ls hl => ?_) (fun j126_10 hj126_10 hM => ?_)
                · refine lv_istore (lv' := [(5, .int y_11), (0, .ref qt), (1, .int p1), (2, .int p2), (3, .int p3), (4, .int p4), (6, .int x6_6), (7, .int x7_7)]) hx hb dX9_read_126 hl (by decide) rfl (fun ls hl => ?_)
                  refine lv_iload hx hb dX9_read_128 (lv_at hl 0 rfl) ?_
                  refine mr_if_ne (tgt := 201) hx hb hM dX9_read_130 (by decide) (fun hM => ?_) (fun hM => ?_)
                  · refine mr_iinc (k := 7) (d := 1) hx hb (fun x7_12 => [(7, .int x7_12), (5, .int y_11), (0, .ref qt), (1, .int p1), (2, .int p2), (3, .int p3), (4, .int p4), (6, .int x6_6)]) hM (by decide) dX9_read_201 hl rfl (by decide) (fun _ => rfl) (fun x7_12 hM ls hl => ?_)
                    refine lv_goto (tgt := 56) hx hb dX9_read_204 (by decide) ?_
                    exact ih y_11 x6_6 x7_12 t_state_8 hM _ _ hP hD hS ls (lv_sub hl [2, 3, 4, 5, 6, 1, 7, 0] rfl)
                  · refine lv_iload hx hb dX9_read_133 (lv_at hl 7 rfl) ?_
                    refine lv_iconst (v := 3) hx hb dX9_read_135 (by decide) ?_
                    refine lv_irem hx hb dX9_read_136 (by decide) ?_
                    refine lv_iconst (v := 2) hx hb dX9_read_137 (by decide) ?_
                    refine mr_icmp_ne (tgt := 201) hx hb hM dX9_read_138 (by decide) (fun hM => ?_) (fun hM => ?_)
                    · refine mr_iinc (k := 7) (d := 1) hx hb (fun x7_13 => [(7, .int x7_13), (5, .int y_11), (0, .ref qt), (1, .int p1), (2, .int p2), (3, .int p3), (4, .int p4), (6, .int x6_6)]) hM (by decide) dX9_read_201 hl rfl (by decide) (fun _ => rfl) (fun x7_13 hM ls hl => ?_)
                      refine lv_goto (tgt := 56) hx hb dX9_read_204 (by decide) ?_
                      exact ih y_11 x6_6 x7_13 t_state_8 hM _ _ hP hD hS ls (lv_sub hl [2, 3, 4, 5, 6, 1, 7, 0] rfl)
                    · refine lv_bipush (v := 40) hx hb dX9_read_141 (by decide) ?_
                      refine lv_iload_n hx hb dX9_read_143 rfl (lv_at hl 2 rfl) ?_
                      refine lv_imul hx hb dX9_read_144 ?_
                      refine lv_iload_n hx hb dX9_read_145 rfl (lv_at hl 4 rfl) ?_
                      refine lv_iadd hx hb dX9_read_146 ?_
                      refine lv_iload hx hb dX9_read_147 (lv_at hl 7 rfl) ?_
                      refine lv_iadd hx hb dX9_read_149 ?_
                      refine mr_nmI hM (fun x8_14 hM => ?_)
                      refine lv_istore (lv' := [(8, .int x8_14), (5, .int y_11), (0, .ref qt), (1, .int p1), (2, .int p2), (3, .int p3), (4, .int p4), (6, .int x6_6), (7, .int x7_7)]) hx hb dX9_read_150 hl (by decide) rfl (fun ls hl => ?_)
                      refine lv_aload_n hx hb dX9_read_152 rfl (lv_at hl 2 rfl) ?_
                      refine lv_aload_n hx hb dX9_read_153 rfl (lv_at hl 2 rfl) ?_
                      refine va_get (D := D) (ci := 9) (v := .ref qt_cells) (C := RX9) (T := TX9) (N := 34) hx hb hts inX9w hown hK hP 0 rfl rfl 32 (by decide) hf56 (fun _ h9 => h9) rfl dX9_read_154 ?_
                      refine lv_iload hx hb dX9_read_157 (lv_at hl 0 rfl) ?_
                      refine lv_iconst (v := 2) hx hb dX9_read_159 (by decide) ?_
                      refine lv_isub hx hb dX9_read_160 ?_
                      refine mr_iald hx hb hK hP 16 0 rfl rfl hM dX9_read_161 (fun v_15 hM => ?_)
                      refine lv_aload_n hx hb dX9_read_162 rfl (lv_at hl 2 rfl) ?_
                      refine va_get (D := D) (ci := 9) (v := .ref qt_cells) (C := RX9) (T := TX9) (N := 34) hx hb hts inX9w hown hK hP 0 rfl rfl 32 (by decide) hf56 (fun _ h9 => h9) rfl dX9_read_163 ?_
                      refine lv_iload hx hb dX9_read_166 (lv_at hl 0 rfl) ?_
                      refine lv_iconst (v := 1) hx hb dX9_read_168 (by decide) ?_
                      refine lv_isub hx hb dX9_read_169 ?_
                      refine mr_iald hx hb hK hP 16 0 rfl rfl hM dX9_read_170 (fun v_16 hM => ?_)
                      refine lv_aload_n hx hb dX9_read_171 rfl (lv_at hl 2 rfl) ?_
                      refine va_get (D := D) (ci := 9) (v := .ref qt_cells) (C := RX9) (T := TX9) (N := 34) hx hb hts inX9w hown hK hP 0 rfl rfl 32 (by decide) hf56 (fun _ h9 => h9) rfl dX9_read_172 ?_
                      refine lv_iload hx hb dX9_read_175 (lv_at hl 0 rfl) ?_
                      refine mr_iald hx hb hK hP 16 0 rfl rfl hM dX9_read_177 (fun v_17 hM => ?_)
                      obtain ⟨o_18, hc, hM⟩ := bind_so hM
                      refine mr_callVi (As := [.int v_15, .int v_16, .int v_17]) (rest := []) (wr := []) ⟨hx, hb, hml, hown, hts⟩ (k_Mod_debts l D cI cB cZ cS cT qt qt_state qt_readPage qt_tape qt_cuts qt_letters qt_queue qt_busyTo qt_servedIn qt_waysOn qt_costOn qt_aheads qt_seen qt_isKept qt_lanes qt_lengths qt_cells t_hasLaw t_hasCounters t_highest t_taped t_fault t_broken t_brokenAt t_spot t_here t_token t_value t_queued t_payed t_bestWait t_bestWhom t_bestCoins t_seenMany t_torn t_state_8 t_readPage t_tape t_cuts t_letters t_queue t_busyTo t_servedIn t_waysOn t_costOn t_aheads t_seen t_isKept t_lanes t_lengths t_cells v_15 v_16 v_17 _ hc) (cwV 3 hts gX9_read_X9_debts rfl rfl rfl (by decide +kernel) ⟨Nat.le_of_ble_eq_true rfl, Nat.le_of_ble_eq_true rfl⟩) hK hP hD hS hA [0, 1, 2, 3, 4, 5, 6, 7, 8, 9, 10, 11, 12, 13, 14, 15, 16] [] [0, 1, 2, 3, 4, 5, 6, 7, 8, 9, 10, 11, 12, 13, 14, 15, 16] (w_Mod cI cB cZ cS cT qt qt_state qt_readPage qt_tape qt_cuts qt_letters qt_queue qt_busyTo qt_servedIn qt_waysOn qt_costOn qt_aheads qt_seen qt_isKept qt_lanes qt_lengths qt_cells t_hasLaw t_hasCounters t_highest t_taped t_fault t_broken t_brokenAt t_spot t_here t_token t_value t_queued t_payed t_bestWait t_bestWhom t_bestCoins t_seenMany t_torn o_18.2 t_readPage t_tape t_cuts t_letters t_queue t_busyTo t_servedIn t_waysOn t_costOn t_aheads t_seen t_isKept t_lanes t_lengths t_cells) rfl rfl rfl rfl (by decide) rfl rfl 9 0 rfl rfl rfl rfl hl.1 rfl (Nat.le_of_ble_eq_true rfl) dX9_read_178 ⟨Nat.zero_le _, Nat.zero_le _⟩ (fun H locs hP hD hS => ?_)
                      refine mr_if_ge (tgt := 198) hx hb hM dX9_read_181 (by decide) (fun hM => ?_) (fun hM => ?_)
                      · refine mr_iinc (k := 7) (d := 1) hx hb (fun x6_19 => [(6, .int x6_19), (8, .int x8_14), (5, .int y_11), (0, .ref qt), (1, .int p1), (2, .int p2), (3, .int p3), (4, .int p4), (7, .int x7_7)]) hM (by decide) dX9_read_198 hl rfl (by decide) (fun _ => rfl) (fun x6_19 hM ls hl => ?_)
                        refine mr_iinc (k := 8) (d := 1) hx hb (fun x7_20 => [(7, .int x7_20), (6, .int x6_19), (8, .int x8_14), (5, .int y_11), (0, .ref qt), (1, .int p1), (2, .int p2), (3, .int p3), (4, .int p4)]) hM (by decide) dX9_read_201 hl rfl (by decide) (fun _ => rfl) (fun x7_20 hM ls hl => ?_)
                        refine lv_goto (tgt := 56) hx hb dX9_read_204 (by decide) ?_
                        exact ih y_11 x6_19 x7_20 o_18.2 hM _ _ hP hD hS ls (lv_sub hl [4, 5, 6, 7, 8, 3, 1, 0] rfl)
                      · exact hK184 x6_6 o_18.2 hM _ _ hP hD hS ls (lv_sub hl [2, 7] rfl)
                · refine mr_icmp_ne (tgt := 85) hx hb hM dX9_read_78 (by decide) (fun hM => ?_) (fun hM => ?_)
                  · refine lv_aload_n hx hb dX9_read_85 rfl (lv_at hl 0 rfl) ?_
                    refine va_get (D := D) (ci := 9) (v := .ref qt_lanes) (C := RX9) (T := TX9) (N := 34) hx hb hts inX9w hown hK hP 0 rfl rfl 30 (by decide) hf50 (fun _ h9 => h9) rfl dX9_read_86 ?_
                    refine lv_iload_n hx hb dX9_read_89 rfl (lv_at hl 1 rfl) ?_
                    refine mr_iald hx hb hK hP 14 0 rfl rfl hM dX9_read_90 (fun v_21 hM => ?_)
                    refine lv_iload_n hx hb dX9_read_91 rfl (lv_at hl 2 rfl) ?_
                    refine mr_icmp_eq (tgt := 99) hx hb hM dX9_read_92 (by decide) (fun hM => ?_) (fun hM => ?_)
                    · refine lv_iload_n hx hb dX9_read_99 rfl (lv_at hl 3 rfl) ?_
                      refine lv_i2l hx hb dX9_read_100 rfl ?_
                      refine lv_iload hx hb dX9_read_101 (lv_at hl 7 rfl) ?_
                      refine lv_i2l hx hb dX9_read_103 rfl ?_
                      refine lv_ladd hx hb dX9_read_104 ?_
                      refine lv_lconst (v := 0) hx hb dX9_read_105 (by decide) ?_
                      refine lv_aload_n hx hb dX9_read_106 rfl (lv_at hl 0 rfl) ?_
                      refine va_get (D := D) (ci := 9) (v := .ref qt_lengths) (C := RX9) (T := TX9) (N := 34) hx hb hts inX9w hown hK hP 0 rfl rfl 31 (by decide) hf53 (fun _ h9 => h9) rfl dX9_read_107 ?_
                      refine lv_iload_n hx hb dX9_read_110 rfl (lv_at hl 1 rfl) ?_
                      refine mr_iald hx hb hK hP 15 0 rfl rfl hM dX9_read_111 (fun v_22 hM => ?_)
                      refine lv_iconst (v := 1) hx hb dX9_read_112 (by decide) ?_
                      refine lv_isub hx hb dX9_read_113 ?_
                      refine lv_i2l hx hb dX9_read_114 rfl ?_
                      obtain ⟨o_23, hc, hM⟩ := bind_so hM
                      refine mr_callSi (As := [.long (p3.toInt64 + x7_7.toInt64), .long 0, .long ((v_22 - 1).toInt64)]) (rest := []) ⟨hx, hb, hml, hown, hts⟩ (k_Mod_in l D cI cB cZ cS cT   (p3.toInt64 + x7_7.toInt64) 0 ((v_22 - 1).toInt64) _ hc) (cwS 3 hts gX9_read_X9_in rfl rfl rfl (by decide +kernel) ⟨Nat.le_of_ble_eq_true rfl, Nat.le_of_ble_eq_true rfl⟩) hK hP hD hS hA rfl hl.1 rfl (Nat.le_of_ble_eq_true rfl) dX9_read_115 ⟨Nat.zero_le _, Nat.zero_le _⟩ (fun H locs hP hS => ?_)
                      refine mr_if_ne (tgt := 125) hx hb hM dX9_read_118 (by decide) (fun hM => ?_) (fun hM => ?_)
                      · refine lv_iconst (v := 0) hx hb dX9_read_125 (by decide) ?_
                        exact hj126_10 0 hM _ _ hP hD hS ls (lv_sub hl [0, 1, 2, 3, 4, 6, 7] rfl)
                      · refine lv_iconst (v := 2) hx hb dX9_read_121 (by decide) ?_
                        refine lv_goto (tgt := 126) hx hb dX9_read_122 (by decide) ?_
                        exact hj126_10 2 hM _ _ hP hD hS ls (lv_sub hl [0, 1, 2, 3, 4, 6, 7] rfl)
                    · refine lv_iconst (v := 3) hx hb dX9_read_95 (by decide) ?_
                      refine lv_goto (tgt := 126) hx hb dX9_read_96 (by decide) ?_
                      exact hj126_10 3 hM _ _ hP hD hS ls (lv_sub hl [0, 1, 2, 3, 4, 6, 7] rfl)
                  · refine lv_iconst (v := 1) hx hb dX9_read_81 (by decide) ?_
                    refine lv_goto (tgt := 126) hx hb dX9_read_82 (by decide) ?_
                    exact hj126_10 1 hM _ _ hP hD hS ls (lv_sub hl [0, 1, 2, 3, 4, 6, 7] rfl)
        refine hL56 _ _ (fun x6_24 t_state_25 hM H locs hP hD hS ls hl => ?_) (fun x5_27 x6_28 t_state_29 hM H locs hP hD hS ls hl => ?_) _ 0 0 0 o_4 hM _ _ hP hD hS ls (lv_sub hl [3, 4, 5, 6, 7, 2, 1, 0] rfl)
        · refine lv_aload_n hx hb dX9_read_184 rfl (lv_at hl 0 rfl) ?_
          refine lv_sipush (v := 376) hx hb dX9_read_185 (by decide) ?_
          refine lv_iconst (v := 0) hx hb dX9_read_188 (by decide) ?_
          obtain ⟨o_26, hc, hM⟩ := bind_so hM
          refine mr_callVv (As := [.int 376, .int 0]) (rest := []) (wr := []) ⟨hx, hb, hml, hown, hts⟩ (k_Mod_copies l D cI cB cZ cS cT qt qt_state qt_readPage qt_tape qt_cuts qt_letters qt_queue qt_busyTo qt_servedIn qt_waysOn qt_costOn qt_aheads qt_seen qt_isKept qt_lanes qt_lengths qt_cells t_hasLaw t_hasCounters t_highest t_taped t_fault t_broken t_brokenAt t_spot t_here t_token t_value t_queued t_payed t_bestWait t_bestWhom t_bestCoins t_seenMany t_torn t_state_25 t_readPage t_tape t_cuts t_letters t_queue t_busyTo t_servedIn t_waysOn t_costOn t_aheads t_seen t_isKept t_lanes t_lengths t_cells 376 0 _ hc) (cwV 2 hts gX9_read_X9_copies rfl rfl rfl (by decide +kernel) ⟨Nat.le_of_ble_eq_true rfl, Nat.le_of_ble_eq_true rfl⟩) hK hP hD hS hA [0, 1, 2, 3, 4, 5, 6, 7, 8, 9, 10, 11, 12, 13, 14, 15, 16] [] [0, 1, 2, 3, 4, 5, 6, 7, 8, 9, 10, 11, 12, 13, 14, 15, 16] (w_Mod cI cB cZ cS cT qt qt_state qt_readPage qt_tape qt_cuts qt_letters qt_queue qt_busyTo qt_servedIn qt_waysOn qt_costOn qt_aheads qt_seen qt_isKept qt_lanes qt_lengths qt_cells t_hasLaw t_hasCounters t_highest t_taped t_fault t_broken t_brokenAt t_spot t_here t_token t_value t_queued t_payed t_bestWait t_bestWhom t_bestCoins t_seenMany t_torn o_26 t_readPage t_tape t_cuts t_letters t_queue t_busyTo t_servedIn t_waysOn t_costOn t_aheads t_seen t_isKept t_lanes t_lengths t_cells) rfl rfl rfl rfl (by decide) rfl rfl 9 0 rfl rfl rfl rfl hl.1 rfl (Nat.le_of_ble_eq_true rfl) dX9_read_189 ⟨Nat.zero_le _, Nat.zero_le _⟩ (fun H locs hP hD hS => ?_)
          refine lv_bipush (v := (-20)) hx hb dX9_read_192 (by decide) ?_
          refine lv_iload hx hb dX9_read_194 (lv_at hl 1 rfl) ?_
          refine lv_isub hx hb dX9_read_196 ?_
          have hM := Option.some.inj hM
          subst hM
          exact mr_iret hx hb hr hlocks hQ hP hD hS rfl dX9_read_197
        · refine lv_aload_n hx hb dX9_read_207 rfl (lv_at hl 0 rfl) ?_
          refine lv_iload hx hb dX9_read_208 (lv_at hl 1 rfl) ?_
          refine mr_put (D := D) (ci := 9) (v := .int x5_27) (ty := .int) (C := RX9) (T := TX9) (N := 34) hx hb hts inX9w tyX9 tyX9_ok nmX9 hown hK hP hD hS 0 rfl rfl 33 (by decide) hf267 (fun _ h9 => h9) rfl (by decide +kernel) rfl rfl (Nat.le_of_ble_eq_true rfl) dX9_read_210 (w_Mod cI cB cZ cS cT qt qt_state qt_readPage qt_tape qt_cuts qt_letters qt_queue qt_busyTo qt_servedIn qt_waysOn qt_costOn qt_aheads qt_seen qt_isKept qt_lanes qt_lengths qt_cells t_hasLaw t_hasCounters t_highest t_taped t_fault t_broken t_brokenAt t_spot t_here t_token t_value t_queued t_payed t_bestWait t_bestWhom t_bestCoins t_seenMany x5_27 t_state_29 t_readPage t_tape t_cuts t_letters t_queue t_busyTo t_servedIn t_waysOn t_costOn t_aheads t_seen t_isKept t_lanes t_lengths t_cells) rfl (fun H locs hP hD hS => ?_)
          refine lv_iload hx hb dX9_read_213 (lv_at hl 2 rfl) ?_
          have hM := Option.some.inj hM
          subst hM
          exact mr_iret hx hb hr hlocks hQ hP hD hS rfl dX9_read_215
      · refine lv_iconst (v := (-1)) hx hb dX9_read_37 (by decide) ?_
        have hM := Option.some.inj hM
        subst hM
        exact mr_iret hx hb hr hlocks hQ hP hD hS rfl dX9_read_38

abbrev rmX9_torn : Room := { frames := 0, cells := 0, slots := 0, locals := 0 }
set_option maxHeartbeats 40000000 in
set_option maxRecDepth 100000 in
theorem k_Mod_torn (l : Launch) (D : va_G) (cI cB cZ cS cT : ClassId) (qt qt_state qt_readPage qt_tape qt_cuts qt_letters qt_queue qt_busyTo qt_servedIn qt_waysOn qt_costOn qt_aheads qt_seen qt_isKept qt_lanes qt_lengths qt_cells : Nat) (t_hasLaw t_hasCounters t_highest t_taped t_fault t_broken t_brokenAt t_spot t_here t_token t_value t_queued t_payed t_bestWait t_bestWhom t_bestCoins t_seenMany t_torn : Int32) (t_state t_readPage t_tape t_cuts t_letters t_queue t_busyTo t_servedIn t_waysOn t_costOn t_aheads t_seen t_isKept t_lanes t_lengths t_cells : Nat → Int32)  (o : Int32) (hM : Mod_torn t_torn = some o) : mtI l yX9_torn wsX9_torn rmX9_torn D (tys5 cI cB cZ cS cT) [.ref qt] (w_Mod cI cB cZ cS cT qt qt_state qt_readPage qt_tape qt_cuts qt_letters qt_queue qt_busyTo qt_servedIn qt_waysOn qt_costOn qt_aheads qt_seen qt_isKept qt_lanes qt_lengths qt_cells t_hasLaw t_hasCounters t_highest t_taped t_fault t_broken t_brokenAt t_spot t_here t_token t_value t_queued t_payed t_bestWait t_bestWhom t_bestCoins t_seenMany t_torn t_state t_readPage t_tape t_cuts t_letters t_queue t_busyTo t_servedIn t_waysOn t_costOn t_aheads t_seen t_isKept t_lanes t_lengths t_cells) (w_Mod cI cB cZ cS cT qt qt_state qt_readPage qt_tape qt_cuts qt_letters qt_queue qt_busyTo qt_servedIn qt_waysOn qt_costOn qt_aheads qt_seen qt_isKept qt_lanes qt_lengths qt_cells t_hasLaw t_hasCounters t_highest t_taped t_fault t_broken t_brokenAt t_spot t_here t_token t_value t_queued t_payed t_bestWait t_bestWhom t_bestCoins t_seenMany t_torn t_state t_readPage t_tape t_cuts t_letters t_queue t_busyTo t_servedIn t_waysOn t_costOn t_aheads t_seen t_isKept t_lanes t_lengths t_cells) o := by
  refine mtI.of (cc := cX9_torn) (maxL := 1) (ret := (some .int)) (by decide) rfl (Nat.le_of_ble_eq_true rfl) ?_
  intro p e s m below meth c A Q av hav hQ hx hb hr hml hown hts hlocks hK hP hD hA hS ls hl
  have hown : s.vm.findClass RX9 = some m.cls := hown
  have hl : lv_has ls 1 [(0, .ref qt)] := hl
  unfold Mod_torn at hM
  have inX9w : ∀ w ∈ u_ws RX9 TX9 34, w ∈ wsX9_torn := by decide +kernel
  have hf267 := hts (.fieldLink RX9 267 "LetsInModel" "torn" "I") (by decide +kernel)
  refine lv_aload_n hx hb dX9_torn_0 rfl (lv_at hl 0 rfl) ?_
  refine va_get (D := D) (ci := 9) (v := .int t_torn) (C := RX9) (T := TX9) (N := 34) hx hb hts inX9w hown hK hP 0 rfl rfl 33 (by decide) hf267 (fun _ h9 => h9) rfl dX9_torn_1 ?_
  have hM := Option.some.inj hM
  subst hM
  exact mr_iret hx hb hr hlocks hQ hP hD hS rfl dX9_torn_4

abbrev rmX9_count : Room := { frames := 0, cells := 0, slots := 0, locals := 0 }
set_option maxHeartbeats 40000000 in
set_option maxRecDepth 100000 in
theorem k_Mod_count (l : Launch) (D : va_G) (cI cB cZ cS cT : ClassId) (qt qt_state qt_readPage qt_tape qt_cuts qt_letters qt_queue qt_busyTo qt_servedIn qt_waysOn qt_costOn qt_aheads qt_seen qt_isKept qt_lanes qt_lengths qt_cells : Nat) (t_hasLaw t_hasCounters t_highest t_taped t_fault t_broken t_brokenAt t_spot t_here t_token t_value t_queued t_payed t_bestWait t_bestWhom t_bestCoins t_seenMany t_torn : Int32) (t_state t_readPage t_tape t_cuts t_letters t_queue t_busyTo t_servedIn t_waysOn t_costOn t_aheads t_seen t_isKept t_lanes t_lengths t_cells : Nat → Int32) (p1 : Int32) (o : Int32) (hM : Mod_count p1 t_taped t_seenMany t_state t_isKept t_lanes t_lengths = some o) : mtI l yX9_count wsX9_count rmX9_count D (tys5 cI cB cZ cS cT) [.ref qt, .int p1] (w_Mod cI cB cZ cS cT qt qt_state qt_readPage qt_tape qt_cuts qt_letters qt_queue qt_busyTo qt_servedIn qt_waysOn qt_costOn qt_aheads qt_seen qt_isKept qt_lanes qt_lengths qt_cells t_hasLaw t_hasCounters t_highest t_taped t_fault t_broken t_brokenAt t_spot t_here t_token t_value t_queued t_payed t_bestWait t_bestWhom t_bestCoins t_seenMany t_torn t_state t_readPage t_tape t_cuts t_letters t_queue t_busyTo t_servedIn t_waysOn t_costOn t_aheads t_seen t_isKept t_lanes t_lengths t_cells) (w_Mod cI cB cZ cS cT qt qt_state qt_readPage qt_tape qt_cuts qt_letters qt_queue qt_busyTo qt_servedIn qt_waysOn qt_costOn qt_aheads qt_seen qt_isKept qt_lanes qt_lengths qt_cells t_hasLaw t_hasCounters t_highest t_taped t_fault t_broken t_brokenAt t_spot t_here t_token t_value t_queued t_payed t_bestWait t_bestWhom t_bestCoins t_seenMany t_torn t_state t_readPage t_tape t_cuts t_letters t_queue t_busyTo t_servedIn t_waysOn t_costOn t_aheads t_seen t_isKept t_lanes t_lengths t_cells) o := by
  refine mtI.of (cc := cX9_count) (maxL := 5) (ret := (some .int)) (by decide) rfl (Nat.le_of_ble_eq_true rfl) ?_
  intro p e s m below meth c A Q av hav hQ hx hb hr hml hown hts hlocks hK hP hD hA hS ls hl
  have hown : s.vm.findClass RX9 = some m.cls := hown
  have hl : lv_has ls 5 [(0, .ref qt), (1, .int p1)] := hl
  unfold Mod_count at hM
  have inX9w : ∀ w ∈ u_ws RX9 TX9 34, w ∈ wsX9_count := by decide +kernel
  have hf7 := hts (.fieldLink RX9 7 "LetsInModel" "state" "[I") (by decide +kernel)
  have hf142 := hts (.fieldLink RX9 142 "LetsInModel" "seenMany" "I") (by decide +kernel)
  have hf46 := hts (.fieldLink RX9 46 "LetsInModel" "isKept" "[Z") (by decide +kernel)
  have hf59 := hts (.fieldLink RX9 59 "LetsInModel" "taped" "I") (by decide +kernel)
  have hf50 := hts (.fieldLink RX9 50 "LetsInModel" "lanes" "[I") (by decide +kernel)
  have hf53 := hts (.fieldLink RX9 53 "LetsInModel" "lengths" "[I") (by decide +kernel)
  refine lv_iconst (v := 0) hx hb dX9_count_0 (by decide) ?_
  refine lv_istore_n (lv' := [(2, .int 0), (0, .ref qt), (1, .int p1)]) hx hb dX9_count_1 rfl hl (by decide) rfl (fun ls hl => ?_)
  refine lv_iconst (v := 0) hx hb dX9_count_2 (by decide) ?_
  refine lv_istore_n (lv' := [(3, .int 0), (2, .int 0), (0, .ref qt), (1, .int p1)]) hx hb dX9_count_3 rfl hl (by decide) rfl (fun ls hl => ?_)
  refine lv_iconst (v := 0) hx hb dX9_count_4 (by decide) ?_
  refine lv_istore (lv' := [(4, .int 0), (3, .int 0), (2, .int 0), (0, .ref qt), (1, .int p1)]) hx hb dX9_count_5 hl (by decide) rfl (fun ls hl => ?_)
  have hL7 : ∀ (K54 : Int32 → Int32 → Option (Int32)), (∀ (x2_12 x3_13 : Int32), K54 x2_12 x3_13 = some o → ∀ (H : Heap) (locs : List Loc), va_P D vwCl (w_Mod cI cB cZ cS cT qt qt_state qt_readPage qt_tape qt_cuts qt_letters qt_queue qt_busyTo qt_servedIn qt_waysOn qt_costOn qt_aheads qt_seen qt_isKept qt_lanes qt_lengths qt_cells t_hasLaw t_hasCounters t_highest t_taped t_fault t_broken t_brokenAt t_spot t_here t_token t_value t_queued t_payed t_bestWait t_bestWhom t_bestCoins t_seenMany t_torn t_state t_readPage t_tape t_cuts t_letters t_queue t_busyTo t_servedIn t_waysOn t_costOn t_aheads t_seen t_isKept t_lanes t_lengths t_cells) H → va_D A (w_Mod cI cB cZ cS cT qt qt_state qt_readPage qt_tape qt_cuts qt_letters qt_queue qt_busyTo qt_servedIn qt_waysOn qt_costOn qt_aheads qt_seen qt_isKept qt_lanes qt_lengths qt_cells t_hasLaw t_hasCounters t_highest t_taped t_fault t_broken t_brokenAt t_spot t_here t_token t_value t_queued t_payed t_bestWait t_bestWhom t_bestCoins t_seenMany t_torn t_state t_readPage t_tape t_cuts t_letters t_queue t_busyTo t_servedIn t_waysOn t_costOn t_aheads t_seen t_isKept t_lanes t_lengths t_cells) → va_S A s.heap H locs → ∀ ls : Array Slot, lv_has ls 5 [(0, .ref qt), (1, .int p1), (2, .int x2_12), (3, .int x3_13)] → W p l e rmX9_count s m av below meth c H locs 0 0 Q (F0 m 54 ls [])) → ∀ (n : Nat) (x2_1 x3_2 x4_3 : Int32), Mod_count_L7 t_state K54 n x2_1 x3_2 x4_3 = some o → ∀ (H : Heap) (locs : List Loc), va_P D vwCl (w_Mod cI cB cZ cS cT qt qt_state qt_readPage qt_tape qt_cuts qt_letters qt_queue qt_busyTo qt_servedIn qt_waysOn qt_costOn qt_aheads qt_seen qt_isKept qt_lanes qt_lengths qt_cells t_hasLaw t_hasCounters t_highest t_taped t_fault t_broken t_brokenAt t_spot t_here t_token t_value t_queued t_payed t_bestWait t_bestWhom t_bestCoins t_seenMany t_torn t_state t_readPage t_tape t_cuts t_letters t_queue t_busyTo t_servedIn t_waysOn t_costOn t_aheads t_seen t_isKept t_lanes t_lengths t_cells) H → va_D A (w_Mod cI cB cZ cS cT qt qt_state qt_readPage qt_tape qt_cuts qt_letters qt_queue qt_busyTo qt_servedIn qt_waysOn qt_costOn qt_aheads qt_seen qt_isKept qt_lanes qt_lengths qt_cells t_hasLaw t_hasCounters t_highest t_taped t_fault t_broken t_brokenAt t_spot t_here t_token t_value t_queued t_payed t_bestWait t_bestWhom t_bestCoins t_seenMany t_torn t_state t_readPage t_tape t_cuts t_letters t_queue t_busyTo t_servedIn t_waysOn t_costOn t_aheads t_seen t_isKept t_lanes t_lengths t_cells) → va_S A s.heap H locs → ∀ ls : Array Slot, lv_has ls 5 [(0, .ref qt), (1, .int p1), (2, .int x2_1), (3, .int x3_2), (4, .int x4_3)] → W p l e rmX9_count s m av below meth c H locs 0 0 Q (F0 m 7 ls []) := by
    intro K54 hK54 n
    induction n with
    | zero =>
      intro x2_1 x3_2 x4_3 hM
      rw [Mod_count_L7] at hM
      cases hM
    | succ n ih =>
      intro x2_1 x3_2 x4_3 hM H locs hP hD hS ls hl
      rw [Mod_count_L7] at hM
      refine lv_iload hx hb dX9_count_7 (lv_at hl 4 rfl) ?_
      refine lv_bipush (v := 49) hx hb dX9_count_9 (by decide) ?_
      refine mr_icmp_ge (tgt := 54) hx hb hM dX9_count_11 (by decide) (fun hM => ?_) (fun hM => ?_)
      · exact hK54 x2_1 x3_2 hM _ _ hP hD hS ls (lv_sub hl [0, 1, 2, 3] rfl)
      · refine lv_iload_n hx hb dX9_count_14 rfl (lv_at hl 2 rfl) ?_
        refine lv_aload_n hx hb dX9_count_15 rfl (lv_at hl 0 rfl) ?_
        refine va_get (D := D) (ci := 9) (v := .ref qt_state) (C := RX9) (T := TX9) (N := 34) hx hb hts inX9w hown hK hP 0 rfl rfl 0 (by decide) hf7 (fun _ h9 => h9) rfl dX9_count_16 ?_
        refine lv_bipush (v := 42) hx hb dX9_count_19 (by decide) ?_
        refine lv_iload hx hb dX9_count_21 (lv_at hl 4 rfl) ?_
        refine lv_iadd hx hb dX9_count_23 ?_
        refine mr_iald hx hb hK hP 1 0 rfl rfl hM dX9_count_24 (fun v_4 hM => ?_)
        refine mr_jn hM (fun j33_5 => ∀ (y_6 y_7 : Int32), j33_5 y_6 y_7 = some o → ∀ (H : Heap) (locs : List Loc), va_P D vwCl (w_Mod cI cB cZ cS cT qt qt_state qt_readPage qt_tape qt_cuts qt_letters qt_queue qt_busyTo qt_servedIn qt_waysOn qt_costOn qt_aheads qt_seen qt_isKept qt_lanes qt_lengths qt_cells t_hasLaw t_hasCounters t_highest t_taped t_fault t_broken t_brokenAt t_spot t_here t_token t_value t_queued t_payed t_bestWait t_bestWhom t_bestCoins t_seenMany t_torn t_state t_readPage t_tape t_cuts t_letters t_queue t_busyTo t_servedIn t_waysOn t_costOn t_aheads t_seen t_isKept t_lanes t_lengths t_cells) H → va_D A (w_Mod cI cB cZ cS cT qt qt_state qt_readPage qt_tape qt_cuts qt_letters qt_queue qt_busyTo qt_servedIn qt_waysOn qt_costOn qt_aheads qt_seen qt_isKept qt_lanes qt_lengths qt_cells t_hasLaw t_hasCounters t_highest t_taped t_fault t_broken t_brokenAt t_spot t_here t_token t_value t_queued t_payed t_bestWait t_bestWhom t_bestCoins t_seenMany t_torn t_state t_readPage t_tape t_cuts t_letters t_queue t_busyTo t_servedIn t_waysOn t_costOn t_aheads t_seen t_isKept t_lanes t_lengths t_cells) → va_S A s.heap H locs → ∀ ls : Array Slot, lv_has ls 5 [(0, .ref qt), (1, .int p1), (3, .int x3_2), (4, .int x4_3)] → W p l e rmX9_count s m av below meth c H locs 0 0 Q (F0 m 33 ls [.int y_7, .int y_6])) (fun y_6 y_7 hM H locs hP hD hS ls hl => ?_) (fun j33_5 hj33_5 hM => ?_)
        · refine lv_iadd hx hb dX9_count_33 ?_
          refine mr_nmI hM (fun x2_8 hM => ?_)
          refine lv_istore_n (lv' := [(2, .int x2_8), (0, .ref qt), (1, .int p1), (3, .int x3_2), (4, .int x4_3)]) hx hb dX9_count_34 rfl hl (by decide) rfl (fun ls hl => ?_)
          refine lv_iload_n hx hb dX9_count_35 rfl (lv_at hl 3 rfl) ?_
          refine lv_aload_n hx hb dX9_count_36 rfl (lv_at hl 1 rfl) ?_
          refine va_get (D := D) (ci := 9) (v := .ref qt_state) (C := RX9) (T := TX9) (N := 34) hx hb hts inX9w hown hK hP 0 rfl rfl 0 (by decide) hf7 (fun _ h9 => h9) rfl dX9_count_37 ?_
          refine lv_bipush (v := 42) hx hb dX9_count_40 (by decide) ?_
          refine lv_iload hx hb dX9_count_42 (lv_at hl 4 rfl) ?_
          refine lv_iadd hx hb dX9_count_44 ?_
          refine mr_iald hx hb hK hP 1 0 rfl rfl hM dX9_count_45 (fun v_9 hM => ?_)
          refine lv_iadd hx hb dX9_count_46 ?_
          refine mr_nmI hM (fun x3_10 hM => ?_)
          refine lv_istore_n (lv' := [(3, .int x3_10), (2, .int x2_8), (0, .ref qt), (1, .int p1), (4, .int x4_3)]) hx hb dX9_count_47 rfl hl (by decide) rfl (fun ls hl => ?_)
          refine mr_iinc (k := 4) (d := 1) hx hb (fun x4_11 => [(4, .int x4_11), (3, .int x3_10), (2, .int x2_8), (0, .ref qt), (1, .int p1)]) hM (by decide) dX9_count_48 hl rfl (by decide) (fun _ => rfl) (fun x4_11 hM ls hl => ?_)
          refine lv_goto (tgt := 7) hx hb dX9_count_51 (by decide) ?_
          exact ih x2_8 x3_10 x4_11 hM _ _ hP hD hS ls (lv_sub hl [3, 4, 2, 1, 0] rfl)
        · refine mr_if_le (tgt := 32) hx hb hM dX9_count_25 (by decide) (fun hM => ?_) (fun hM => ?_)
          · refine lv_iconst (v := 0) hx hb dX9_count_32 (by decide) ?_
            exact hj33_5 x2_1 0 hM _ _ hP hD hS ls (lv_sub hl [0, 1, 3, 4] rfl)
          · refine lv_iconst (v := 1) hx hb dX9_count_28 (by decide) ?_
            refine lv_goto (tgt := 33) hx hb dX9_count_29 (by decide) ?_
            exact hj33_5 x2_1 1 hM _ _ hP hD hS ls (lv_sub hl [0, 1, 3, 4] rfl)
  refine hL7 _ (fun x2_12 x3_13 hM H locs hP hD hS ls hl => ?_) _ 0 0 0 hM _ _ hP hD hS ls (lv_sub hl [3, 4, 2, 1, 0] rfl)
  refine lv_iload_n hx hb dX9_count_54 rfl (lv_at hl 1 rfl) ?_
  by_cases c0 : p1 = 0
  · rw [if_pos c0] at hM
    refine lv_tableIn (off := 37) (tgt := 92) hx hb dX9_count_55 (by rw [c0]; decide) (by rw [c0]; decide) (by rw [c0]; decide) (by decide) ?_
    refine lv_iload_n hx hb dX9_count_92 rfl (lv_at hl 2 rfl) ?_
    have hM := Option.some.inj hM
    subst hM
    exact mr_iret hx hb hr hlocks hQ hP hD hS rfl dX9_count_93
  · rw [if_neg c0] at hM
    by_cases c1 : p1 = 1
    · rw [if_pos c1] at hM
      refine lv_tableIn (off := 39) (tgt := 94) hx hb dX9_count_55 (by rw [c1]; decide) (by rw [c1]; decide) (by rw [c1]; decide) (by decide) ?_
      refine lv_iload_n hx hb dX9_count_94 rfl (lv_at hl 3 rfl) ?_
      have hM := Option.some.inj hM
      subst hM
      exact mr_iret hx hb hr hlocks hQ hP hD hS rfl dX9_count_95
    · rw [if_neg c1] at hM
      by_cases c2 : p1 = 2
      · rw [if_pos c2] at hM
        refine lv_tableIn (off := 41) (tgt := 96) hx hb dX9_count_55 (by rw [c2]; decide) (by rw [c2]; decide) (by rw [c2]; decide) (by decide) ?_
        refine lv_aload_n hx hb dX9_count_96 rfl (lv_at hl 0 rfl) ?_
        refine va_get (D := D) (ci := 9) (v := .int t_seenMany) (C := RX9) (T := TX9) (N := 34) hx hb hts inX9w hown hK hP 0 rfl rfl 28 (by decide) hf142 (fun _ h9 => h9) rfl dX9_count_97 ?_
        have hM := Option.some.inj hM
        subst hM
        exact mr_iret hx hb hr hlocks hQ hP hD hS rfl dX9_count_100
      · rw [if_neg c2] at hM
        by_cases c3 : p1 = 3
        · rw [if_pos c3] at hM
          refine lv_tableIn (off := 46) (tgt := 101) hx hb dX9_count_55 (by rw [c3]; decide) (by rw [c3]; decide) (by rw [c3]; decide) (by decide) ?_
          refine lv_aload_n hx hb dX9_count_101 rfl (lv_at hl 0 rfl) ?_
          refine va_get (D := D) (ci := 9) (v := .ref qt_isKept) (C := RX9) (T := TX9) (N := 34) hx hb hts inX9w hown hK hP 0 rfl rfl 29 (by decide) hf46 (fun _ h9 => h9) rfl dX9_count_102 ?_
          refine lv_iconst (v := 0) hx hb dX9_count_105 (by decide) ?_
          refine mr_zald hx hb hK hP 13 2 rfl rfl hM dX9_count_106 (fun v_14 hM => ?_)
          refine mr_jn hM (fun j115_15 => ∀ (y_16 : Int32), j115_15 y_16 = some o → ∀ (H : Heap) (locs : List Loc), va_P D vwCl (w_Mod cI cB cZ cS cT qt qt_state qt_readPage qt_tape qt_cuts qt_letters qt_queue qt_busyTo qt_servedIn qt_waysOn qt_costOn qt_aheads qt_seen qt_isKept qt_lanes qt_lengths qt_cells t_hasLaw t_hasCounters t_highest t_taped t_fault t_broken t_brokenAt t_spot t_here t_token t_value t_queued t_payed t_bestWait t_bestWhom t_bestCoins t_seenMany t_torn t_state t_readPage t_tape t_cuts t_letters t_queue t_busyTo t_servedIn t_waysOn t_costOn t_aheads t_seen t_isKept t_lanes t_lengths t_cells) H → va_D A (w_Mod cI cB cZ cS cT qt qt_state qt_readPage qt_tape qt_cuts qt_letters qt_queue qt_busyTo qt_servedIn qt_waysOn qt_costOn qt_aheads qt_seen qt_isKept qt_lanes qt_lengths qt_cells t_hasLaw t_hasCounters t_highest t_taped t_fault t_broken t_brokenAt t_spot t_here t_token t_value t_queued t_payed t_bestWait t_bestWhom t_bestCoins t_seenMany t_torn t_state t_readPage t_tape t_cuts t_letters t_queue t_busyTo t_servedIn t_waysOn t_costOn t_aheads t_seen t_isKept t_lanes t_lengths t_cells) → va_S A s.heap H locs → ∀ ls : Array Slot, lv_has ls 5 [(0, .ref qt)] → W p l e rmX9_count s m av below meth c H locs 0 0 Q (F0 m 115 ls [.int y_16])) (fun y_16 hM H locs hP hD hS ls hl => ?_) (fun j115_15 hj115_15 hM => ?_)
          · refine lv_aload_n hx hb dX9_count_115 rfl (lv_at hl 0 rfl) ?_
            refine va_get (D := D) (ci := 9) (v := .ref qt_isKept) (C := RX9) (T := TX9) (N := 34) hx hb hts inX9w hown hK hP 0 rfl rfl 29 (by decide) hf46 (fun _ h9 => h9) rfl dX9_count_116 ?_
            refine lv_iconst (v := 1) hx hb dX9_count_119 (by decide) ?_
            refine mr_zald hx hb hK hP 13 2 rfl rfl hM dX9_count_120 (fun v_17 hM => ?_)
            refine mr_if_eq (tgt := 128) hx hb hM dX9_count_121 (by decide) (fun hM => ?_) (fun hM => ?_)
            · refine lv_iconst (v := 0) hx hb dX9_count_128 (by decide) ?_
              refine lv_iadd hx hb dX9_count_129 ?_
              have hM := Option.some.inj hM
              subst hM
              exact mr_iret hx hb hr hlocks hQ hP hD hS rfl dX9_count_130
            · refine lv_iconst (v := 1) hx hb dX9_count_124 (by decide) ?_
              refine lv_goto (tgt := 129) hx hb dX9_count_125 (by decide) ?_
              refine lv_iadd hx hb dX9_count_129 ?_
              have hM := Option.some.inj hM
              subst hM
              exact mr_iret hx hb hr hlocks hQ hP hD hS rfl dX9_count_130
          · refine mr_if_eq (tgt := 114) hx hb hM dX9_count_107 (by decide) (fun hM => ?_) (fun hM => ?_)
            · refine lv_iconst (v := 0) hx hb dX9_count_114 (by decide) ?_
              exact hj115_15 0 hM _ _ hP hD hS ls (lv_sub hl [0] rfl)
            · refine lv_iconst (v := 1) hx hb dX9_count_110 (by decide) ?_
              refine lv_goto (tgt := 115) hx hb dX9_count_111 (by decide) ?_
              exact hj115_15 1 hM _ _ hP hD hS ls (lv_sub hl [0] rfl)
        · rw [if_neg c3] at hM
          by_cases c4 : p1 = 4
          · rw [if_pos c4] at hM
            refine lv_tableIn (off := 76) (tgt := 131) hx hb dX9_count_55 (by rw [c4]; decide) (by rw [c4]; decide) (by rw [c4]; decide) (by decide) ?_
            refine lv_aload_n hx hb dX9_count_131 rfl (lv_at hl 0 rfl) ?_
            refine va_get (D := D) (ci := 9) (v := .int t_taped) (C := RX9) (T := TX9) (N := 34) hx hb hts inX9w hown hK hP 0 rfl rfl 6 (by decide) hf59 (fun _ h9 => h9) rfl dX9_count_132 ?_
            have hM := Option.some.inj hM
            subst hM
            exact mr_iret hx hb hr hlocks hQ hP hD hS rfl dX9_count_135
          · rw [if_neg c4] at hM
            by_cases c5 : p1 = 5
            · rw [if_pos c5] at hM
              refine lv_tableIn (off := 81) (tgt := 136) hx hb dX9_count_55 (by rw [c5]; decide) (by rw [c5]; decide) (by rw [c5]; decide) (by decide) ?_
              refine lv_aload_n hx hb dX9_count_136 rfl (lv_at hl 0 rfl) ?_
              refine va_get (D := D) (ci := 9) (v := .ref qt_lanes) (C := RX9) (T := TX9) (N := 34) hx hb hts inX9w hown hK hP 0 rfl rfl 30 (by decide) hf50 (fun _ h9 => h9) rfl dX9_count_137 ?_
              refine lv_iconst (v := 0) hx hb dX9_count_140 (by decide) ?_
              refine mr_iald hx hb hK hP 14 0 rfl rfl hM dX9_count_141 (fun v_18 hM => ?_)
              refine lv_bipush (v := (-4)) hx hb dX9_count_142 (by decide) ?_
              refine mr_icmp_ne (tgt := 152) hx hb hM dX9_count_144 (by decide) (fun hM => ?_) (fun hM => ?_)
              · refine lv_aload_n hx hb dX9_count_152 rfl (lv_at hl 0 rfl) ?_
                refine va_get (D := D) (ci := 9) (v := .ref qt_lengths) (C := RX9) (T := TX9) (N := 34) hx hb hts inX9w hown hK hP 0 rfl rfl 31 (by decide) hf53 (fun _ h9 => h9) rfl dX9_count_153 ?_
                refine lv_iconst (v := 0) hx hb dX9_count_156 (by decide) ?_
                refine mr_iald hx hb hK hP 15 0 rfl rfl hM dX9_count_157 (fun v_19 hM => ?_)
                have hM := Option.some.inj hM
                subst hM
                exact mr_iret hx hb hr hlocks hQ hP hD hS rfl dX9_count_158
              · refine lv_bipush (v := (-4)) hx hb dX9_count_147 (by decide) ?_
                refine lv_goto (tgt := 158) hx hb dX9_count_149 (by decide) ?_
                have hM := Option.some.inj hM
                subst hM
                exact mr_iret hx hb hr hlocks hQ hP hD hS rfl dX9_count_158
            · rw [if_neg c5] at hM
              refine lv_tableOut (tgt := 159) hx hb dX9_count_55 (by have t0 := lv_neT c0 (show ((0 : Int32)).toInt = 0 by decide); have t1 := lv_neT c1 (show ((1 : Int32)).toInt = 1 by decide); have t2 := lv_neT c2 (show ((2 : Int32)).toInt = 2 by decide); have t3 := lv_neT c3 (show ((3 : Int32)).toInt = 3 by decide); have t4 := lv_neT c4 (show ((4 : Int32)).toInt = 4 by decide); have t5 := lv_neT c5 (show ((5 : Int32)).toInt = 5 by decide); omega) (by decide) ?_
              refine lv_iconst (v := (-1)) hx hb dX9_count_159 (by decide) ?_
              have hM := Option.some.inj hM
              subst hM
              exact mr_iret hx hb hr hlocks hQ hP hD hS rfl dX9_count_160
