abbrev rmX9_feed : Room := { frames := 0, cells := 0, slots := 0, locals := 0 }
set_option maxHeartbeats 40000000 in
set_option maxRecDepth 100000 in
theorem k_Mod_feed (l : Launch) (D : va_G) (cI cB cZ cS cT : ClassId) (qt qt_state qt_readPage qt_tape qt_cuts qt_letters qt_queue qt_busyTo qt_servedIn qt_waysOn qt_costOn qt_aheads qt_seen qt_isKept qt_lanes qt_lengths qt_cells : Nat) (t_hasLaw t_hasCounters t_highest t_taped t_fault t_broken t_brokenAt t_spot t_here t_token t_value t_queued t_payed t_bestWait t_bestWhom t_bestCoins t_seenMany t_torn : Int32) (t_state t_readPage t_tape t_cuts t_letters t_queue t_busyTo t_servedIn t_waysOn t_costOn t_aheads t_seen t_isKept t_lanes t_lengths t_cells : Nat → Int32) (p1 : Int64) (o : Int32 × Int32 × (Nat → Int32)) (hM : Mod_feed p1 t_taped t_tape = some o) : mtI l yX9_feed wsX9_feed rmX9_feed D (tys5 cI cB cZ cS cT) [.ref qt, .long p1] (w_Mod cI cB cZ cS cT qt qt_state qt_readPage qt_tape qt_cuts qt_letters qt_queue qt_busyTo qt_servedIn qt_waysOn qt_costOn qt_aheads qt_seen qt_isKept qt_lanes qt_lengths qt_cells t_hasLaw t_hasCounters t_highest t_taped t_fault t_broken t_brokenAt t_spot t_here t_token t_value t_queued t_payed t_bestWait t_bestWhom t_bestCoins t_seenMany t_torn t_state t_readPage t_tape t_cuts t_letters t_queue t_busyTo t_servedIn t_waysOn t_costOn t_aheads t_seen t_isKept t_lanes t_lengths t_cells) (w_Mod cI cB cZ cS cT qt qt_state qt_readPage qt_tape qt_cuts qt_letters qt_queue qt_busyTo qt_servedIn qt_waysOn qt_costOn qt_aheads qt_seen qt_isKept qt_lanes qt_lengths qt_cells t_hasLaw t_hasCounters t_highest o.2.1 t_fault t_broken t_brokenAt t_spot t_here t_token t_value t_queued t_payed t_bestWait t_bestWhom t_bestCoins t_seenMany t_torn t_state t_readPage o.2.2 t_cuts t_letters t_queue t_busyTo t_servedIn t_waysOn t_costOn t_aheads t_seen t_isKept t_lanes t_lengths t_cells) o.1 := by
  refine mtI.of (cc := cX9_feed) (maxL := 4) (ret := (some .int)) (by decide) rfl (Nat.le_of_ble_eq_true rfl) ?_
  intro p e s m below meth c A Q av hav hQ hx hb hr hml hown hts hlocks hK hP hD hA hS ls hl
  have hown : s.vm.findClass RX9 = some m.cls := hown
  have hl : lv_has ls 4 [(0, .ref qt), (1, .long p1)] := hl
  unfold Mod_feed at hM
  have inX9w : ∀ w ∈ u_ws RX9 TX9 34, w ∈ wsX9_feed := by decide +kernel
  have hf59 := hts (.fieldLink RX9 59 "LetsInModel" "taped" "I") (by decide +kernel)
  have hf16 := hts (.fieldLink RX9 16 "LetsInModel" "tape" "[I") (by decide +kernel)
  refine lv_aload_n hx hb dX9_feed_0 rfl (lv_at hl 0 rfl) ?_
  refine va_get (D := D) (ci := 9) (v := .int t_taped) (C := RX9) (T := TX9) (N := 34) hx hb hts inX9w hown hK hP 0 rfl rfl 6 (by decide) hf59 (fun _ h9 => h9) rfl dX9_feed_1 ?_
  refine lv_bipush (v := 8) hx hb dX9_feed_4 (by decide) ?_
  refine lv_iadd hx hb dX9_feed_6 ?_
  refine lv_sipush (v := 400) hx hb dX9_feed_7 (by decide) ?_
  refine mr_icmp_le (tgt := 16) hx hb hM dX9_feed_10 (by decide) (fun hM => ?_) (fun hM => ?_)
  · refine lv_bipush (v := 56) hx hb dX9_feed_16 (by decide) ?_
    refine lv_istore_n (lv' := [(3, .int 56), (0, .ref qt), (1, .long p1)]) hx hb dX9_feed_18 rfl hl (by decide) rfl (fun ls hl => ?_)
    have hL19 : ∀ (K56 : Int32 → (Nat → Int32) → Option (Int32 × Int32 × (Nat → Int32))), (∀ (t_taped_7 : Int32) (t_tape_8 : Nat → Int32), K56 t_taped_7 t_tape_8 = some o → ∀ (H : Heap) (locs : List Loc), va_P D vwCl (w_Mod cI cB cZ cS cT qt qt_state qt_readPage qt_tape qt_cuts qt_letters qt_queue qt_busyTo qt_servedIn qt_waysOn qt_costOn qt_aheads qt_seen qt_isKept qt_lanes qt_lengths qt_cells t_hasLaw t_hasCounters t_highest t_taped_7 t_fault t_broken t_brokenAt t_spot t_here t_token t_value t_queued t_payed t_bestWait t_bestWhom t_bestCoins t_seenMany t_torn t_state t_readPage t_tape_8 t_cuts t_letters t_queue t_busyTo t_servedIn t_waysOn t_costOn t_aheads t_seen t_isKept t_lanes t_lengths t_cells) H → va_D A (w_Mod cI cB cZ cS cT qt qt_state qt_readPage qt_tape qt_cuts qt_letters qt_queue qt_busyTo qt_servedIn qt_waysOn qt_costOn qt_aheads qt_seen qt_isKept qt_lanes qt_lengths qt_cells t_hasLaw t_hasCounters t_highest t_taped_7 t_fault t_broken t_brokenAt t_spot t_here t_token t_value t_queued t_payed t_bestWait t_bestWhom t_bestCoins t_seenMany t_torn t_state t_readPage t_tape_8 t_cuts t_letters t_queue t_busyTo t_servedIn t_waysOn t_costOn t_aheads t_seen t_isKept t_lanes t_lengths t_cells) → va_S A s.heap H locs → ∀ ls : Array Slot, lv_has ls 4 [(0, .ref qt)] → W p l e rmX9_feed s m av below meth c H locs 0 0 Q (F0 m 56 ls [])) → ∀ (n : Nat) (x3_1 t_taped_2 : Int32) (t_tape_3 : Nat → Int32), Mod_feed_L19 p1 K56 n x3_1 t_taped_2 t_tape_3 = some o → ∀ (H : Heap) (locs : List Loc), va_P D vwCl (w_Mod cI cB cZ cS cT qt qt_state qt_readPage qt_tape qt_cuts qt_letters qt_queue qt_busyTo qt_servedIn qt_waysOn qt_costOn qt_aheads qt_seen qt_isKept qt_lanes qt_lengths qt_cells t_hasLaw t_hasCounters t_highest t_taped_2 t_fault t_broken t_brokenAt t_spot t_here t_token t_value t_queued t_payed t_bestWait t_bestWhom t_bestCoins t_seenMany t_torn t_state t_readPage t_tape_3 t_cuts t_letters t_queue t_busyTo t_servedIn t_waysOn t_costOn t_aheads t_seen t_isKept t_lanes t_lengths t_cells) H → va_D A (w_Mod cI cB cZ cS cT qt qt_state qt_readPage qt_tape qt_cuts qt_letters qt_queue qt_busyTo qt_servedIn qt_waysOn qt_costOn qt_aheads qt_seen qt_isKept qt_lanes qt_lengths qt_cells t_hasLaw t_hasCounters t_highest t_taped_2 t_fault t_broken t_brokenAt t_spot t_here t_token t_value t_queued t_payed t_bestWait t_bestWhom t_bestCoins t_seenMany t_torn t_state t_readPage t_tape_3 t_cuts t_letters t_queue t_busyTo t_servedIn t_waysOn t_costOn t_aheads t_seen t_isKept t_lanes t_lengths t_cells) → va_S A s.heap H locs → ∀ ls : Array Slot, lv_has ls 4 [(0, .ref qt), (1, .long p1), (3, .int x3_1)] → W p l e rmX9_feed s m av below meth c H locs 0 0 Q (F0 m 19 ls []) := by
      intro K56 hK56 n
      induction n with
      | zero =>
        intro x3_1 t_taped_2 t_tape_3 hM
        rw [Mod_feed_L19] at hM
        cases hM
      | succ n ih =>
        intro x3_1 t_taped_2 t_tape_3 hM H locs hP hD hS ls hl
        rw [Mod_feed_L19] at hM
        refine lv_iload_n hx hb dX9_feed_19 rfl (lv_at hl 2 rfl) ?_
        refine mr_if_lt (tgt := 56) hx hb hM dX9_feed_20 (by decide) (fun hM => ?_) (fun hM => ?_)
        · exact hK56 t_taped_2 t_tape_3 hM _ _ hP hD hS ls (lv_sub hl [0] rfl)
        · refine lv_aload_n hx hb dX9_feed_23 rfl (lv_at hl 0 rfl) ?_
          refine va_get (D := D) (ci := 9) (v := .ref qt_tape) (C := RX9) (T := TX9) (N := 34) hx hb hts inX9w hown hK hP 0 rfl rfl 5 (by decide) hf16 (fun _ h9 => h9) rfl dX9_feed_24 ?_
          refine lv_aload_n hx hb dX9_feed_27 rfl (lv_at hl 0 rfl) ?_
          refine va_get (D := D) (ci := 9) (v := .int t_taped_2) (C := RX9) (T := TX9) (N := 34) hx hb hts inX9w hown hK hP 0 rfl rfl 6 (by decide) hf59 (fun _ h9 => h9) rfl dX9_feed_28 ?_
          refine lv_lload_n hx hb dX9_feed_31 rfl (lv_at hl 1 rfl) ?_
          refine lv_iload_n hx hb dX9_feed_32 rfl (lv_at hl 2 rfl) ?_
          refine lv_lshr hx hb dX9_feed_33 rfl ?_
          refine lv_l2i hx hb dX9_feed_34 rfl ?_
          refine lv_sipush (v := 255) hx hb dX9_feed_35 (by decide) ?_
          refine lv_iand hx hb dX9_feed_38 ?_
          refine mr_iast hx hb hK hP hD hS 3 0 (fun t_tape_4 => (w_Mod cI cB cZ cS cT qt qt_state qt_readPage qt_tape qt_cuts qt_letters qt_queue qt_busyTo qt_servedIn qt_waysOn qt_costOn qt_aheads qt_seen qt_isKept qt_lanes qt_lengths qt_cells t_hasLaw t_hasCounters t_highest t_taped_2 t_fault t_broken t_brokenAt t_spot t_here t_token t_value t_queued t_payed t_bestWait t_bestWhom t_bestCoins t_seenMany t_torn t_state t_readPage t_tape_4 t_cuts t_letters t_queue t_busyTo t_servedIn t_waysOn t_costOn t_aheads t_seen t_isKept t_lanes t_lengths t_cells)) rfl rfl (fun _ => rfl) hM dX9_feed_39 (fun t_tape_4 hM H locs hP hD hS => ?_)
          refine lv_aload_n hx hb dX9_feed_40 rfl (lv_at hl 0 rfl) ?_
          refine lv_dup hx hb dX9_feed_41 rfl ?_
          refine va_get (D := D) (ci := 9) (v := .int t_taped_2) (C := RX9) (T := TX9) (N := 34) hx hb hts inX9w hown hK hP 0 rfl rfl 6 (by decide) hf59 (fun _ h9 => h9) rfl dX9_feed_42 ?_
          refine lv_iconst (v := 1) hx hb dX9_feed_45 (by decide) ?_
          refine lv_iadd hx hb dX9_feed_46 ?_
          refine mr_nmI hM (fun t_taped_5 hM => ?_)
          refine mr_put (D := D) (ci := 9) (v := .int t_taped_5) (ty := .int) (C := RX9) (T := TX9) (N := 34) hx hb hts inX9w tyX9 tyX9_ok nmX9 hown hK hP hD hS 0 rfl rfl 6 (by decide) hf59 (fun _ h9 => h9) rfl (by decide +kernel) rfl rfl (Nat.le_of_ble_eq_true rfl) dX9_feed_47 (w_Mod cI cB cZ cS cT qt qt_state qt_readPage qt_tape qt_cuts qt_letters qt_queue qt_busyTo qt_servedIn qt_waysOn qt_costOn qt_aheads qt_seen qt_isKept qt_lanes qt_lengths qt_cells t_hasLaw t_hasCounters t_highest t_taped_5 t_fault t_broken t_brokenAt t_spot t_here t_token t_value t_queued t_payed t_bestWait t_bestWhom t_bestCoins t_seenMany t_torn t_state t_readPage t_tape_4 t_cuts t_letters t_queue t_busyTo t_servedIn t_waysOn t_costOn t_aheads t_seen t_isKept t_lanes t_lengths t_cells) rfl (fun H locs hP hD hS => ?_)
          refine mr_iinc (k := 2) (d := (-8)) hx hb (fun x3_6 => [(3, .int x3_6), (0, .ref qt), (1, .long p1)]) hM (by decide) dX9_feed_50 hl rfl (by decide) (fun _ => rfl) (fun x3_6 hM ls hl => ?_)
          refine lv_goto (tgt := 19) hx hb dX9_feed_53 (by decide) ?_
          exact ih x3_6 t_taped_5 t_tape_4 hM _ _ hP hD hS ls (lv_sub hl [1, 2, 0] rfl)
    refine hL19 _ (fun t_taped_7 t_tape_8 hM H locs hP hD hS ls hl => ?_) _ 56 t_taped t_tape hM _ _ hP hD hS ls (lv_sub hl [1, 2, 0] rfl)
    refine lv_aload_n hx hb dX9_feed_56 rfl (lv_at hl 0 rfl) ?_
    refine va_get (D := D) (ci := 9) (v := .int t_taped_7) (C := RX9) (T := TX9) (N := 34) hx hb hts inX9w hown hK hP 0 rfl rfl 6 (by decide) hf59 (fun _ h9 => h9) rfl dX9_feed_57 ?_
    have hM := Option.some.inj hM
    subst hM
    exact mr_iret hx hb hr hlocks hQ hP hD hS rfl dX9_feed_60
  · refine lv_bipush (v := (-3)) hx hb dX9_feed_13 (by decide) ?_
    have hM := Option.some.inj hM
    subst hM
    exact mr_iret hx hb hr hlocks hQ hP hD hS rfl dX9_feed_15

abbrev rmX9_in : Room := { frames := 0, cells := 0, slots := 0, locals := 0 }
set_option maxHeartbeats 40000000 in
set_option maxRecDepth 100000 in
theorem k_Mod_in (l : Launch) (D : va_G) (cI cB cZ cS cT : ClassId)   (p0 p2 p4 : Int64) (o : Int32) (hM : Mod_in p0 p2 p4 = some o) : mtI l yX9_in wsX9_in rmX9_in D (tys5 cI cB cZ cS cT) [.long p0, .long p2, .long p4] [] [] o := by
  refine mtI.of (cc := cX9_in) (maxL := 6) (ret := (some .boolean)) (by decide) rfl (Nat.le_of_ble_eq_true rfl) ?_
  intro p e s m below meth c A Q av hav hQ hx hb hr hml hown hts hlocks hK hP hD hA hS ls hl
  have hown : s.vm.findClass RX9 = some m.cls := hown
  have hl : lv_has ls 6 [(0, .long p0), (2, .long p2), (4, .long p4)] := hl
  unfold Mod_in at hM
  refine lv_lload_n hx hb dX9_in_0 rfl (lv_at hl 0 rfl) ?_
  refine lv_lload_n hx hb dX9_in_1 rfl (lv_at hl 1 rfl) ?_
  refine W.lcmp hx hb dX9_in_2 ?_
  refine mr_if_lt (tgt := 17) hx hb hM dX9_in_3 (by decide) (fun hM => ?_) (fun hM => ?_)
  · refine lv_iconst (v := 0) hx hb dX9_in_17 (by decide) ?_
    have hM := Option.some.inj hM
    subst hM
    exact mr_zret hx hb hr (by decide) hlocks hQ hP hD hS rfl dX9_in_18
  · refine lv_lload_n hx hb dX9_in_6 rfl (lv_at hl 0 rfl) ?_
    refine lv_lload hx hb dX9_in_7 (lv_at hl 2 rfl) ?_
    refine W.lcmp hx hb dX9_in_9 ?_
    refine mr_if_gt (tgt := 17) hx hb hM dX9_in_10 (by decide) (fun hM => ?_) (fun hM => ?_)
    · refine lv_iconst (v := 0) hx hb dX9_in_17 (by decide) ?_
      have hM := Option.some.inj hM
      subst hM
      exact mr_zret hx hb hr (by decide) hlocks hQ hP hD hS rfl dX9_in_18
    · refine lv_iconst (v := 1) hx hb dX9_in_13 (by decide) ?_
      refine lv_goto (tgt := 18) hx hb dX9_in_14 (by decide) ?_
      have hM := Option.some.inj hM
      subst hM
      exact mr_zret hx hb hr (by decide) hlocks hQ hP hD hS rfl dX9_in_18

abbrev rmX9_end : Room := { frames := 1, cells := 0, slots := 0, locals := 25 }
set_option maxHeartbeats 40000000 in
set_option maxRecDepth 100000 in
theorem k_Mod_end (l : Launch) (D : va_G) (cI cB cZ cS cT : ClassId) (qt qt_state qt_readPage qt_tape qt_cuts qt_letters qt_queue qt_busyTo qt_servedIn qt_waysOn qt_costOn qt_aheads qt_seen qt_isKept qt_lanes qt_lengths qt_cells : Nat) (t_hasLaw t_hasCounters t_highest t_taped t_fault t_broken t_brokenAt t_spot t_here t_token t_value t_queued t_payed t_bestWait t_bestWhom t_bestCoins t_seenMany t_torn : Int32) (t_state t_readPage t_tape t_cuts t_letters t_queue t_busyTo t_servedIn t_waysOn t_costOn t_aheads t_seen t_isKept t_lanes t_lengths t_cells : Nat → Int32) (p1 : Int32) (o : Int32 × Int32) (hM : Mod_end p1 t_taped = some o) : mtI l yX9_end wsX9_end rmX9_end D (tys5 cI cB cZ cS cT) [.ref qt, .int p1] (w_Mod cI cB cZ cS cT qt qt_state qt_readPage qt_tape qt_cuts qt_letters qt_queue qt_busyTo qt_servedIn qt_waysOn qt_costOn qt_aheads qt_seen qt_isKept qt_lanes qt_lengths qt_cells t_hasLaw t_hasCounters t_highest t_taped t_fault t_broken t_brokenAt t_spot t_here t_token t_value t_queued t_payed t_bestWait t_bestWhom t_bestCoins t_seenMany t_torn t_state t_readPage t_tape t_cuts t_letters t_queue t_busyTo t_servedIn t_waysOn t_costOn t_aheads t_seen t_isKept t_lanes t_lengths t_cells) (w_Mod cI cB cZ cS cT qt qt_state qt_readPage qt_tape qt_cuts qt_letters qt_queue qt_busyTo qt_servedIn qt_waysOn qt_costOn qt_aheads qt_seen qt_isKept qt_lanes qt_lengths qt_cells t_hasLaw t_hasCounters t_highest o.2 t_fault t_broken t_brokenAt t_spot t_here t_token t_value t_queued t_payed t_bestWait t_bestWhom t_bestCoins t_seenMany t_torn t_state t_readPage t_tape t_cuts t_letters t_queue t_busyTo t_servedIn t_waysOn t_costOn t_aheads t_seen t_isKept t_lanes t_lengths t_cells) o.1 := by
  refine mtI.of (cc := cX9_end) (maxL := 3) (ret := (some .int)) (by decide) rfl (Nat.le_of_ble_eq_true rfl) ?_
  intro p e s m below meth c A Q av hav hQ hx hb hr hml hown hts hlocks hK hP hD hA hS ls hl
  have hown : s.vm.findClass RX9 = some m.cls := hown
  have hl : lv_has ls 3 [(0, .ref qt), (1, .int p1)] := hl
  unfold Mod_end at hM
  have inX9w : ∀ w ∈ u_ws RX9 TX9 34, w ∈ wsX9_end := by decide +kernel
  have hf59 := hts (.fieldLink RX9 59 "LetsInModel" "taped" "I") (by decide +kernel)
  refine lv_iload_n hx hb dX9_end_0 rfl (lv_at hl 1 rfl) ?_
  refine lv_i2l hx hb dX9_end_1 rfl ?_
  refine lv_lconst (v := 0) hx hb dX9_end_2 (by decide) ?_
  refine lv_aload_n hx hb dX9_end_3 rfl (lv_at hl 0 rfl) ?_
  refine va_get (D := D) (ci := 9) (v := .int t_taped) (C := RX9) (T := TX9) (N := 34) hx hb hts inX9w hown hK hP 0 rfl rfl 6 (by decide) hf59 (fun _ h9 => h9) rfl dX9_end_4 ?_
  refine lv_i2l hx hb dX9_end_7 rfl ?_
  obtain ⟨o_1, hc, hM⟩ := bind_so hM
  refine mr_callSi (As := [.long p1.toInt64, .long 0, .long t_taped.toInt64]) (rest := []) ⟨hx, hb, hml, hown, hts⟩ (k_Mod_in l D cI cB cZ cS cT   p1.toInt64 0 t_taped.toInt64 _ hc) (cwS 3 hts gX9_end_X9_in rfl rfl rfl (by decide +kernel) ⟨Nat.le_of_ble_eq_true rfl, Nat.le_of_ble_eq_true rfl⟩) hK hP hD hS hA rfl hl.1 rfl (Nat.le_of_ble_eq_true rfl) dX9_end_8 ⟨Nat.zero_le _, Nat.zero_le _⟩ (fun H locs hP hS => ?_)
  refine mr_if_ne (tgt := 16) hx hb hM dX9_end_11 (by decide) (fun hM => ?_) (fun hM => ?_)
  · refine lv_aload_n hx hb dX9_end_16 rfl (lv_at hl 0 rfl) ?_
    refine va_get (D := D) (ci := 9) (v := .int t_taped) (C := RX9) (T := TX9) (N := 34) hx hb hts inX9w hown hK hP 0 rfl rfl 6 (by decide) hf59 (fun _ h9 => h9) rfl dX9_end_17 ?_
    refine lv_istore_n (lv' := [(2, .int t_taped), (0, .ref qt), (1, .int p1)]) hx hb dX9_end_20 rfl hl (by decide) rfl (fun ls hl => ?_)
    refine lv_aload_n hx hb dX9_end_21 rfl (lv_at hl 1 rfl) ?_
    refine lv_iload_n hx hb dX9_end_22 rfl (lv_at hl 2 rfl) ?_
    refine mr_put (D := D) (ci := 9) (v := .int p1) (ty := .int) (C := RX9) (T := TX9) (N := 34) hx hb hts inX9w tyX9 tyX9_ok nmX9 hown hK hP hD hS 0 rfl rfl 6 (by decide) hf59 (fun _ h9 => h9) rfl (by decide +kernel) rfl rfl (Nat.le_of_ble_eq_true rfl) dX9_end_23 (w_Mod cI cB cZ cS cT qt qt_state qt_readPage qt_tape qt_cuts qt_letters qt_queue qt_busyTo qt_servedIn qt_waysOn qt_costOn qt_aheads qt_seen qt_isKept qt_lanes qt_lengths qt_cells t_hasLaw t_hasCounters t_highest p1 t_fault t_broken t_brokenAt t_spot t_here t_token t_value t_queued t_payed t_bestWait t_bestWhom t_bestCoins t_seenMany t_torn t_state t_readPage t_tape t_cuts t_letters t_queue t_busyTo t_servedIn t_waysOn t_costOn t_aheads t_seen t_isKept t_lanes t_lengths t_cells) rfl (fun H locs hP hD hS => ?_)
    refine lv_iload_n hx hb dX9_end_26 rfl (lv_at hl 0 rfl) ?_
    have hM := Option.some.inj hM
    subst hM
    exact mr_iret hx hb hr hlocks hQ hP hD hS rfl dX9_end_27
  · refine lv_iconst (v := (-1)) hx hb dX9_end_14 (by decide) ?_
    have hM := Option.some.inj hM
    subst hM
    exact mr_iret hx hb hr hlocks hQ hP hD hS rfl dX9_end_15

abbrev rmX9_byteAt : Room := { frames := 0, cells := 0, slots := 0, locals := 0 }
set_option maxHeartbeats 40000000 in
set_option maxRecDepth 100000 in
theorem k_Mod_byteAt (l : Launch) (D : va_G) (cI cB cZ cS cT : ClassId) (qt qt_state qt_readPage qt_tape qt_cuts qt_letters qt_queue qt_busyTo qt_servedIn qt_waysOn qt_costOn qt_aheads qt_seen qt_isKept qt_lanes qt_lengths qt_cells : Nat) (t_hasLaw t_hasCounters t_highest t_taped t_fault t_broken t_brokenAt t_spot t_here t_token t_value t_queued t_payed t_bestWait t_bestWhom t_bestCoins t_seenMany t_torn : Int32) (t_state t_readPage t_tape t_cuts t_letters t_queue t_busyTo t_servedIn t_waysOn t_costOn t_aheads t_seen t_isKept t_lanes t_lengths t_cells : Nat → Int32) (p1 : Int32) (o : Int32) (hM : Mod_byteAt p1 t_taped t_tape = some o) : mtI l yX9_byteAt wsX9_byteAt rmX9_byteAt D (tys5 cI cB cZ cS cT) [.ref qt, .int p1] (w_Mod cI cB cZ cS cT qt qt_state qt_readPage qt_tape qt_cuts qt_letters qt_queue qt_busyTo qt_servedIn qt_waysOn qt_costOn qt_aheads qt_seen qt_isKept qt_lanes qt_lengths qt_cells t_hasLaw t_hasCounters t_highest t_taped t_fault t_broken t_brokenAt t_spot t_here t_token t_value t_queued t_payed t_bestWait t_bestWhom t_bestCoins t_seenMany t_torn t_state t_readPage t_tape t_cuts t_letters t_queue t_busyTo t_servedIn t_waysOn t_costOn t_aheads t_seen t_isKept t_lanes t_lengths t_cells) (w_Mod cI cB cZ cS cT qt qt_state qt_readPage qt_tape qt_cuts qt_letters qt_queue qt_busyTo qt_servedIn qt_waysOn qt_costOn qt_aheads qt_seen qt_isKept qt_lanes qt_lengths qt_cells t_hasLaw t_hasCounters t_highest t_taped t_fault t_broken t_brokenAt t_spot t_here t_token t_value t_queued t_payed t_bestWait t_bestWhom t_bestCoins t_seenMany t_torn t_state t_readPage t_tape t_cuts t_letters t_queue t_busyTo t_servedIn t_waysOn t_costOn t_aheads t_seen t_isKept t_lanes t_lengths t_cells) o := by
  refine mtI.of (cc := cX9_byteAt) (maxL := 2) (ret := (some .int)) (by decide) rfl (Nat.le_of_ble_eq_true rfl) ?_
  intro p e s m below meth c A Q av hav hQ hx hb hr hml hown hts hlocks hK hP hD hA hS ls hl
  have hown : s.vm.findClass RX9 = some m.cls := hown
  have hl : lv_has ls 2 [(0, .ref qt), (1, .int p1)] := hl
  unfold Mod_byteAt at hM
  have inX9w : ∀ w ∈ u_ws RX9 TX9 34, w ∈ wsX9_byteAt := by decide +kernel
  have hf59 := hts (.fieldLink RX9 59 "LetsInModel" "taped" "I") (by decide +kernel)
  have hf16 := hts (.fieldLink RX9 16 "LetsInModel" "tape" "[I") (by decide +kernel)
  refine lv_iload_n hx hb dX9_byteAt_0 rfl (lv_at hl 1 rfl) ?_
  refine lv_aload_n hx hb dX9_byteAt_1 rfl (lv_at hl 0 rfl) ?_
  refine va_get (D := D) (ci := 9) (v := .int t_taped) (C := RX9) (T := TX9) (N := 34) hx hb hts inX9w hown hK hP 0 rfl rfl 6 (by decide) hf59 (fun _ h9 => h9) rfl dX9_byteAt_2 ?_
  refine mr_icmp_ge (tgt := 17) hx hb hM dX9_byteAt_5 (by decide) (fun hM => ?_) (fun hM => ?_)
  · refine lv_bipush (v := (-4)) hx hb dX9_byteAt_17 (by decide) ?_
    have hM := Option.some.inj hM
    subst hM
    exact mr_iret hx hb hr hlocks hQ hP hD hS rfl dX9_byteAt_19
  · refine lv_aload_n hx hb dX9_byteAt_8 rfl (lv_at hl 0 rfl) ?_
    refine va_get (D := D) (ci := 9) (v := .ref qt_tape) (C := RX9) (T := TX9) (N := 34) hx hb hts inX9w hown hK hP 0 rfl rfl 5 (by decide) hf16 (fun _ h9 => h9) rfl dX9_byteAt_9 ?_
    refine lv_iload_n hx hb dX9_byteAt_12 rfl (lv_at hl 1 rfl) ?_
    refine mr_iald hx hb hK hP 3 0 rfl rfl hM dX9_byteAt_13 (fun v_1 hM => ?_)
    refine lv_goto (tgt := 19) hx hb dX9_byteAt_14 (by decide) ?_
    have hM := Option.some.inj hM
    subst hM
    exact mr_iret hx hb hr hlocks hQ hP hD hS rfl dX9_byteAt_19

abbrev rmX9_fails : Room := { frames := 0, cells := 0, slots := 0, locals := 0 }
set_option maxHeartbeats 40000000 in
set_option maxRecDepth 100000 in
theorem k_Mod_fails (l : Launch) (D : va_G) (cI cB cZ cS cT : ClassId) (qt qt_state qt_readPage qt_tape qt_cuts qt_letters qt_queue qt_busyTo qt_servedIn qt_waysOn qt_costOn qt_aheads qt_seen qt_isKept qt_lanes qt_lengths qt_cells : Nat) (t_hasLaw t_hasCounters t_highest t_taped t_fault t_broken t_brokenAt t_spot t_here t_token t_value t_queued t_payed t_bestWait t_bestWhom t_bestCoins t_seenMany t_torn : Int32) (t_state t_readPage t_tape t_cuts t_letters t_queue t_busyTo t_servedIn t_waysOn t_costOn t_aheads t_seen t_isKept t_lanes t_lengths t_cells : Nat → Int32) (p1 : Int32) (o : Int32 × Int32) (hM : Mod_fails p1 t_broken t_brokenAt t_here = some o) : mtV l yX9_fails wsX9_fails rmX9_fails D (tys5 cI cB cZ cS cT) [.ref qt, .int p1] (w_Mod cI cB cZ cS cT qt qt_state qt_readPage qt_tape qt_cuts qt_letters qt_queue qt_busyTo qt_servedIn qt_waysOn qt_costOn qt_aheads qt_seen qt_isKept qt_lanes qt_lengths qt_cells t_hasLaw t_hasCounters t_highest t_taped t_fault t_broken t_brokenAt t_spot t_here t_token t_value t_queued t_payed t_bestWait t_bestWhom t_bestCoins t_seenMany t_torn t_state t_readPage t_tape t_cuts t_letters t_queue t_busyTo t_servedIn t_waysOn t_costOn t_aheads t_seen t_isKept t_lanes t_lengths t_cells) (w_Mod cI cB cZ cS cT qt qt_state qt_readPage qt_tape qt_cuts qt_letters qt_queue qt_busyTo qt_servedIn qt_waysOn qt_costOn qt_aheads qt_seen qt_isKept qt_lanes qt_lengths qt_cells t_hasLaw t_hasCounters t_highest t_taped t_fault o.1 o.2 t_spot t_here t_token t_value t_queued t_payed t_bestWait t_bestWhom t_bestCoins t_seenMany t_torn t_state t_readPage t_tape t_cuts t_letters t_queue t_busyTo t_servedIn t_waysOn t_costOn t_aheads t_seen t_isKept t_lanes t_lengths t_cells) := by
  refine mtV.of (cc := cX9_fails) (maxL := 2) (ret := none) (by decide) rfl (Nat.le_of_ble_eq_true rfl) ?_
  intro p e s m below meth c A Q av hav hQ hx hb hr hml hown hts hlocks hK hP hD hA hS ls hl
  have hown : s.vm.findClass RX9 = some m.cls := hown
  have hl : lv_has ls 2 [(0, .ref qt), (1, .int p1)] := hl
  unfold Mod_fails at hM
  have inX9w : ∀ w ∈ u_ws RX9 TX9 34, w ∈ wsX9_fails := by decide +kernel
  have hf67 := hts (.fieldLink RX9 67 "LetsInModel" "broken" "I") (by decide +kernel)
  have hf70 := hts (.fieldLink RX9 70 "LetsInModel" "here" "I") (by decide +kernel)
  have hf73 := hts (.fieldLink RX9 73 "LetsInModel" "brokenAt" "I") (by decide +kernel)
  refine lv_aload_n hx hb dX9_fails_0 rfl (lv_at hl 0 rfl) ?_
  refine va_get (D := D) (ci := 9) (v := .int t_broken) (C := RX9) (T := TX9) (N := 34) hx hb hts inX9w hown hK hP 0 rfl rfl 8 (by decide) hf67 (fun _ h9 => h9) rfl dX9_fails_1 ?_
  refine mr_if_ne (tgt := 20) hx hb hM dX9_fails_4 (by decide) (fun hM => ?_) (fun hM => ?_)
  · have hM := Option.some.inj hM
    subst hM
    exact mr_vret hx hb hr hlocks hQ hP hD hS dX9_fails_20
  · refine lv_aload_n hx hb dX9_fails_7 rfl (lv_at hl 0 rfl) ?_
    refine lv_iload_n hx hb dX9_fails_8 rfl (lv_at hl 1 rfl) ?_
    refine mr_put (D := D) (ci := 9) (v := .int p1) (ty := .int) (C := RX9) (T := TX9) (N := 34) hx hb hts inX9w tyX9 tyX9_ok nmX9 hown hK hP hD hS 0 rfl rfl 8 (by decide) hf67 (fun _ h9 => h9) rfl (by decide +kernel) rfl rfl (Nat.le_of_ble_eq_true rfl) dX9_fails_9 (w_Mod cI cB cZ cS cT qt qt_state qt_readPage qt_tape qt_cuts qt_letters qt_queue qt_busyTo qt_servedIn qt_waysOn qt_costOn qt_aheads qt_seen qt_isKept qt_lanes qt_lengths qt_cells t_hasLaw t_hasCounters t_highest t_taped t_fault p1 t_brokenAt t_spot t_here t_token t_value t_queued t_payed t_bestWait t_bestWhom t_bestCoins t_seenMany t_torn t_state t_readPage t_tape t_cuts t_letters t_queue t_busyTo t_servedIn t_waysOn t_costOn t_aheads t_seen t_isKept t_lanes t_lengths t_cells) rfl (fun H locs hP hD hS => ?_)
    refine lv_aload_n hx hb dX9_fails_12 rfl (lv_at hl 0 rfl) ?_
    refine lv_aload_n hx hb dX9_fails_13 rfl (lv_at hl 0 rfl) ?_
    refine va_get (D := D) (ci := 9) (v := .int t_here) (C := RX9) (T := TX9) (N := 34) hx hb hts inX9w hown hK hP 0 rfl rfl 11 (by decide) hf70 (fun _ h9 => h9) rfl dX9_fails_14 ?_
    refine mr_put (D := D) (ci := 9) (v := .int t_here) (ty := .int) (C := RX9) (T := TX9) (N := 34) hx hb hts inX9w tyX9 tyX9_ok nmX9 hown hK hP hD hS 0 rfl rfl 9 (by decide) hf73 (fun _ h9 => h9) rfl (by decide +kernel) rfl rfl (Nat.le_of_ble_eq_true rfl) dX9_fails_17 (w_Mod cI cB cZ cS cT qt qt_state qt_readPage qt_tape qt_cuts qt_letters qt_queue qt_busyTo qt_servedIn qt_waysOn qt_costOn qt_aheads qt_seen qt_isKept qt_lanes qt_lengths qt_cells t_hasLaw t_hasCounters t_highest t_taped t_fault p1 t_here t_spot t_here t_token t_value t_queued t_payed t_bestWait t_bestWhom t_bestCoins t_seenMany t_torn t_state t_readPage t_tape t_cuts t_letters t_queue t_busyTo t_servedIn t_waysOn t_costOn t_aheads t_seen t_isKept t_lanes t_lengths t_cells) rfl (fun H locs hP hD hS => ?_)
    have hM := Option.some.inj hM
    subst hM
    exact mr_vret hx hb hr hlocks hQ hP hD hS dX9_fails_20

abbrev rmX9_step : Room := { frames := 1, cells := 0, slots := 0, locals := 25 }
set_option maxHeartbeats 40000000 in
set_option maxRecDepth 100000 in
theorem k_Mod_step (l : Launch) (D : va_G) (cI cB cZ cS cT : ClassId) (qt qt_state qt_readPage qt_tape qt_cuts qt_letters qt_queue qt_busyTo qt_servedIn qt_waysOn qt_costOn qt_aheads qt_seen qt_isKept qt_lanes qt_lengths qt_cells : Nat) (t_hasLaw t_hasCounters t_highest t_taped t_fault t_broken t_brokenAt t_spot t_here t_token t_value t_queued t_payed t_bestWait t_bestWhom t_bestCoins t_seenMany t_torn : Int32) (t_state t_readPage t_tape t_cuts t_letters t_queue t_busyTo t_servedIn t_waysOn t_costOn t_aheads t_seen t_isKept t_lanes t_lengths t_cells : Nat → Int32)  (o : Int32 × Int32 × Int32 × Int32 × Int32 × Int32) (hM : Mod_step t_taped t_broken t_brokenAt t_spot t_here t_token t_value t_tape = some o) : mtV l yX9_step wsX9_step rmX9_step D (tys5 cI cB cZ cS cT) [.ref qt] (w_Mod cI cB cZ cS cT qt qt_state qt_readPage qt_tape qt_cuts qt_letters qt_queue qt_busyTo qt_servedIn qt_waysOn qt_costOn qt_aheads qt_seen qt_isKept qt_lanes qt_lengths qt_cells t_hasLaw t_hasCounters t_highest t_taped t_fault t_broken t_brokenAt t_spot t_here t_token t_value t_queued t_payed t_bestWait t_bestWhom t_bestCoins t_seenMany t_torn t_state t_readPage t_tape t_cuts t_letters t_queue t_busyTo t_servedIn t_waysOn t_costOn t_aheads t_seen t_isKept t_lanes t_lengths t_cells) (w_Mod cI cB cZ cS cT qt qt_state qt_readPage qt_tape qt_cuts qt_letters qt_queue qt_busyTo qt_servedIn qt_waysOn qt_costOn qt_aheads qt_seen qt_isKept qt_lanes qt_lengths qt_cells t_hasLaw t_hasCounters t_highest t_taped t_fault o.1 o.2.1 o.2.2.1 o.2.2.2.1 o.2.2.2.2.1 o.2.2.2.2.2 t_queued t_payed t_bestWait t_bestWhom t_bestCoins t_seenMany t_torn t_state t_readPage t_tape t_cuts t_letters t_queue t_busyTo t_servedIn t_waysOn t_costOn t_aheads t_seen t_isKept t_lanes t_lengths t_cells) := by
  refine mtV.of (cc := cX9_step) (maxL := 2) (ret := none) (by decide) rfl (Nat.le_of_ble_eq_true rfl) ?_
  intro p e s m below meth c A Q av hav hQ hx hb hr hml hown hts hlocks hK hP hD hA hS ls hl
  have hown : s.vm.findClass RX9 = some m.cls := hown
  have hl : lv_has ls 2 [(0, .ref qt)] := hl
  unfold Mod_step at hM
  have inX9w : ∀ w ∈ u_ws RX9 TX9 34, w ∈ wsX9_step := by decide +kernel
  have hf67 := hts (.fieldLink RX9 67 "LetsInModel" "broken" "I") (by decide +kernel)
  have hf79 := hts (.fieldLink RX9 79 "LetsInModel" "spot" "I") (by decide +kernel)
  have hf70 := hts (.fieldLink RX9 70 "LetsInModel" "here" "I") (by decide +kernel)
  have hf86 := hts (.fieldLink RX9 86 "LetsInModel" "value" "I") (by decide +kernel)
  have hfc89 := hts (.constantLong RX9 89 97) (by decide +kernel)
  have hfc91 := hts (.constantLong RX9 91 122) (by decide +kernel)
  have hfc93 := hts (.constantLong RX9 93 48) (by decide +kernel)
  have hfc95 := hts (.constantLong RX9 95 57) (by decide +kernel)
  have hf76 := hts (.fieldLink RX9 76 "LetsInModel" "token" "I") (by decide +kernel)
  refine lv_aload_n hx hb dX9_step_0 rfl (lv_at hl 0 rfl) ?_
  refine va_get (D := D) (ci := 9) (v := .int t_broken) (C := RX9) (T := TX9) (N := 34) hx hb hts inX9w hown hK hP 0 rfl rfl 8 (by decide) hf67 (fun _ h9 => h9) rfl dX9_step_1 ?_
  refine mr_if_le (tgt := 8) hx hb hM dX9_step_4 (by decide) (fun hM => ?_) (fun hM => ?_)
  · have hL8 : ∀ (K34 : Int32 → Option (Int32 × Int32 × Int32 × Int32 × Int32 × Int32)), (∀ (t_spot_4 : Int32), K34 t_spot_4 = some o → ∀ (H : Heap) (locs : List Loc), va_P D vwCl (w_Mod cI cB cZ cS cT qt qt_state qt_readPage qt_tape qt_cuts qt_letters qt_queue qt_busyTo qt_servedIn qt_waysOn qt_costOn qt_aheads qt_seen qt_isKept qt_lanes qt_lengths qt_cells t_hasLaw t_hasCounters t_highest t_taped t_fault t_broken t_brokenAt t_spot_4 t_here t_token t_value t_queued t_payed t_bestWait t_bestWhom t_bestCoins t_seenMany t_torn t_state t_readPage t_tape t_cuts t_letters t_queue t_busyTo t_servedIn t_waysOn t_costOn t_aheads t_seen t_isKept t_lanes t_lengths t_cells) H → va_D A (w_Mod cI cB cZ cS cT qt qt_state qt_readPage qt_tape qt_cuts qt_letters qt_queue qt_busyTo qt_servedIn qt_waysOn qt_costOn qt_aheads qt_seen qt_isKept qt_lanes qt_lengths qt_cells t_hasLaw t_hasCounters t_highest t_taped t_fault t_broken t_brokenAt t_spot_4 t_here t_token t_value t_queued t_payed t_bestWait t_bestWhom t_bestCoins t_seenMany t_torn t_state t_readPage t_tape t_cuts t_letters t_queue t_busyTo t_servedIn t_waysOn t_costOn t_aheads t_seen t_isKept t_lanes t_lengths t_cells) → va_S A s.heap H locs → ∀ ls : Array Slot, lv_has ls 2 [(0, .ref qt)] → W p l e rmX9_step s m av below meth c H locs 0 0 Q (F0 m 34 ls [])) → ∀ (n : Nat) (t_spot_1 : Int32), Mod_step_L8 t_taped t_tape K34 n t_spot_1 = some o → ∀ (H : Heap) (locs : List Loc), va_P D vwCl (w_Mod cI cB cZ cS cT qt qt_state qt_readPage qt_tape qt_cuts qt_letters qt_queue qt_busyTo qt_servedIn qt_waysOn qt_costOn qt_aheads qt_seen qt_isKept qt_lanes qt_lengths qt_cells t_hasLaw t_hasCounters t_highest t_taped t_fault t_broken t_brokenAt t_spot_1 t_here t_token t_value t_queued t_payed t_bestWait t_bestWhom t_bestCoins t_seenMany t_torn t_state t_readPage t_tape t_cuts t_letters t_queue t_busyTo t_servedIn t_waysOn t_costOn t_aheads t_seen t_isKept t_lanes t_lengths t_cells) H → va_D A (w_Mod cI cB cZ cS cT qt qt_state qt_readPage qt_tape qt_cuts qt_letters qt_queue qt_busyTo qt_servedIn qt_waysOn qt_costOn qt_aheads qt_seen qt_isKept qt_lanes qt_lengths qt_cells t_hasLaw t_hasCounters t_highest t_taped t_fault t_broken t_brokenAt t_spot_1 t_here t_token t_value t_queued t_payed t_bestWait t_bestWhom t_bestCoins t_seenMany t_torn t_state t_readPage t_tape t_cuts t_letters t_queue t_busyTo t_servedIn t_waysOn t_costOn t_aheads t_seen t_isKept t_lanes t_lengths t_cells) → va_S A s.heap H locs → ∀ ls : Array Slot, lv_has ls 2 [(0, .ref qt)] → W p l e rmX9_step s m av below meth c H locs 0 0 Q (F0 m 8 ls []) := by
      intro K34 hK34 n
      induction n with
      | zero =>
        intro t_spot_1 hM
        rw [Mod_step_L8] at hM
        cases hM
      | succ n ih =>
        intro t_spot_1 hM H locs hP hD hS ls hl
        rw [Mod_step_L8] at hM
        refine lv_aload_n hx hb dX9_step_8 rfl (lv_at hl 0 rfl) ?_
        refine lv_aload_n hx hb dX9_step_9 rfl (lv_at hl 0 rfl) ?_
        refine va_get (D := D) (ci := 9) (v := .int t_spot_1) (C := RX9) (T := TX9) (N := 34) hx hb hts inX9w hown hK hP 0 rfl rfl 10 (by decide) hf79 (fun _ h9 => h9) rfl dX9_step_10 ?_
        obtain ⟨o_2, hc, hM⟩ := bind_so hM
        refine mr_callVi (As := [.int t_spot_1]) (rest := []) (wr := []) ⟨hx, hb, hml, hown, hts⟩ (k_Mod_byteAt l D cI cB cZ cS cT qt qt_state qt_readPage qt_tape qt_cuts qt_letters qt_queue qt_busyTo qt_servedIn qt_waysOn qt_costOn qt_aheads qt_seen qt_isKept qt_lanes qt_lengths qt_cells t_hasLaw t_hasCounters t_highest t_taped t_fault t_broken t_brokenAt t_spot_1 t_here t_token t_value t_queued t_payed t_bestWait t_bestWhom t_bestCoins t_seenMany t_torn t_state t_readPage t_tape t_cuts t_letters t_queue t_busyTo t_servedIn t_waysOn t_costOn t_aheads t_seen t_isKept t_lanes t_lengths t_cells t_spot_1 _ hc) (cwV 1 hts gX9_step_X9_byteAt rfl rfl rfl (by decide +kernel) ⟨Nat.le_of_ble_eq_true rfl, Nat.le_of_ble_eq_true rfl⟩) hK hP hD hS hA [0, 1, 2, 3, 4, 5, 6, 7, 8, 9, 10, 11, 12, 13, 14, 15, 16] [] [0, 1, 2, 3, 4, 5, 6, 7, 8, 9, 10, 11, 12, 13, 14, 15, 16] (w_Mod cI cB cZ cS cT qt qt_state qt_readPage qt_tape qt_cuts qt_letters qt_queue qt_busyTo qt_servedIn qt_waysOn qt_costOn qt_aheads qt_seen qt_isKept qt_lanes qt_lengths qt_cells t_hasLaw t_hasCounters t_highest t_taped t_fault t_broken t_brokenAt t_spot_1 t_here t_token t_value t_queued t_payed t_bestWait t_bestWhom t_bestCoins t_seenMany t_torn t_state t_readPage t_tape t_cuts t_letters t_queue t_busyTo t_servedIn t_waysOn t_costOn t_aheads t_seen t_isKept t_lanes t_lengths t_cells) rfl rfl rfl rfl (by decide) rfl rfl 9 0 rfl rfl rfl rfl hl.1 rfl (Nat.le_of_ble_eq_true rfl) dX9_step_13 ⟨Nat.zero_le _, Nat.zero_le _⟩ (fun H locs hP hD hS => ?_)
        refine lv_bipush (v := 32) hx hb dX9_step_16 (by decide) ?_
        refine mr_icmp_ne (tgt := 34) hx hb hM dX9_step_18 (by decide) (fun hM => ?_) (fun hM => ?_)
        · exact hK34 t_spot_1 hM _ _ hP hD hS ls (lv_sub hl [0] rfl)
        · refine lv_aload_n hx hb dX9_step_21 rfl (lv_at hl 0 rfl) ?_
          refine lv_dup hx hb dX9_step_22 rfl ?_
          refine va_get (D := D) (ci := 9) (v := .int t_spot_1) (C := RX9) (T := TX9) (N := 34) hx hb hts inX9w hown hK hP 0 rfl rfl 10 (by decide) hf79 (fun _ h9 => h9) rfl dX9_step_23 ?_
          refine lv_iconst (v := 1) hx hb dX9_step_26 (by decide) ?_
          refine lv_iadd hx hb dX9_step_27 ?_
          refine mr_nmI hM (fun t_spot_3 hM => ?_)
          refine mr_put (D := D) (ci := 9) (v := .int t_spot_3) (ty := .int) (C := RX9) (T := TX9) (N := 34) hx hb hts inX9w tyX9 tyX9_ok nmX9 hown hK hP hD hS 0 rfl rfl 10 (by decide) hf79 (fun _ h9 => h9) rfl (by decide +kernel) rfl rfl (Nat.le_of_ble_eq_true rfl) dX9_step_28 (w_Mod cI cB cZ cS cT qt qt_state qt_readPage qt_tape qt_cuts qt_letters qt_queue qt_busyTo qt_servedIn qt_waysOn qt_costOn qt_aheads qt_seen qt_isKept qt_lanes qt_lengths qt_cells t_hasLaw t_hasCounters t_highest t_taped t_fault t_broken t_brokenAt t_spot_3 t_here t_token t_value t_queued t_payed t_bestWait t_bestWhom t_bestCoins t_seenMany t_torn t_state t_readPage t_tape t_cuts t_letters t_queue t_busyTo t_servedIn t_waysOn t_costOn t_aheads t_seen t_isKept t_lanes t_lengths t_cells) rfl (fun H locs hP hD hS => ?_)
          refine lv_goto (tgt := 8) hx hb dX9_step_31 (by decide) ?_
          exact ih t_spot_3 hM _ _ hP hD hS ls (lv_sub hl [0] rfl)
    refine hL8 _ (fun t_spot_4 hM H locs hP hD hS ls hl => ?_) _ t_spot hM _ _ hP hD hS ls (lv_sub hl [0] rfl)
    refine lv_aload_n hx hb dX9_step_34 rfl (lv_at hl 0 rfl) ?_
    refine lv_aload_n hx hb dX9_step_35 rfl (lv_at hl 0 rfl) ?_
    refine va_get (D := D) (ci := 9) (v := .int t_spot_4) (C := RX9) (T := TX9) (N := 34) hx hb hts inX9w hown hK hP 0 rfl rfl 10 (by decide) hf79 (fun _ h9 => h9) rfl dX9_step_36 ?_
    refine mr_put (D := D) (ci := 9) (v := .int t_spot_4) (ty := .int) (C := RX9) (T := TX9) (N := 34) hx hb hts inX9w tyX9 tyX9_ok nmX9 hown hK hP hD hS 0 rfl rfl 11 (by decide) hf70 (fun _ h9 => h9) rfl (by decide +kernel) rfl rfl (Nat.le_of_ble_eq_true rfl) dX9_step_39 (w_Mod cI cB cZ cS cT qt qt_state qt_readPage qt_tape qt_cuts qt_letters qt_queue qt_busyTo qt_servedIn qt_waysOn qt_costOn qt_aheads qt_seen qt_isKept qt_lanes qt_lengths qt_cells t_hasLaw t_hasCounters t_highest t_taped t_fault t_broken t_brokenAt t_spot_4 t_spot_4 t_token t_value t_queued t_payed t_bestWait t_bestWhom t_bestCoins t_seenMany t_torn t_state t_readPage t_tape t_cuts t_letters t_queue t_busyTo t_servedIn t_waysOn t_costOn t_aheads t_seen t_isKept t_lanes t_lengths t_cells) rfl (fun H locs hP hD hS => ?_)
    refine lv_aload_n hx hb dX9_step_42 rfl (lv_at hl 0 rfl) ?_
    refine lv_aload_n hx hb dX9_step_43 rfl (lv_at hl 0 rfl) ?_
    refine va_get (D := D) (ci := 9) (v := .int t_spot_4) (C := RX9) (T := TX9) (N := 34) hx hb hts inX9w hown hK hP 0 rfl rfl 10 (by decide) hf79 (fun _ h9 => h9) rfl dX9_step_44 ?_
    obtain ⟨o_5, hc, hM⟩ := bind_so hM
    refine mr_callVi (As := [.int t_spot_4]) (rest := []) (wr := []) ⟨hx, hb, hml, hown, hts⟩ (k_Mod_byteAt l D cI cB cZ cS cT qt qt_state qt_readPage qt_tape qt_cuts qt_letters qt_queue qt_busyTo qt_servedIn qt_waysOn qt_costOn qt_aheads qt_seen qt_isKept qt_lanes qt_lengths qt_cells t_hasLaw t_hasCounters t_highest t_taped t_fault t_broken t_brokenAt t_spot_4 t_spot_4 t_token t_value t_queued t_payed t_bestWait t_bestWhom t_bestCoins t_seenMany t_torn t_state t_readPage t_tape t_cuts t_letters t_queue t_busyTo t_servedIn t_waysOn t_costOn t_aheads t_seen t_isKept t_lanes t_lengths t_cells t_spot_4 _ hc) (cwV 1 hts gX9_step_X9_byteAt rfl rfl rfl (by decide +kernel) ⟨Nat.le_of_ble_eq_true rfl, Nat.le_of_ble_eq_true rfl⟩) hK hP hD hS hA [0, 1, 2, 3, 4, 5, 6, 7, 8, 9, 10, 11, 12, 13, 14, 15, 16] [] [0, 1, 2, 3, 4, 5, 6, 7, 8, 9, 10, 11, 12, 13, 14, 15, 16] (w_Mod cI cB cZ cS cT qt qt_state qt_readPage qt_tape qt_cuts qt_letters qt_queue qt_busyTo qt_servedIn qt_waysOn qt_costOn qt_aheads qt_seen qt_isKept qt_lanes qt_lengths qt_cells t_hasLaw t_hasCounters t_highest t_taped t_fault t_broken t_brokenAt t_spot_4 t_spot_4 t_token t_value t_queued t_payed t_bestWait t_bestWhom t_bestCoins t_seenMany t_torn t_state t_readPage t_tape t_cuts t_letters t_queue t_busyTo t_servedIn t_waysOn t_costOn t_aheads t_seen t_isKept t_lanes t_lengths t_cells) rfl rfl rfl rfl (by decide) rfl rfl 9 0 rfl rfl rfl rfl hl.1 rfl (Nat.le_of_ble_eq_true rfl) dX9_step_47 ⟨Nat.zero_le _, Nat.zero_le _⟩ (fun H locs hP hD hS => ?_)
    refine lv_istore_n (lv' := [(1, .int o_5), (0, .ref qt)]) hx hb dX9_step_50 rfl hl (by decide) rfl (fun ls hl => ?_)
    refine lv_aload_n hx hb dX9_step_51 rfl (lv_at hl 1 rfl) ?_
    refine lv_iconst (v := 0) hx hb dX9_step_52 (by decide) ?_
    refine mr_put (D := D) (ci := 9) (v := .int 0) (ty := .int) (C := RX9) (T := TX9) (N := 34) hx hb hts inX9w tyX9 tyX9_ok nmX9 hown hK hP hD hS 0 rfl rfl 13 (by decide) hf86 (fun _ h9 => h9) rfl (by decide +kernel) rfl rfl (Nat.le_of_ble_eq_true rfl) dX9_step_53 (w_Mod cI cB cZ cS cT qt qt_state qt_readPage qt_tape qt_cuts qt_letters qt_queue qt_busyTo qt_servedIn qt_waysOn qt_costOn qt_aheads qt_seen qt_isKept qt_lanes qt_lengths qt_cells t_hasLaw t_hasCounters t_highest t_taped t_fault t_broken t_brokenAt t_spot_4 t_spot_4 t_token 0 t_queued t_payed t_bestWait t_bestWhom t_bestCoins t_seenMany t_torn t_state t_readPage t_tape t_cuts t_letters t_queue t_busyTo t_servedIn t_waysOn t_costOn t_aheads t_seen t_isKept t_lanes t_lengths t_cells) rfl (fun H locs hP hD hS => ?_)
    refine lv_iload_n hx hb dX9_step_56 rfl (lv_at hl 0 rfl) ?_
    refine lv_bipush (v := (-4)) hx hb dX9_step_57 (by decide) ?_
    refine mr_icmp_ne (tgt := 70) hx hb hM dX9_step_59 (by decide) (fun hM => ?_) (fun hM => ?_)
    · refine lv_iload_n hx hb dX9_step_70 rfl (lv_at hl 0 rfl) ?_
      refine lv_i2l hx hb dX9_step_71 rfl ?_
      refine lv_ldc2 (v := 97) hx hb hown hfc89 dX9_step_72 ?_
      refine lv_ldc2 (v := 122) hx hb hown hfc91 dX9_step_75 ?_
      obtain ⟨o_6, hc, hM⟩ := bind_so hM
      refine mr_callSi (As := [.long o_5.toInt64, .long 97, .long 122]) (rest := []) ⟨hx, hb, hml, hown, hts⟩ (k_Mod_in l D cI cB cZ cS cT   o_5.toInt64 97 122 _ hc) (cwS 3 hts gX9_step_X9_in rfl rfl rfl (by decide +kernel) ⟨Nat.le_of_ble_eq_true rfl, Nat.le_of_ble_eq_true rfl⟩) hK hP hD hS hA rfl hl.1 rfl (Nat.le_of_ble_eq_true rfl) dX9_step_78 ⟨Nat.zero_le _, Nat.zero_le _⟩ (fun H locs hP hS => ?_)
      refine mr_if_eq (tgt := 126) hx hb hM dX9_step_81 (by decide) (fun hM => ?_) (fun hM => ?_)
      · refine lv_iload_n hx hb dX9_step_126 rfl (lv_at hl 0 rfl) ?_
        refine lv_i2l hx hb dX9_step_127 rfl ?_
        refine lv_ldc2 (v := 48) hx hb hown hfc93 dX9_step_128 ?_
        refine lv_ldc2 (v := 57) hx hb hown hfc95 dX9_step_131 ?_
        obtain ⟨o_7, hc, hM⟩ := bind_so hM
        refine mr_callSi (As := [.long o_5.toInt64, .long 48, .long 57]) (rest := []) ⟨hx, hb, hml, hown, hts⟩ (k_Mod_in l D cI cB cZ cS cT   o_5.toInt64 48 57 _ hc) (cwS 3 hts gX9_step_X9_in rfl rfl rfl (by decide +kernel) ⟨Nat.le_of_ble_eq_true rfl, Nat.le_of_ble_eq_true rfl⟩) hK hP hD hS hA rfl hl.1 rfl (Nat.le_of_ble_eq_true rfl) dX9_step_134 ⟨Nat.zero_le _, Nat.zero_le _⟩ (fun H locs hP hS => ?_)
        refine mr_if_eq (tgt := 243) hx hb hM dX9_step_137 (by decide) (fun hM => ?_) (fun hM => ?_)
        · refine lv_aload_n hx hb dX9_step_243 rfl (lv_at hl 1 rfl) ?_
          refine lv_iconst (v := 3) hx hb dX9_step_244 (by decide) ?_
          refine mr_put (D := D) (ci := 9) (v := .int 3) (ty := .int) (C := RX9) (T := TX9) (N := 34) hx hb hts inX9w tyX9 tyX9_ok nmX9 hown hK hP hD hS 0 rfl rfl 12 (by decide) hf76 (fun _ h9 => h9) rfl (by decide +kernel) rfl rfl (Nat.le_of_ble_eq_true rfl) dX9_step_245 (w_Mod cI cB cZ cS cT qt qt_state qt_readPage qt_tape qt_cuts qt_letters qt_queue qt_busyTo qt_servedIn qt_waysOn qt_costOn qt_aheads qt_seen qt_isKept qt_lanes qt_lengths qt_cells t_hasLaw t_hasCounters t_highest t_taped t_fault t_broken t_brokenAt t_spot_4 t_spot_4 3 0 t_queued t_payed t_bestWait t_bestWhom t_bestCoins t_seenMany t_torn t_state t_readPage t_tape t_cuts t_letters t_queue t_busyTo t_servedIn t_waysOn t_costOn t_aheads t_seen t_isKept t_lanes t_lengths t_cells) rfl (fun H locs hP hD hS => ?_)
          refine lv_aload_n hx hb dX9_step_248 rfl (lv_at hl 1 rfl) ?_
          refine lv_dup hx hb dX9_step_249 rfl ?_
          refine va_get (D := D) (ci := 9) (v := .int t_spot_4) (C := RX9) (T := TX9) (N := 34) hx hb hts inX9w hown hK hP 0 rfl rfl 10 (by decide) hf79 (fun _ h9 => h9) rfl dX9_step_250 ?_
          refine lv_iconst (v := 1) hx hb dX9_step_253 (by decide) ?_
          refine lv_iadd hx hb dX9_step_254 ?_
          refine mr_nmI hM (fun t_spot_8 hM => ?_)
          refine mr_put (D := D) (ci := 9) (v := .int t_spot_8) (ty := .int) (C := RX9) (T := TX9) (N := 34) hx hb hts inX9w tyX9 tyX9_ok nmX9 hown hK hP hD hS 0 rfl rfl 10 (by decide) hf79 (fun _ h9 => h9) rfl (by decide +kernel) rfl rfl (Nat.le_of_ble_eq_true rfl) dX9_step_255 (w_Mod cI cB cZ cS cT qt qt_state qt_readPage qt_tape qt_cuts qt_letters qt_queue qt_busyTo qt_servedIn qt_waysOn qt_costOn qt_aheads qt_seen qt_isKept qt_lanes qt_lengths qt_cells t_hasLaw t_hasCounters t_highest t_taped t_fault t_broken t_brokenAt t_spot_8 t_spot_4 3 0 t_queued t_payed t_bestWait t_bestWhom t_bestCoins t_seenMany t_torn t_state t_readPage t_tape t_cuts t_letters t_queue t_busyTo t_servedIn t_waysOn t_costOn t_aheads t_seen t_isKept t_lanes t_lengths t_cells) rfl (fun H locs hP hD hS => ?_)
          refine lv_iload_n hx hb dX9_step_258 rfl (lv_at hl 0 rfl) ?_
          refine lv_bipush (v := 59) hx hb dX9_step_259 (by decide) ?_
          refine mr_icmp_eq (tgt := 269) hx hb hM dX9_step_261 (by decide) (fun hM => ?_) (fun hM => ?_)
          · have hM := Option.some.inj hM
            subst hM
            exact mr_vret hx hb hr hlocks hQ hP hD hS dX9_step_269
          · refine lv_aload_n hx hb dX9_step_264 rfl (lv_at hl 1 rfl) ?_
            refine lv_iconst (v := 1) hx hb dX9_step_265 (by decide) ?_
            obtain ⟨o_9, hc, hM⟩ := bind_so hM
            refine mr_callVv (As := [.int 1]) (rest := []) (wr := []) ⟨hx, hb, hml, hown, hts⟩ (k_Mod_fails l D cI cB cZ cS cT qt qt_state qt_readPage qt_tape qt_cuts qt_letters qt_queue qt_busyTo qt_servedIn qt_waysOn qt_costOn qt_aheads qt_seen qt_isKept qt_lanes qt_lengths qt_cells t_hasLaw t_hasCounters t_highest t_taped t_fault t_broken t_brokenAt t_spot_8 t_spot_4 3 0 t_queued t_payed t_bestWait t_bestWhom t_bestCoins t_seenMany t_torn t_state t_readPage t_tape t_cuts t_letters t_queue t_busyTo t_servedIn t_waysOn t_costOn t_aheads t_seen t_isKept t_lanes t_lengths t_cells 1 _ hc) (cwV 1 hts gX9_step_X9_fails rfl rfl rfl (by decide +kernel) ⟨Nat.le_of_ble_eq_true rfl, Nat.le_of_ble_eq_true rfl⟩) hK hP hD hS hA [0, 1, 2, 3, 4, 5, 6, 7, 8, 9, 10, 11, 12, 13, 14, 15, 16] [] [0, 1, 2, 3, 4, 5, 6, 7, 8, 9, 10, 11, 12, 13, 14, 15, 16] (w_Mod cI cB cZ cS cT qt qt_state qt_readPage qt_tape qt_cuts qt_letters qt_queue qt_busyTo qt_servedIn qt_waysOn qt_costOn qt_aheads qt_seen qt_isKept qt_lanes qt_lengths qt_cells t_hasLaw t_hasCounters t_highest t_taped t_fault o_9.1 o_9.2 t_spot_8 t_spot_4 3 0 t_queued t_payed t_bestWait t_bestWhom t_bestCoins t_seenMany t_torn t_state t_readPage t_tape t_cuts t_letters t_queue t_busyTo t_servedIn t_waysOn t_costOn t_aheads t_seen t_isKept t_lanes t_lengths t_cells) rfl rfl rfl rfl (by decide) rfl rfl 9 0 rfl rfl rfl rfl hl.1 rfl (Nat.le_of_ble_eq_true rfl) dX9_step_266 ⟨Nat.zero_le _, Nat.zero_le _⟩ (fun H locs hP hD hS => ?_)
            have hM := Option.some.inj hM
            subst hM
            exact mr_vret hx hb hr hlocks hQ hP hD hS dX9_step_269
        · have hL140 : ∀ (K217 : Int32 → Int32 → Option (Int32 × Int32 × Int32 × Int32 × Int32 × Int32)), (∀ (t_spot_18 t_value_19 : Int32), K217 t_spot_18 t_value_19 = some o → ∀ (H : Heap) (locs : List Loc), va_P D vwCl (w_Mod cI cB cZ cS cT qt qt_state qt_readPage qt_tape qt_cuts qt_letters qt_queue qt_busyTo qt_servedIn qt_waysOn qt_costOn qt_aheads qt_seen qt_isKept qt_lanes qt_lengths qt_cells t_hasLaw t_hasCounters t_highest t_taped t_fault t_broken t_brokenAt t_spot_18 t_spot_4 t_token t_value_19 t_queued t_payed t_bestWait t_bestWhom t_bestCoins t_seenMany t_torn t_state t_readPage t_tape t_cuts t_letters t_queue t_busyTo t_servedIn t_waysOn t_costOn t_aheads t_seen t_isKept t_lanes t_lengths t_cells) H → va_D A (w_Mod cI cB cZ cS cT qt qt_state qt_readPage qt_tape qt_cuts qt_letters qt_queue qt_busyTo qt_servedIn qt_waysOn qt_costOn qt_aheads qt_seen qt_isKept qt_lanes qt_lengths qt_cells t_hasLaw t_hasCounters t_highest t_taped t_fault t_broken t_brokenAt t_spot_18 t_spot_4 t_token t_value_19 t_queued t_payed t_bestWait t_bestWhom t_bestCoins t_seenMany t_torn t_state t_readPage t_tape t_cuts t_letters t_queue t_busyTo t_servedIn t_waysOn t_costOn t_aheads t_seen t_isKept t_lanes t_lengths t_cells) → va_S A s.heap H locs → ∀ ls : Array Slot, lv_has ls 2 [(0, .ref qt)] → W p l e rmX9_step s m av below meth c H locs 0 0 Q (F0 m 217 ls [])) → ∀ (n : Nat) (t_spot_10 t_value_11 : Int32), Mod_step_L140 t_taped t_tape t_spot_4 K217 n t_spot_10 t_value_11 = some o → ∀ (H : Heap) (locs : List Loc), va_P D vwCl (w_Mod cI cB cZ cS cT qt qt_state qt_readPage qt_tape qt_cuts qt_letters qt_queue qt_busyTo qt_servedIn qt_waysOn qt_costOn qt_aheads qt_seen qt_isKept qt_lanes qt_lengths qt_cells t_hasLaw t_hasCounters t_highest t_taped t_fault t_broken t_brokenAt t_spot_10 t_spot_4 t_token t_value_11 t_queued t_payed t_bestWait t_bestWhom t_bestCoins t_seenMany t_torn t_state t_readPage t_tape t_cuts t_letters t_queue t_busyTo t_servedIn t_waysOn t_costOn t_aheads t_seen t_isKept t_lanes t_lengths t_cells) H → va_D A (w_Mod cI cB cZ cS cT qt qt_state qt_readPage qt_tape qt_cuts qt_letters qt_queue qt_busyTo qt_servedIn qt_waysOn qt_costOn qt_aheads qt_seen qt_isKept qt_lanes qt_lengths qt_cells t_hasLaw t_hasCounters t_highest t_taped t_fault t_broken t_brokenAt t_spot_10 t_spot_4 t_token t_value_11 t_queued t_payed t_bestWait t_bestWhom t_bestCoins t_seenMany t_torn t_state t_readPage t_tape t_cuts t_letters t_queue t_busyTo t_servedIn t_waysOn t_costOn t_aheads t_seen t_isKept t_lanes t_lengths t_cells) → va_S A s.heap H locs → ∀ ls : Array Slot, lv_has ls 2 [(0, .ref qt)] → W p l e rmX9_step s m av below meth c H locs 0 0 Q (F0 m 140 ls []) := by
            intro K217 hK217 n
            induction n with
            | zero =>
              intro t_spot_10 t_value_11 hM
              rw [Mod_step_L140] at hM
              cases hM
            | succ n ih =>
              intro t_spot_10 t_value_11 hM H locs hP hD hS ls hl
              rw [Mod_step_L140] at hM
              refine lv_aload_n hx hb dX9_step_140 rfl (lv_at hl 0 rfl) ?_
              refine lv_aload_n hx hb dX9_step_141 rfl (lv_at hl 0 rfl) ?_
              refine va_get (D := D) (ci := 9) (v := .int t_spot_10) (C := RX9) (T := TX9) (N := 34) hx hb hts inX9w hown hK hP 0 rfl rfl 10 (by decide) hf79 (fun _ h9 => h9) rfl dX9_step_142 ?_
              obtain ⟨o_12, hc, hM⟩ := bind_so hM
              refine mr_callVi (As := [.int t_spot_10]) (rest := []) (wr := []) ⟨hx, hb, hml, hown, hts⟩ (k_Mod_byteAt l D cI cB cZ cS cT qt qt_state qt_readPage qt_tape qt_cuts qt_letters qt_queue qt_busyTo qt_servedIn qt_waysOn qt_costOn qt_aheads qt_seen qt_isKept qt_lanes qt_lengths qt_cells t_hasLaw t_hasCounters t_highest t_taped t_fault t_broken t_brokenAt t_spot_10 t_spot_4 t_token t_value_11 t_queued t_payed t_bestWait t_bestWhom t_bestCoins t_seenMany t_torn t_state t_readPage t_tape t_cuts t_letters t_queue t_busyTo t_servedIn t_waysOn t_costOn t_aheads t_seen t_isKept t_lanes t_lengths t_cells t_spot_10 _ hc) (cwV 1 hts gX9_step_X9_byteAt rfl rfl rfl (by decide +kernel) ⟨Nat.le_of_ble_eq_true rfl, Nat.le_of_ble_eq_true rfl⟩) hK hP hD hS hA [0, 1, 2, 3, 4, 5, 6, 7, 8, 9, 10, 11, 12, 13, 14, 15, 16] [] [0, 1, 2, 3, 4, 5, 6, 7, 8, 9, 10, 11, 12, 13, 14, 15, 16] (w_Mod cI cB cZ cS cT qt qt_state qt_readPage qt_tape qt_cuts qt_letters qt_queue qt_busyTo qt_servedIn qt_waysOn qt_costOn qt_aheads qt_seen qt_isKept qt_lanes qt_lengths qt_cells t_hasLaw t_hasCounters t_highest t_taped t_fault t_broken t_brokenAt t_spot_10 t_spot_4 t_token t_value_11 t_queued t_payed t_bestWait t_bestWhom t_bestCoins t_seenMany t_torn t_state t_readPage t_tape t_cuts t_letters t_queue t_busyTo t_servedIn t_waysOn t_costOn t_aheads t_seen t_isKept t_lanes t_lengths t_cells) rfl rfl rfl rfl (by decide) rfl rfl 9 0 rfl rfl rfl rfl hl.1 rfl (Nat.le_of_ble_eq_true rfl) dX9_step_145 ⟨Nat.zero_le _, Nat.zero_le _⟩ (fun H locs hP hD hS => ?_)
              refine lv_i2l hx hb dX9_step_148 rfl ?_
              refine lv_ldc2 (v := 48) hx hb hown hfc93 dX9_step_149 ?_
              refine lv_ldc2 (v := 57) hx hb hown hfc95 dX9_step_152 ?_
              obtain ⟨o_13, hc, hM⟩ := bind_so hM
              refine mr_callSi (As := [.long o_12.toInt64, .long 48, .long 57]) (rest := []) ⟨hx, hb, hml, hown, hts⟩ (k_Mod_in l D cI cB cZ cS cT   o_12.toInt64 48 57 _ hc) (cwS 3 hts gX9_step_X9_in rfl rfl rfl (by decide +kernel) ⟨Nat.le_of_ble_eq_true rfl, Nat.le_of_ble_eq_true rfl⟩) hK hP hD hS hA rfl hl.1 rfl (Nat.le_of_ble_eq_true rfl) dX9_step_155 ⟨Nat.zero_le _, Nat.zero_le _⟩ (fun H locs hP hS => ?_)
              refine mr_if_eq (tgt := 217) hx hb hM dX9_step_158 (by decide) (fun hM => ?_) (fun hM => ?_)
              · exact hK217 t_spot_10 t_value_11 hM _ _ hP hD hS ls (lv_sub hl [0] rfl)
              · refine lv_aload_n hx hb dX9_step_161 rfl (lv_at hl 0 rfl) ?_
                refine lv_aload_n hx hb dX9_step_162 rfl (lv_at hl 0 rfl) ?_
                refine va_get (D := D) (ci := 9) (v := .int t_spot_10) (C := RX9) (T := TX9) (N := 34) hx hb hts inX9w hown hK hP 0 rfl rfl 10 (by decide) hf79 (fun _ h9 => h9) rfl dX9_step_163 ?_
                refine lv_aload_n hx hb dX9_step_166 rfl (lv_at hl 0 rfl) ?_
                refine va_get (D := D) (ci := 9) (v := .int t_spot_4) (C := RX9) (T := TX9) (N := 34) hx hb hts inX9w hown hK hP 0 rfl rfl 11 (by decide) hf70 (fun _ h9 => h9) rfl dX9_step_167 ?_
                refine lv_isub hx hb dX9_step_170 ?_
                refine lv_iconst (v := 2) hx hb dX9_step_171 (by decide) ?_
                refine mr_jn hM (fun j201_14 => ∀ (y_15 : Int32), j201_14 y_15 = some o → ∀ (H : Heap) (locs : List Loc), va_P D vwCl (w_Mod cI cB cZ cS cT qt qt_state qt_readPage qt_tape qt_cuts qt_letters qt_queue qt_busyTo qt_servedIn qt_waysOn qt_costOn qt_aheads qt_seen qt_isKept qt_lanes qt_lengths qt_cells t_hasLaw t_hasCounters t_highest t_taped t_fault t_broken t_brokenAt t_spot_10 t_spot_4 t_token t_value_11 t_queued t_payed t_bestWait t_bestWhom t_bestCoins t_seenMany t_torn t_state t_readPage t_tape t_cuts t_letters t_queue t_busyTo t_servedIn t_waysOn t_costOn t_aheads t_seen t_isKept t_lanes t_lengths t_cells) H → va_D A (w_Mod cI cB cZ cS cT qt qt_state qt_readPage qt_tape qt_cuts qt_letters qt_queue qt_busyTo qt_servedIn qt_waysOn qt_costOn qt_aheads qt_seen qt_isKept qt_lanes qt_lengths qt_cells t_hasLaw t_hasCounters t_highest t_taped t_fault t_broken t_brokenAt t_spot_10 t_spot_4 t_token t_value_11 t_queued t_payed t_bestWait t_bestWhom t_bestCoins t_seenMany t_torn t_state t_readPage t_tape t_cuts t_letters t_queue t_busyTo t_servedIn t_waysOn t_costOn t_aheads t_seen t_isKept t_lanes t_lengths t_cells) → va_S A s.heap H locs → ∀ ls : Array Slot, lv_has ls 2 [(0, .ref qt)] → W p l e rmX9_step s m av below meth c H locs 0 0 Q (F0 m 201 ls [.int y_15, .ref qt])) (fun y_15 hM H locs hP hD hS ls hl => ?_) (fun j201_14 hj201_14 hM => ?_)
                · refine mr_put (D := D) (ci := 9) (v := .int y_15) (ty := .int) (C := RX9) (T := TX9) (N := 34) hx hb hts inX9w tyX9 tyX9_ok nmX9 hown hK hP hD hS 0 rfl rfl 13 (by decide) hf86 (fun _ h9 => h9) rfl (by decide +kernel) rfl rfl (Nat.le_of_ble_eq_true rfl) dX9_step_201 (w_Mod cI cB cZ cS cT qt qt_state qt_readPage qt_tape qt_cuts qt_letters qt_queue qt_busyTo qt_servedIn qt_waysOn qt_costOn qt_aheads qt_seen qt_isKept qt_lanes qt_lengths qt_cells t_hasLaw t_hasCounters t_highest t_taped t_fault t_broken t_brokenAt t_spot_10 t_spot_4 t_token y_15 t_queued t_payed t_bestWait t_bestWhom t_bestCoins t_seenMany t_torn t_state t_readPage t_tape t_cuts t_letters t_queue t_busyTo t_servedIn t_waysOn t_costOn t_aheads t_seen t_isKept t_lanes t_lengths t_cells) rfl (fun H locs hP hD hS => ?_)
                  refine lv_aload_n hx hb dX9_step_204 rfl (lv_at hl 0 rfl) ?_
                  refine lv_dup hx hb dX9_step_205 rfl ?_
                  refine va_get (D := D) (ci := 9) (v := .int t_spot_10) (C := RX9) (T := TX9) (N := 34) hx hb hts inX9w hown hK hP 0 rfl rfl 10 (by decide) hf79 (fun _ h9 => h9) rfl dX9_step_206 ?_
                  refine lv_iconst (v := 1) hx hb dX9_step_209 (by decide) ?_
                  refine lv_iadd hx hb dX9_step_210 ?_
                  refine mr_nmI hM (fun t_spot_16 hM => ?_)
                  refine mr_put (D := D) (ci := 9) (v := .int t_spot_16) (ty := .int) (C := RX9) (T := TX9) (N := 34) hx hb hts inX9w tyX9 tyX9_ok nmX9 hown hK hP hD hS 0 rfl rfl 10 (by decide) hf79 (fun _ h9 => h9) rfl (by decide +kernel) rfl rfl (Nat.le_of_ble_eq_true rfl) dX9_step_211 (w_Mod cI cB cZ cS cT qt qt_state qt_readPage qt_tape qt_cuts qt_letters qt_queue qt_busyTo qt_servedIn qt_waysOn qt_costOn qt_aheads qt_seen qt_isKept qt_lanes qt_lengths qt_cells t_hasLaw t_hasCounters t_highest t_taped t_fault t_broken t_brokenAt t_spot_16 t_spot_4 t_token y_15 t_queued t_payed t_bestWait t_bestWhom t_bestCoins t_seenMany t_torn t_state t_readPage t_tape t_cuts t_letters t_queue t_busyTo t_servedIn t_waysOn t_costOn t_aheads t_seen t_isKept t_lanes t_lengths t_cells) rfl (fun H locs hP hD hS => ?_)
                  refine lv_goto (tgt := 140) hx hb dX9_step_214 (by decide) ?_
                  exact ih t_spot_16 y_15 hM _ _ hP hD hS ls (lv_sub hl [0] rfl)
                · refine mr_icmp_ge (tgt := 197) hx hb hM dX9_step_172 (by decide) (fun hM => ?_) (fun hM => ?_)
                  · refine lv_aload_n hx hb dX9_step_197 rfl (lv_at hl 0 rfl) ?_
                    refine va_get (D := D) (ci := 9) (v := .int t_value_11) (C := RX9) (T := TX9) (N := 34) hx hb hts inX9w hown hK hP 0 rfl rfl 13 (by decide) hf86 (fun _ h9 => h9) rfl dX9_step_198 ?_
                    exact hj201_14 t_value_11 hM _ _ hP hD hS ls (lv_sub hl [0] rfl)
                  · refine lv_bipush (v := 10) hx hb dX9_step_175 (by decide) ?_
                    refine lv_aload_n hx hb dX9_step_177 rfl (lv_at hl 0 rfl) ?_
                    refine va_get (D := D) (ci := 9) (v := .int t_value_11) (C := RX9) (T := TX9) (N := 34) hx hb hts inX9w hown hK hP 0 rfl rfl 13 (by decide) hf86 (fun _ h9 => h9) rfl dX9_step_178 ?_
                    refine lv_imul hx hb dX9_step_181 ?_
                    refine lv_aload_n hx hb dX9_step_182 rfl (lv_at hl 0 rfl) ?_
                    refine lv_aload_n hx hb dX9_step_183 rfl (lv_at hl 0 rfl) ?_
                    refine va_get (D := D) (ci := 9) (v := .int t_spot_10) (C := RX9) (T := TX9) (N := 34) hx hb hts inX9w hown hK hP 0 rfl rfl 10 (by decide) hf79 (fun _ h9 => h9) rfl dX9_step_184 ?_
                    obtain ⟨o_17, hc, hM⟩ := bind_so hM
                    refine mr_callVi (As := [.int t_spot_10]) (rest := [.int (10 * t_value_11), .ref qt]) (wr := []) ⟨hx, hb, hml, hown, hts⟩ (k_Mod_byteAt l D cI cB cZ cS cT qt qt_state qt_readPage qt_tape qt_cuts qt_letters qt_queue qt_busyTo qt_servedIn qt_waysOn qt_costOn qt_aheads qt_seen qt_isKept qt_lanes qt_lengths qt_cells t_hasLaw t_hasCounters t_highest t_taped t_fault t_broken t_brokenAt t_spot_10 t_spot_4 t_token t_value_11 t_queued t_payed t_bestWait t_bestWhom t_bestCoins t_seenMany t_torn t_state t_readPage t_tape t_cuts t_letters t_queue t_busyTo t_servedIn t_waysOn t_costOn t_aheads t_seen t_isKept t_lanes t_lengths t_cells t_spot_10 _ hc) (cwV 1 hts gX9_step_X9_byteAt rfl rfl rfl (by decide +kernel) ⟨Nat.le_of_ble_eq_true rfl, Nat.le_of_ble_eq_true rfl⟩) hK hP hD hS hA [0, 1, 2, 3, 4, 5, 6, 7, 8, 9, 10, 11, 12, 13, 14, 15, 16] [] [0, 1, 2, 3, 4, 5, 6, 7, 8, 9, 10, 11, 12, 13, 14, 15, 16] (w_Mod cI cB cZ cS cT qt qt_state qt_readPage qt_tape qt_cuts qt_letters qt_queue qt_busyTo qt_servedIn qt_waysOn qt_costOn qt_aheads qt_seen qt_isKept qt_lanes qt_lengths qt_cells t_hasLaw t_hasCounters t_highest t_taped t_fault t_broken t_brokenAt t_spot_10 t_spot_4 t_token t_value_11 t_queued t_payed t_bestWait t_bestWhom t_bestCoins t_seenMany t_torn t_state t_readPage t_tape t_cuts t_letters t_queue t_busyTo t_servedIn t_waysOn t_costOn t_aheads t_seen t_isKept t_lanes t_lengths t_cells) rfl rfl rfl rfl (by decide) rfl rfl 9 0 rfl rfl rfl rfl hl.1 rfl (Nat.le_of_ble_eq_true rfl) dX9_step_187 ⟨Nat.zero_le _, Nat.zero_le _⟩ (fun H locs hP hD hS => ?_)
                    refine lv_iadd hx hb dX9_step_190 ?_
                    refine lv_bipush (v := 48) hx hb dX9_step_191 (by decide) ?_
                    refine lv_isub hx hb dX9_step_193 ?_
                    refine lv_goto (tgt := 201) hx hb dX9_step_194 (by decide) ?_
                    exact hj201_14 (((10 * t_value_11) + o_17) - 48) hM _ _ hP hD hS ls (lv_sub hl [0] rfl)
          refine hL140 _ (fun t_spot_18 t_value_19 hM H locs hP hD hS ls hl => ?_) _ t_spot_4 0 hM _ _ hP hD hS ls (lv_sub hl [1] rfl)
          refine lv_aload_n hx hb dX9_step_217 rfl (lv_at hl 0 rfl) ?_
          refine lv_iconst (v := 2) hx hb dX9_step_218 (by decide) ?_
          refine mr_put (D := D) (ci := 9) (v := .int 2) (ty := .int) (C := RX9) (T := TX9) (N := 34) hx hb hts inX9w tyX9 tyX9_ok nmX9 hown hK hP hD hS 0 rfl rfl 12 (by decide) hf76 (fun _ h9 => h9) rfl (by decide +kernel) rfl rfl (Nat.le_of_ble_eq_true rfl) dX9_step_219 (w_Mod cI cB cZ cS cT qt qt_state qt_readPage qt_tape qt_cuts qt_letters qt_queue qt_busyTo qt_servedIn qt_waysOn qt_costOn qt_aheads qt_seen qt_isKept qt_lanes qt_lengths qt_cells t_hasLaw t_hasCounters t_highest t_taped t_fault t_broken t_brokenAt t_spot_18 t_spot_4 2 t_value_19 t_queued t_payed t_bestWait t_bestWhom t_bestCoins t_seenMany t_torn t_state t_readPage t_tape t_cuts t_letters t_queue t_busyTo t_servedIn t_waysOn t_costOn t_aheads t_seen t_isKept t_lanes t_lengths t_cells) rfl (fun H locs hP hD hS => ?_)
          refine lv_aload_n hx hb dX9_step_222 rfl (lv_at hl 0 rfl) ?_
          refine va_get (D := D) (ci := 9) (v := .int t_spot_18) (C := RX9) (T := TX9) (N := 34) hx hb hts inX9w hown hK hP 0 rfl rfl 10 (by decide) hf79 (fun _ h9 => h9) rfl dX9_step_223 ?_
          refine lv_aload_n hx hb dX9_step_226 rfl (lv_at hl 0 rfl) ?_
          refine va_get (D := D) (ci := 9) (v := .int t_spot_4) (C := RX9) (T := TX9) (N := 34) hx hb hts inX9w hown hK hP 0 rfl rfl 11 (by decide) hf70 (fun _ h9 => h9) rfl dX9_step_227 ?_
          refine lv_isub hx hb dX9_step_230 ?_
          refine lv_iconst (v := 2) hx hb dX9_step_231 (by decide) ?_
          refine mr_icmp_le (tgt := 269) hx hb hM dX9_step_232 (by decide) (fun hM => ?_) (fun hM => ?_)
          · have hM := Option.some.inj hM
            subst hM
            exact mr_vret hx hb hr hlocks hQ hP hD hS dX9_step_269
          · refine lv_aload_n hx hb dX9_step_235 rfl (lv_at hl 0 rfl) ?_
            refine lv_iconst (v := 1) hx hb dX9_step_236 (by decide) ?_
            obtain ⟨o_20, hc, hM⟩ := bind_so hM
            refine mr_callVv (As := [.int 1]) (rest := []) (wr := []) ⟨hx, hb, hml, hown, hts⟩ (k_Mod_fails l D cI cB cZ cS cT qt qt_state qt_readPage qt_tape qt_cuts qt_letters qt_queue qt_busyTo qt_servedIn qt_waysOn qt_costOn qt_aheads qt_seen qt_isKept qt_lanes qt_lengths qt_cells t_hasLaw t_hasCounters t_highest t_taped t_fault t_broken t_brokenAt t_spot_18 t_spot_4 2 t_value_19 t_queued t_payed t_bestWait t_bestWhom t_bestCoins t_seenMany t_torn t_state t_readPage t_tape t_cuts t_letters t_queue t_busyTo t_servedIn t_waysOn t_costOn t_aheads t_seen t_isKept t_lanes t_lengths t_cells 1 _ hc) (cwV 1 hts gX9_step_X9_fails rfl rfl rfl (by decide +kernel) ⟨Nat.le_of_ble_eq_true rfl, Nat.le_of_ble_eq_true rfl⟩) hK hP hD hS hA [0, 1, 2, 3, 4, 5, 6, 7, 8, 9, 10, 11, 12, 13, 14, 15, 16] [] [0, 1, 2, 3, 4, 5, 6, 7, 8, 9, 10, 11, 12, 13, 14, 15, 16] (w_Mod cI cB cZ cS cT qt qt_state qt_readPage qt_tape qt_cuts qt_letters qt_queue qt_busyTo qt_servedIn qt_waysOn qt_costOn qt_aheads qt_seen qt_isKept qt_lanes qt_lengths qt_cells t_hasLaw t_hasCounters t_highest t_taped t_fault o_20.1 o_20.2 t_spot_18 t_spot_4 2 t_value_19 t_queued t_payed t_bestWait t_bestWhom t_bestCoins t_seenMany t_torn t_state t_readPage t_tape t_cuts t_letters t_queue t_busyTo t_servedIn t_waysOn t_costOn t_aheads t_seen t_isKept t_lanes t_lengths t_cells) rfl rfl rfl rfl (by decide) rfl rfl 9 0 rfl rfl rfl rfl hl.1 rfl (Nat.le_of_ble_eq_true rfl) dX9_step_237 ⟨Nat.zero_le _, Nat.zero_le _⟩ (fun H locs hP hD hS => ?_)
            refine lv_goto (tgt := 269) hx hb dX9_step_240 (by decide) ?_
            have hM := Option.some.inj hM
            subst hM
            exact mr_vret hx hb hr hlocks hQ hP hD hS dX9_step_269
      · have hL84 : ∀ (K118 : Int32 → Option (Int32 × Int32 × Int32 × Int32 × Int32 × Int32)), (∀ (t_spot_25 : Int32), K118 t_spot_25 = some o → ∀ (H : Heap) (locs : List Loc), va_P D vwCl (w_Mod cI cB cZ cS cT qt qt_state qt_readPage qt_tape qt_cuts qt_letters qt_queue qt_busyTo qt_servedIn qt_waysOn qt_costOn qt_aheads qt_seen qt_isKept qt_lanes qt_lengths qt_cells t_hasLaw t_hasCounters t_highest t_taped t_fault t_broken t_brokenAt t_spot_25 t_spot_4 t_token 0 t_queued t_payed t_bestWait t_bestWhom t_bestCoins t_seenMany t_torn t_state t_readPage t_tape t_cuts t_letters t_queue t_busyTo t_servedIn t_waysOn t_costOn t_aheads t_seen t_isKept t_lanes t_lengths t_cells) H → va_D A (w_Mod cI cB cZ cS cT qt qt_state qt_readPage qt_tape qt_cuts qt_letters qt_queue qt_busyTo qt_servedIn qt_waysOn qt_costOn qt_aheads qt_seen qt_isKept qt_lanes qt_lengths qt_cells t_hasLaw t_hasCounters t_highest t_taped t_fault t_broken t_brokenAt t_spot_25 t_spot_4 t_token 0 t_queued t_payed t_bestWait t_bestWhom t_bestCoins t_seenMany t_torn t_state t_readPage t_tape t_cuts t_letters t_queue t_busyTo t_servedIn t_waysOn t_costOn t_aheads t_seen t_isKept t_lanes t_lengths t_cells) → va_S A s.heap H locs → ∀ ls : Array Slot, lv_has ls 2 [(0, .ref qt)] → W p l e rmX9_step s m av below meth c H locs 0 0 Q (F0 m 118 ls [])) → ∀ (n : Nat) (t_spot_21 : Int32), Mod_step_L84 t_taped t_tape K118 n t_spot_21 = some o → ∀ (H : Heap) (locs : List Loc), va_P D vwCl (w_Mod cI cB cZ cS cT qt qt_state qt_readPage qt_tape qt_cuts qt_letters qt_queue qt_busyTo qt_servedIn qt_waysOn qt_costOn qt_aheads qt_seen qt_isKept qt_lanes qt_lengths qt_cells t_hasLaw t_hasCounters t_highest t_taped t_fault t_broken t_brokenAt t_spot_21 t_spot_4 t_token 0 t_queued t_payed t_bestWait t_bestWhom t_bestCoins t_seenMany t_torn t_state t_readPage t_tape t_cuts t_letters t_queue t_busyTo t_servedIn t_waysOn t_costOn t_aheads t_seen t_isKept t_lanes t_lengths t_cells) H → va_D A (w_Mod cI cB cZ cS cT qt qt_state qt_readPage qt_tape qt_cuts qt_letters qt_queue qt_busyTo qt_servedIn qt_waysOn qt_costOn qt_aheads qt_seen qt_isKept qt_lanes qt_lengths qt_cells t_hasLaw t_hasCounters t_highest t_taped t_fault t_broken t_brokenAt t_spot_21 t_spot_4 t_token 0 t_queued t_payed t_bestWait t_bestWhom t_bestCoins t_seenMany t_torn t_state t_readPage t_tape t_cuts t_letters t_queue t_busyTo t_servedIn t_waysOn t_costOn t_aheads t_seen t_isKept t_lanes t_lengths t_cells) → va_S A s.heap H locs → ∀ ls : Array Slot, lv_has ls 2 [(0, .ref qt)] → W p l e rmX9_step s m av below meth c H locs 0 0 Q (F0 m 84 ls []) := by
          intro K118 hK118 n
          induction n with
          | zero =>
            intro t_spot_21 hM
            rw [Mod_step_L84] at hM
            cases hM
          | succ n ih =>
            intro t_spot_21 hM H locs hP hD hS ls hl
            rw [Mod_step_L84] at hM
            refine lv_aload_n hx hb dX9_step_84 rfl (lv_at hl 0 rfl) ?_
            refine lv_aload_n hx hb dX9_step_85 rfl (lv_at hl 0 rfl) ?_
            refine va_get (D := D) (ci := 9) (v := .int t_spot_21) (C := RX9) (T := TX9) (N := 34) hx hb hts inX9w hown hK hP 0 rfl rfl 10 (by decide) hf79 (fun _ h9 => h9) rfl dX9_step_86 ?_
            obtain ⟨o_22, hc, hM⟩ := bind_so hM
            refine mr_callVi (As := [.int t_spot_21]) (rest := []) (wr := []) ⟨hx, hb, hml, hown, hts⟩ (k_Mod_byteAt l D cI cB cZ cS cT qt qt_state qt_readPage qt_tape qt_cuts qt_letters qt_queue qt_busyTo qt_servedIn qt_waysOn qt_costOn qt_aheads qt_seen qt_isKept qt_lanes qt_lengths qt_cells t_hasLaw t_hasCounters t_highest t_taped t_fault t_broken t_brokenAt t_spot_21 t_spot_4 t_token 0 t_queued t_payed t_bestWait t_bestWhom t_bestCoins t_seenMany t_torn t_state t_readPage t_tape t_cuts t_letters t_queue t_busyTo t_servedIn t_waysOn t_costOn t_aheads t_seen t_isKept t_lanes t_lengths t_cells t_spot_21 _ hc) (cwV 1 hts gX9_step_X9_byteAt rfl rfl rfl (by decide +kernel) ⟨Nat.le_of_ble_eq_true rfl, Nat.le_of_ble_eq_true rfl⟩) hK hP hD hS hA [0, 1, 2, 3, 4, 5, 6, 7, 8, 9, 10, 11, 12, 13, 14, 15, 16] [] [0, 1, 2, 3, 4, 5, 6, 7, 8, 9, 10, 11, 12, 13, 14, 15, 16] (w_Mod cI cB cZ cS cT qt qt_state qt_readPage qt_tape qt_cuts qt_letters qt_queue qt_busyTo qt_servedIn qt_waysOn qt_costOn qt_aheads qt_seen qt_isKept qt_lanes qt_lengths qt_cells t_hasLaw t_hasCounters t_highest t_taped t_fault t_broken t_brokenAt t_spot_21 t_spot_4 t_token 0 t_queued t_payed t_bestWait t_bestWhom t_bestCoins t_seenMany t_torn t_state t_readPage t_tape t_cuts t_letters t_queue t_busyTo t_servedIn t_waysOn t_costOn t_aheads t_seen t_isKept t_lanes t_lengths t_cells) rfl rfl rfl rfl (by decide) rfl rfl 9 0 rfl rfl rfl rfl hl.1 rfl (Nat.le_of_ble_eq_true rfl) dX9_step_89 ⟨Nat.zero_le _, Nat.zero_le _⟩ (fun H locs hP hD hS => ?_)
            refine lv_i2l hx hb dX9_step_92 rfl ?_
            refine lv_ldc2 (v := 97) hx hb hown hfc89 dX9_step_93 ?_
            refine lv_ldc2 (v := 122) hx hb hown hfc91 dX9_step_96 ?_
            obtain ⟨o_23, hc, hM⟩ := bind_so hM
            refine mr_callSi (As := [.long o_22.toInt64, .long 97, .long 122]) (rest := []) ⟨hx, hb, hml, hown, hts⟩ (k_Mod_in l D cI cB cZ cS cT   o_22.toInt64 97 122 _ hc) (cwS 3 hts gX9_step_X9_in rfl rfl rfl (by decide +kernel) ⟨Nat.le_of_ble_eq_true rfl, Nat.le_of_ble_eq_true rfl⟩) hK hP hD hS hA rfl hl.1 rfl (Nat.le_of_ble_eq_true rfl) dX9_step_99 ⟨Nat.zero_le _, Nat.zero_le _⟩ (fun H locs hP hS => ?_)
            refine mr_if_eq (tgt := 118) hx hb hM dX9_step_102 (by decide) (fun hM => ?_) (fun hM => ?_)
            · exact hK118 t_spot_21 hM _ _ hP hD hS ls (lv_sub hl [0] rfl)
            · refine lv_aload_n hx hb dX9_step_105 rfl (lv_at hl 0 rfl) ?_
              refine lv_dup hx hb dX9_step_106 rfl ?_
              refine va_get (D := D) (ci := 9) (v := .int t_spot_21) (C := RX9) (T := TX9) (N := 34) hx hb hts inX9w hown hK hP 0 rfl rfl 10 (by decide) hf79 (fun _ h9 => h9) rfl dX9_step_107 ?_
              refine lv_iconst (v := 1) hx hb dX9_step_110 (by decide) ?_
              refine lv_iadd hx hb dX9_step_111 ?_
              refine mr_nmI hM (fun t_spot_24 hM => ?_)
              refine mr_put (D := D) (ci := 9) (v := .int t_spot_24) (ty := .int) (C := RX9) (T := TX9) (N := 34) hx hb hts inX9w tyX9 tyX9_ok nmX9 hown hK hP hD hS 0 rfl rfl 10 (by decide) hf79 (fun _ h9 => h9) rfl (by decide +kernel) rfl rfl (Nat.le_of_ble_eq_true rfl) dX9_step_112 (w_Mod cI cB cZ cS cT qt qt_state qt_readPage qt_tape qt_cuts qt_letters qt_queue qt_busyTo qt_servedIn qt_waysOn qt_costOn qt_aheads qt_seen qt_isKept qt_lanes qt_lengths qt_cells t_hasLaw t_hasCounters t_highest t_taped t_fault t_broken t_brokenAt t_spot_24 t_spot_4 t_token 0 t_queued t_payed t_bestWait t_bestWhom t_bestCoins t_seenMany t_torn t_state t_readPage t_tape t_cuts t_letters t_queue t_busyTo t_servedIn t_waysOn t_costOn t_aheads t_seen t_isKept t_lanes t_lengths t_cells) rfl (fun H locs hP hD hS => ?_)
              refine lv_goto (tgt := 84) hx hb dX9_step_115 (by decide) ?_
              exact ih t_spot_24 hM _ _ hP hD hS ls (lv_sub hl [0] rfl)
        refine hL84 _ (fun t_spot_25 hM H locs hP hD hS ls hl => ?_) _ t_spot_4 hM _ _ hP hD hS ls (lv_sub hl [1] rfl)
        refine lv_aload_n hx hb dX9_step_118 rfl (lv_at hl 0 rfl) ?_
        refine lv_iconst (v := 1) hx hb dX9_step_119 (by decide) ?_
        refine mr_put (D := D) (ci := 9) (v := .int 1) (ty := .int) (C := RX9) (T := TX9) (N := 34) hx hb hts inX9w tyX9 tyX9_ok nmX9 hown hK hP hD hS 0 rfl rfl 12 (by decide) hf76 (fun _ h9 => h9) rfl (by decide +kernel) rfl rfl (Nat.le_of_ble_eq_true rfl) dX9_step_120 (w_Mod cI cB cZ cS cT qt qt_state qt_readPage qt_tape qt_cuts qt_letters qt_queue qt_busyTo qt_servedIn qt_waysOn qt_costOn qt_aheads qt_seen qt_isKept qt_lanes qt_lengths qt_cells t_hasLaw t_hasCounters t_highest t_taped t_fault t_broken t_brokenAt t_spot_25 t_spot_4 1 0 t_queued t_payed t_bestWait t_bestWhom t_bestCoins t_seenMany t_torn t_state t_readPage t_tape t_cuts t_letters t_queue t_busyTo t_servedIn t_waysOn t_costOn t_aheads t_seen t_isKept t_lanes t_lengths t_cells) rfl (fun H locs hP hD hS => ?_)
        refine lv_goto (tgt := 269) hx hb dX9_step_123 (by decide) ?_
        have hM := Option.some.inj hM
        subst hM
        exact mr_vret hx hb hr hlocks hQ hP hD hS dX9_step_269
    · refine lv_aload_n hx hb dX9_step_62 rfl (lv_at hl 1 rfl) ?_
      refine lv_iconst (v := 0) hx hb dX9_step_63 (by decide) ?_
      refine mr_put (D := D) (ci := 9) (v := .int 0) (ty := .int) (C := RX9) (T := TX9) (N := 34) hx hb hts inX9w tyX9 tyX9_ok nmX9 hown hK hP hD hS 0 rfl rfl 12 (by decide) hf76 (fun _ h9 => h9) rfl (by decide +kernel) rfl rfl (Nat.le_of_ble_eq_true rfl) dX9_step_64 (w_Mod cI cB cZ cS cT qt qt_state qt_readPage qt_tape qt_cuts qt_letters qt_queue qt_busyTo qt_servedIn qt_waysOn qt_costOn qt_aheads qt_seen qt_isKept qt_lanes qt_lengths qt_cells t_hasLaw t_hasCounters t_highest t_taped t_fault t_broken t_brokenAt t_spot_4 t_spot_4 0 0 t_queued t_payed t_bestWait t_bestWhom t_bestCoins t_seenMany t_torn t_state t_readPage t_tape t_cuts t_letters t_queue t_busyTo t_servedIn t_waysOn t_costOn t_aheads t_seen t_isKept t_lanes t_lengths t_cells) rfl (fun H locs hP hD hS => ?_)
      refine lv_goto (tgt := 269) hx hb dX9_step_67 (by decide) ?_
      have hM := Option.some.inj hM
      subst hM
      exact mr_vret hx hb hr hlocks hQ hP hD hS dX9_step_269
  · have hM := Option.some.inj hM
    subst hM
    exact mr_vret hx hb hr hlocks hQ hP hD hS dX9_step_7

abbrev rmX9_nameHere : Room := { frames := 1, cells := 0, slots := 0, locals := 21 }
set_option maxHeartbeats 40000000 in
set_option maxRecDepth 100000 in
theorem k_Mod_nameHere (l : Launch) (D : va_G) (cI cB cZ cS cT : ClassId) (qt qt_state qt_readPage qt_tape qt_cuts qt_letters qt_queue qt_busyTo qt_servedIn qt_waysOn qt_costOn qt_aheads qt_seen qt_isKept qt_lanes qt_lengths qt_cells : Nat) (t_hasLaw t_hasCounters t_highest t_taped t_fault t_broken t_brokenAt t_spot t_here t_token t_value t_queued t_payed t_bestWait t_bestWhom t_bestCoins t_seenMany t_torn : Int32) (t_state t_readPage t_tape t_cuts t_letters t_queue t_busyTo t_servedIn t_waysOn t_costOn t_aheads t_seen t_isKept t_lanes t_lengths t_cells : Nat → Int32)  (o : Int32) (hM : Mod_nameHere t_taped t_spot t_here t_token t_tape t_cuts t_letters = some o) : mtI l yX9_nameHere wsX9_nameHere rmX9_nameHere D (tys5 cI cB cZ cS cT) [.ref qt] (w_Mod cI cB cZ cS cT qt qt_state qt_readPage qt_tape qt_cuts qt_letters qt_queue qt_busyTo qt_servedIn qt_waysOn qt_costOn qt_aheads qt_seen qt_isKept qt_lanes qt_lengths qt_cells t_hasLaw t_hasCounters t_highest t_taped t_fault t_broken t_brokenAt t_spot t_here t_token t_value t_queued t_payed t_bestWait t_bestWhom t_bestCoins t_seenMany t_torn t_state t_readPage t_tape t_cuts t_letters t_queue t_busyTo t_servedIn t_waysOn t_costOn t_aheads t_seen t_isKept t_lanes t_lengths t_cells) (w_Mod cI cB cZ cS cT qt qt_state qt_readPage qt_tape qt_cuts qt_letters qt_queue qt_busyTo qt_servedIn qt_waysOn qt_costOn qt_aheads qt_seen qt_isKept qt_lanes qt_lengths qt_cells t_hasLaw t_hasCounters t_highest t_taped t_fault t_broken t_brokenAt t_spot t_here t_token t_value t_queued t_payed t_bestWait t_bestWhom t_bestCoins t_seenMany t_torn t_state t_readPage t_tape t_cuts t_letters t_queue t_busyTo t_servedIn t_waysOn t_costOn t_aheads t_seen t_isKept t_lanes t_lengths t_cells) o := by
  refine mtI.of (cc := cX9_nameHere) (maxL := 4) (ret := (some .int)) (by decide) rfl (Nat.le_of_ble_eq_true rfl) ?_
  intro p e s m below meth c A Q av hav hQ hx hb hr hml hown hts hlocks hK hP hD hA hS ls hl
  have hown : s.vm.findClass RX9 = some m.cls := hown
  have hl : lv_has ls 4 [(0, .ref qt)] := hl
  unfold Mod_nameHere at hM
  have inX9w : ∀ w ∈ u_ws RX9 TX9 34, w ∈ wsX9_nameHere := by decide +kernel
  have hf76 := hts (.fieldLink RX9 76 "LetsInModel" "token" "I") (by decide +kernel)
  have hf79 := hts (.fieldLink RX9 79 "LetsInModel" "spot" "I") (by decide +kernel)
  have hf70 := hts (.fieldLink RX9 70 "LetsInModel" "here" "I") (by decide +kernel)
  have hf19 := hts (.fieldLink RX9 19 "LetsInModel" "cuts" "[I") (by decide +kernel)
  have hf22 := hts (.fieldLink RX9 22 "LetsInModel" "letters" "[I") (by decide +kernel)
  refine lv_iconst (v := 0) hx hb dX9_nameHere_0 (by decide) ?_
  refine lv_istore_n (lv' := [(1, .int 0), (0, .ref qt)]) hx hb dX9_nameHere_1 rfl hl (by decide) rfl (fun ls hl => ?_)
  have hL2 : ∀ (K110 : Int32 → Option (Int32)) (K118 : Option (Int32)), (∀ (x1_22 : Int32), K110 x1_22 = some o → ∀ (H : Heap) (locs : List Loc), va_P D vwCl (w_Mod cI cB cZ cS cT qt qt_state qt_readPage qt_tape qt_cuts qt_letters qt_queue qt_busyTo qt_servedIn qt_waysOn qt_costOn qt_aheads qt_seen qt_isKept qt_lanes qt_lengths qt_cells t_hasLaw t_hasCounters t_highest t_taped t_fault t_broken t_brokenAt t_spot t_here t_token t_value t_queued t_payed t_bestWait t_bestWhom t_bestCoins t_seenMany t_torn t_state t_readPage t_tape t_cuts t_letters t_queue t_busyTo t_servedIn t_waysOn t_costOn t_aheads t_seen t_isKept t_lanes t_lengths t_cells) H → va_D A (w_Mod cI cB cZ cS cT qt qt_state qt_readPage qt_tape qt_cuts qt_letters qt_queue qt_busyTo qt_servedIn qt_waysOn qt_costOn qt_aheads qt_seen qt_isKept qt_lanes qt_lengths qt_cells t_hasLaw t_hasCounters t_highest t_taped t_fault t_broken t_brokenAt t_spot t_here t_token t_value t_queued t_payed t_bestWait t_bestWhom t_bestCoins t_seenMany t_torn t_state t_readPage t_tape t_cuts t_letters t_queue t_busyTo t_servedIn t_waysOn t_costOn t_aheads t_seen t_isKept t_lanes t_lengths t_cells) → va_S A s.heap H locs → ∀ ls : Array Slot, lv_has ls 4 [(1, .int x1_22)] → W p l e rmX9_nameHere s m av below meth c H locs 0 0 Q (F0 m 110 ls [])) → (K118  = some o → ∀ (H : Heap) (locs : List Loc), va_P D vwCl (w_Mod cI cB cZ cS cT qt qt_state qt_readPage qt_tape qt_cuts qt_letters qt_queue qt_busyTo qt_servedIn qt_waysOn qt_costOn qt_aheads qt_seen qt_isKept qt_lanes qt_lengths qt_cells t_hasLaw t_hasCounters t_highest t_taped t_fault t_broken t_brokenAt t_spot t_here t_token t_value t_queued t_payed t_bestWait t_bestWhom t_bestCoins t_seenMany t_torn t_state t_readPage t_tape t_cuts t_letters t_queue t_busyTo t_servedIn t_waysOn t_costOn t_aheads t_seen t_isKept t_lanes t_lengths t_cells) H → va_D A (w_Mod cI cB cZ cS cT qt qt_state qt_readPage qt_tape qt_cuts qt_letters qt_queue qt_busyTo qt_servedIn qt_waysOn qt_costOn qt_aheads qt_seen qt_isKept qt_lanes qt_lengths qt_cells t_hasLaw t_hasCounters t_highest t_taped t_fault t_broken t_brokenAt t_spot t_here t_token t_value t_queued t_payed t_bestWait t_bestWhom t_bestCoins t_seenMany t_torn t_state t_readPage t_tape t_cuts t_letters t_queue t_busyTo t_servedIn t_waysOn t_costOn t_aheads t_seen t_isKept t_lanes t_lengths t_cells) → va_S A s.heap H locs → ∀ ls : Array Slot, lv_has ls 4 [] → W p l e rmX9_nameHere s m av below meth c H locs 0 0 Q (F0 m 118 ls [])) → ∀ (n : Nat) (x1_1 : Int32), Mod_nameHere_L2 t_taped t_spot t_here t_token t_tape t_cuts t_letters K110 K118 n x1_1 = some o → ∀ (H : Heap) (locs : List Loc), va_P D vwCl (w_Mod cI cB cZ cS cT qt qt_state qt_readPage qt_tape qt_cuts qt_letters qt_queue qt_busyTo qt_servedIn qt_waysOn qt_costOn qt_aheads qt_seen qt_isKept qt_lanes qt_lengths qt_cells t_hasLaw t_hasCounters t_highest t_taped t_fault t_broken t_brokenAt t_spot t_here t_token t_value t_queued t_payed t_bestWait t_bestWhom t_bestCoins t_seenMany t_torn t_state t_readPage t_tape t_cuts t_letters t_queue t_busyTo t_servedIn t_waysOn t_costOn t_aheads t_seen t_isKept t_lanes t_lengths t_cells) H → va_D A (w_Mod cI cB cZ cS cT qt qt_state qt_readPage qt_tape qt_cuts qt_letters qt_queue qt_busyTo qt_servedIn qt_waysOn qt_costOn qt_aheads qt_seen qt_isKept qt_lanes qt_lengths qt_cells t_hasLaw t_hasCounters t_highest t_taped t_fault t_broken t_brokenAt t_spot t_here t_token t_value t_queued t_payed t_bestWait t_bestWhom t_bestCoins t_seenMany t_torn t_state t_readPage t_tape t_cuts t_letters t_queue t_busyTo t_servedIn t_waysOn t_costOn t_aheads t_seen t_isKept t_lanes t_lengths t_cells) → va_S A s.heap H locs → ∀ ls : Array Slot, lv_has ls 4 [(0, .ref qt), (1, .int x1_1)] → W p l e rmX9_nameHere s m av below meth c H locs 0 0 Q (F0 m 2 ls []) := by
    intro K110 K118 hK110 hK118 n
    induction n with
    | zero =>
      intro x1_1 hM
      rw [Mod_nameHere_L2] at hM
      cases hM
    | succ n ih =>
      intro x1_1 hM H locs hP hD hS ls hl
      rw [Mod_nameHere_L2] at hM
      refine lv_iload_n hx hb dX9_nameHere_2 rfl (lv_at hl 1 rfl) ?_
      refine lv_bipush (v := 9) hx hb dX9_nameHere_3 (by decide) ?_
      refine mr_icmp_ge (tgt := 118) hx hb hM dX9_nameHere_5 (by decide) (fun hM => ?_) (fun hM => ?_)
      · exact hK118  hM _ _ hP hD hS ls (lv_sub hl [] rfl)
      · refine lv_aload_n hx hb dX9_nameHere_8 rfl (lv_at hl 0 rfl) ?_
        refine va_get (D := D) (ci := 9) (v := .int t_token) (C := RX9) (T := TX9) (N := 34) hx hb hts inX9w hown hK hP 0 rfl rfl 12 (by decide) hf76 (fun _ h9 => h9) rfl dX9_nameHere_9 ?_
        refine lv_iconst (v := 1) hx hb dX9_nameHere_12 (by decide) ?_
        refine mr_icmp_ne (tgt := 118) hx hb hM dX9_nameHere_13 (by decide) (fun hM => ?_) (fun hM => ?_)
        · exact hK118  hM _ _ hP hD hS ls (lv_sub hl [] rfl)
        · refine lv_aload_n hx hb dX9_nameHere_16 rfl (lv_at hl 0 rfl) ?_
          refine va_get (D := D) (ci := 9) (v := .int t_spot) (C := RX9) (T := TX9) (N := 34) hx hb hts inX9w hown hK hP 0 rfl rfl 10 (by decide) hf79 (fun _ h9 => h9) rfl dX9_nameHere_17 ?_
          refine lv_aload_n hx hb dX9_nameHere_20 rfl (lv_at hl 0 rfl) ?_
          refine va_get (D := D) (ci := 9) (v := .int t_here) (C := RX9) (T := TX9) (N := 34) hx hb hts inX9w hown hK hP 0 rfl rfl 11 (by decide) hf70 (fun _ h9 => h9) rfl dX9_nameHere_21 ?_
          refine lv_isub hx hb dX9_nameHere_24 ?_
          refine lv_aload_n hx hb dX9_nameHere_25 rfl (lv_at hl 0 rfl) ?_
          refine va_get (D := D) (ci := 9) (v := .ref qt_cuts) (C := RX9) (T := TX9) (N := 34) hx hb hts inX9w hown hK hP 0 rfl rfl 14 (by decide) hf19 (fun _ h9 => h9) rfl dX9_nameHere_26 ?_
          refine lv_iload_n hx hb dX9_nameHere_29 rfl (lv_at hl 1 rfl) ?_
          refine lv_iconst (v := 1) hx hb dX9_nameHere_30 (by decide) ?_
          refine lv_iadd hx hb dX9_nameHere_31 ?_
          refine mr_iald hx hb hK hP 4 0 rfl rfl hM dX9_nameHere_32 (fun v_2 hM => ?_)
          refine lv_aload_n hx hb dX9_nameHere_33 rfl (lv_at hl 0 rfl) ?_
          refine va_get (D := D) (ci := 9) (v := .ref qt_cuts) (C := RX9) (T := TX9) (N := 34) hx hb hts inX9w hown hK hP 0 rfl rfl 14 (by decide) hf19 (fun _ h9 => h9) rfl dX9_nameHere_34 ?_
          refine lv_iload_n hx hb dX9_nameHere_37 rfl (lv_at hl 1 rfl) ?_
          refine mr_iald hx hb hK hP 4 0 rfl rfl hM dX9_nameHere_38 (fun v_3 hM => ?_)
          refine lv_isub hx hb dX9_nameHere_39 ?_
          refine mr_icmp_ne (tgt := 47) hx hb hM dX9_nameHere_40 (by decide) (fun hM => ?_) (fun hM => ?_)
          · refine lv_iconst (v := 0) hx hb dX9_nameHere_47 (by decide) ?_
            refine lv_istore_n (lv' := [(2, .int 0), (0, .ref qt), (1, .int x1_1)]) hx hb dX9_nameHere_48 rfl hl (by decide) rfl (fun ls hl => ?_)
            refine lv_iconst (v := 0) hx hb dX9_nameHere_49 (by decide) ?_
            refine lv_istore_n (lv' := [(3, .int 0), (2, .int 0), (0, .ref qt), (1, .int x1_1)]) hx hb dX9_nameHere_50 rfl hl (by decide) rfl (fun ls hl => ?_)
            have hL51 : ∀ (K106 : Int32 → Option (Int32)), (∀ (x2_11 : Int32), K106 x2_11 = some o → ∀ (H : Heap) (locs : List Loc), va_P D vwCl (w_Mod cI cB cZ cS cT qt qt_state qt_readPage qt_tape qt_cuts qt_letters qt_queue qt_busyTo qt_servedIn qt_waysOn qt_costOn qt_aheads qt_seen qt_isKept qt_lanes qt_lengths qt_cells t_hasLaw t_hasCounters t_highest t_taped t_fault t_broken t_brokenAt t_spot t_here t_token t_value t_queued t_payed t_bestWait t_bestWhom t_bestCoins t_seenMany t_torn t_state t_readPage t_tape t_cuts t_letters t_queue t_busyTo t_servedIn t_waysOn t_costOn t_aheads t_seen t_isKept t_lanes t_lengths t_cells) H → va_D A (w_Mod cI cB cZ cS cT qt qt_state qt_readPage qt_tape qt_cuts qt_letters qt_queue qt_busyTo qt_servedIn qt_waysOn qt_costOn qt_aheads qt_seen qt_isKept qt_lanes qt_lengths qt_cells t_hasLaw t_hasCounters t_highest t_taped t_fault t_broken t_brokenAt t_spot t_here t_token t_value t_queued t_payed t_bestWait t_bestWhom t_bestCoins t_seenMany t_torn t_state t_readPage t_tape t_cuts t_letters t_queue t_busyTo t_servedIn t_waysOn t_costOn t_aheads t_seen t_isKept t_lanes t_lengths t_cells) → va_S A s.heap H locs → ∀ ls : Array Slot, lv_has ls 4 [(0, .ref qt), (1, .int x1_1), (2, .int x2_11)] → W p l e rmX9_nameHere s m av below meth c H locs 0 0 Q (F0 m 106 ls [])) → ∀ (n : Nat) (x2_4 x3_5 : Int32), Mod_nameHere_L51 t_taped t_spot t_here t_tape t_cuts t_letters x1_1 K106 n x2_4 x3_5 = some o → ∀ (H : Heap) (locs : List Loc), va_P D vwCl (w_Mod cI cB cZ cS cT qt qt_state qt_readPage qt_tape qt_cuts qt_letters qt_queue qt_busyTo qt_servedIn qt_waysOn qt_costOn qt_aheads qt_seen qt_isKept qt_lanes qt_lengths qt_cells t_hasLaw t_hasCounters t_highest t_taped t_fault t_broken t_brokenAt t_spot t_here t_token t_value t_queued t_payed t_bestWait t_bestWhom t_bestCoins t_seenMany t_torn t_state t_readPage t_tape t_cuts t_letters t_queue t_busyTo t_servedIn t_waysOn t_costOn t_aheads t_seen t_isKept t_lanes t_lengths t_cells) H → va_D A (w_Mod cI cB cZ cS cT qt qt_state qt_readPage qt_tape qt_cuts qt_letters qt_queue qt_busyTo qt_servedIn qt_waysOn qt_costOn qt_aheads qt_seen qt_isKept qt_lanes qt_lengths qt_cells t_hasLaw t_hasCounters t_highest t_taped t_fault t_broken t_brokenAt t_spot t_here t_token t_value t_queued t_payed t_bestWait t_bestWhom t_bestCoins t_seenMany t_torn t_state t_readPage t_tape t_cuts t_letters t_queue t_busyTo t_servedIn t_waysOn t_costOn t_aheads t_seen t_isKept t_lanes t_lengths t_cells) → va_S A s.heap H locs → ∀ ls : Array Slot, lv_has ls 4 [(0, .ref qt), (1, .int x1_1), (2, .int x2_4), (3, .int x3_5)] → W p l e rmX9_nameHere s m av below meth c H locs 0 0 Q (F0 m 51 ls []) := by
              intro K106 hK106 n
              induction n with
              | zero =>
                intro x2_4 x3_5 hM
                rw [Mod_nameHere_L51] at hM
                cases hM
              | succ n ih =>
                intro x2_4 x3_5 hM H locs hP hD hS ls hl
                rw [Mod_nameHere_L51] at hM
                refine lv_iload_n hx hb dX9_nameHere_51 rfl (lv_at hl 2 rfl) ?_
                refine mr_if_eq (tgt := 106) hx hb hM dX9_nameHere_52 (by decide) (fun hM => ?_) (fun hM => ?_)
                · exact hK106 x2_4 hM _ _ hP hD hS ls (lv_sub hl [0, 1, 2] rfl)
                · refine lv_iload_n hx hb dX9_nameHere_55 rfl (lv_at hl 3 rfl) ?_
                  refine lv_aload_n hx hb dX9_nameHere_56 rfl (lv_at hl 0 rfl) ?_
                  refine va_get (D := D) (ci := 9) (v := .int t_spot) (C := RX9) (T := TX9) (N := 34) hx hb hts inX9w hown hK hP 0 rfl rfl 10 (by decide) hf79 (fun _ h9 => h9) rfl dX9_nameHere_57 ?_
                  refine lv_aload_n hx hb dX9_nameHere_60 rfl (lv_at hl 0 rfl) ?_
                  refine va_get (D := D) (ci := 9) (v := .int t_here) (C := RX9) (T := TX9) (N := 34) hx hb hts inX9w hown hK hP 0 rfl rfl 11 (by decide) hf70 (fun _ h9 => h9) rfl dX9_nameHere_61 ?_
                  refine lv_isub hx hb dX9_nameHere_64 ?_
                  refine mr_icmp_ge (tgt := 106) hx hb hM dX9_nameHere_65 (by decide) (fun hM => ?_) (fun hM => ?_)
                  · exact hK106 x2_4 hM _ _ hP hD hS ls (lv_sub hl [0, 1, 2] rfl)
                  · refine lv_aload_n hx hb dX9_nameHere_68 rfl (lv_at hl 0 rfl) ?_
                    refine lv_aload_n hx hb dX9_nameHere_69 rfl (lv_at hl 0 rfl) ?_
                    refine va_get (D := D) (ci := 9) (v := .int t_here) (C := RX9) (T := TX9) (N := 34) hx hb hts inX9w hown hK hP 0 rfl rfl 11 (by decide) hf70 (fun _ h9 => h9) rfl dX9_nameHere_70 ?_
                    refine lv_iload_n hx hb dX9_nameHere_73 rfl (lv_at hl 3 rfl) ?_
                    refine lv_iadd hx hb dX9_nameHere_74 ?_
                    obtain ⟨o_6, hc, hM⟩ := bind_so hM
                    refine mr_callVi (As := [.int (t_here + x3_5)]) (rest := []) (wr := []) ⟨hx, hb, hml, hown, hts⟩ (k_Mod_byteAt l D cI cB cZ cS cT qt qt_state qt_readPage qt_tape qt_cuts qt_letters qt_queue qt_busyTo qt_servedIn qt_waysOn qt_costOn qt_aheads qt_seen qt_isKept qt_lanes qt_lengths qt_cells t_hasLaw t_hasCounters t_highest t_taped t_fault t_broken t_brokenAt t_spot t_here t_token t_value t_queued t_payed t_bestWait t_bestWhom t_bestCoins t_seenMany t_torn t_state t_readPage t_tape t_cuts t_letters t_queue t_busyTo t_servedIn t_waysOn t_costOn t_aheads t_seen t_isKept t_lanes t_lengths t_cells (t_here + x3_5) _ hc) (cwV 1 hts gX9_nameHere_X9_byteAt rfl rfl rfl (by decide +kernel) ⟨Nat.le_of_ble_eq_true rfl, Nat.le_of_ble_eq_true rfl⟩) hK hP hD hS hA [0, 1, 2, 3, 4, 5, 6, 7, 8, 9, 10, 11, 12, 13, 14, 15, 16] [] [0, 1, 2, 3, 4, 5, 6, 7, 8, 9, 10, 11, 12, 13, 14, 15, 16] (w_Mod cI cB cZ cS cT qt qt_state qt_readPage qt_tape qt_cuts qt_letters qt_queue qt_busyTo qt_servedIn qt_waysOn qt_costOn qt_aheads qt_seen qt_isKept qt_lanes qt_lengths qt_cells t_hasLaw t_hasCounters t_highest t_taped t_fault t_broken t_brokenAt t_spot t_here t_token t_value t_queued t_payed t_bestWait t_bestWhom t_bestCoins t_seenMany t_torn t_state t_readPage t_tape t_cuts t_letters t_queue t_busyTo t_servedIn t_waysOn t_costOn t_aheads t_seen t_isKept t_lanes t_lengths t_cells) rfl rfl rfl rfl (by decide) rfl rfl 9 0 rfl rfl rfl rfl hl.1 rfl (Nat.le_of_ble_eq_true rfl) dX9_nameHere_75 ⟨Nat.zero_le _, Nat.zero_le _⟩ (fun H locs hP hD hS => ?_)
                    refine lv_aload_n hx hb dX9_nameHere_78 rfl (lv_at hl 0 rfl) ?_
                    refine va_get (D := D) (ci := 9) (v := .ref qt_letters) (C := RX9) (T := TX9) (N := 34) hx hb hts inX9w hown hK hP 0 rfl rfl 15 (by decide) hf22 (fun _ h9 => h9) rfl dX9_nameHere_79 ?_
                    refine lv_aload_n hx hb dX9_nameHere_82 rfl (lv_at hl 0 rfl) ?_
                    refine va_get (D := D) (ci := 9) (v := .ref qt_cuts) (C := RX9) (T := TX9) (N := 34) hx hb hts inX9w hown hK hP 0 rfl rfl 14 (by decide) hf19 (fun _ h9 => h9) rfl dX9_nameHere_83 ?_
                    refine lv_iload_n hx hb dX9_nameHere_86 rfl (lv_at hl 1 rfl) ?_
                    refine mr_iald hx hb hK hP 4 0 rfl rfl hM dX9_nameHere_87 (fun v_7 hM => ?_)
                    refine lv_iload_n hx hb dX9_nameHere_88 rfl (lv_at hl 3 rfl) ?_
                    refine lv_iadd hx hb dX9_nameHere_89 ?_
                    refine mr_iald hx hb hK hP 5 0 rfl rfl hM dX9_nameHere_90 (fun v_8 hM => ?_)
                    refine mr_icmp_ne (tgt := 98) hx hb hM dX9_nameHere_91 (by decide) (fun hM => ?_) (fun hM => ?_)
                    · refine lv_iconst (v := 0) hx hb dX9_nameHere_98 (by decide) ?_
                      refine lv_istore_n (lv' := [(2, .int 0), (0, .ref qt), (1, .int x1_1), (3, .int x3_5)]) hx hb dX9_nameHere_99 rfl hl (by decide) rfl (fun ls hl => ?_)
                      refine mr_iinc (k := 3) (d := 1) hx hb (fun x3_9 => [(3, .int x3_9), (2, .int 0), (0, .ref qt), (1, .int x1_1)]) hM (by decide) dX9_nameHere_100 hl rfl (by decide) (fun _ => rfl) (fun x3_9 hM ls hl => ?_)
                      refine lv_goto (tgt := 51) hx hb dX9_nameHere_103 (by decide) ?_
                      exact ih 0 x3_9 hM _ _ hP hD hS ls (lv_sub hl [2, 3, 1, 0] rfl)
                    · refine lv_iconst (v := 1) hx hb dX9_nameHere_94 (by decide) ?_
                      refine lv_goto (tgt := 99) hx hb dX9_nameHere_95 (by decide) ?_
                      refine lv_istore_n (lv' := [(2, .int 1), (0, .ref qt), (1, .int x1_1), (3, .int x3_5)]) hx hb dX9_nameHere_99 rfl hl (by decide) rfl (fun ls hl => ?_)
                      refine mr_iinc (k := 3) (d := 1) hx hb (fun x3_10 => [(3, .int x3_10), (2, .int 1), (0, .ref qt), (1, .int x1_1)]) hM (by decide) dX9_nameHere_100 hl rfl (by decide) (fun _ => rfl) (fun x3_10 hM ls hl => ?_)
                      refine lv_goto (tgt := 51) hx hb dX9_nameHere_103 (by decide) ?_
                      exact ih 1 x3_10 hM _ _ hP hD hS ls (lv_sub hl [2, 3, 1, 0] rfl)
            refine hL51 _ (fun x2_11 hM H locs hP hD hS ls hl => ?_) _ 0 0 hM _ _ hP hD hS ls (lv_sub hl [2, 3, 1, 0] rfl)
            refine lv_iload_n hx hb dX9_nameHere_106 rfl (lv_at hl 2 rfl) ?_
            refine mr_if_eq (tgt := 112) hx hb hM dX9_nameHere_107 (by decide) (fun hM => ?_) (fun hM => ?_)
            · refine mr_iinc (k := 1) (d := 1) hx hb (fun x1_12 => [(1, .int x1_12), (0, .ref qt), (2, .int x2_11)]) hM (by decide) dX9_nameHere_112 hl rfl (by decide) (fun _ => rfl) (fun x1_12 hM ls hl => ?_)
              refine lv_goto (tgt := 2) hx hb dX9_nameHere_115 (by decide) ?_
              exact ih x1_12 hM _ _ hP hD hS ls (lv_sub hl [1, 0] rfl)
            · exact hK110 x1_1 hM _ _ hP hD hS ls (lv_sub hl [1] rfl)
          · refine lv_iconst (v := 1) hx hb dX9_nameHere_43 (by decide) ?_
            refine lv_goto (tgt := 48) hx hb dX9_nameHere_44 (by decide) ?_
            refine lv_istore_n (lv' := [(2, .int 1), (0, .ref qt), (1, .int x1_1)]) hx hb dX9_nameHere_48 rfl hl (by decide) rfl (fun ls hl => ?_)
            refine lv_iconst (v := 0) hx hb dX9_nameHere_49 (by decide) ?_
            refine lv_istore_n (lv' := [(3, .int 0), (2, .int 1), (0, .ref qt), (1, .int x1_1)]) hx hb dX9_nameHere_50 rfl hl (by decide) rfl (fun ls hl => ?_)
            have hL51 : ∀ (K106 : Int32 → Option (Int32)), (∀ (x2_20 : Int32), K106 x2_20 = some o → ∀ (H : Heap) (locs : List Loc), va_P D vwCl (w_Mod cI cB cZ cS cT qt qt_state qt_readPage qt_tape qt_cuts qt_letters qt_queue qt_busyTo qt_servedIn qt_waysOn qt_costOn qt_aheads qt_seen qt_isKept qt_lanes qt_lengths qt_cells t_hasLaw t_hasCounters t_highest t_taped t_fault t_broken t_brokenAt t_spot t_here t_token t_value t_queued t_payed t_bestWait t_bestWhom t_bestCoins t_seenMany t_torn t_state t_readPage t_tape t_cuts t_letters t_queue t_busyTo t_servedIn t_waysOn t_costOn t_aheads t_seen t_isKept t_lanes t_lengths t_cells) H → va_D A (w_Mod cI cB cZ cS cT qt qt_state qt_readPage qt_tape qt_cuts qt_letters qt_queue qt_busyTo qt_servedIn qt_waysOn qt_costOn qt_aheads qt_seen qt_isKept qt_lanes qt_lengths qt_cells t_hasLaw t_hasCounters t_highest t_taped t_fault t_broken t_brokenAt t_spot t_here t_token t_value t_queued t_payed t_bestWait t_bestWhom t_bestCoins t_seenMany t_torn t_state t_readPage t_tape t_cuts t_letters t_queue t_busyTo t_servedIn t_waysOn t_costOn t_aheads t_seen t_isKept t_lanes t_lengths t_cells) → va_S A s.heap H locs → ∀ ls : Array Slot, lv_has ls 4 [(0, .ref qt), (1, .int x1_1), (2, .int x2_20)] → W p l e rmX9_nameHere s m av below meth c H locs 0 0 Q (F0 m 106 ls [])) → ∀ (n : Nat) (x2_13 x3_14 : Int32), Mod_nameHere_L51' t_taped t_spot t_here t_tape t_cuts t_letters x1_1 K106 n x2_13 x3_14 = some o → ∀ (H : Heap) (locs : List Loc), va_P D vwCl (w_Mod cI cB cZ cS cT qt qt_state qt_readPage qt_tape qt_cuts qt_letters qt_queue qt_busyTo qt_servedIn qt_waysOn qt_costOn qt_aheads qt_seen qt_isKept qt_lanes qt_lengths qt_cells t_hasLaw t_hasCounters t_highest t_taped t_fault t_broken t_brokenAt t_spot t_here t_token t_value t_queued t_payed t_bestWait t_bestWhom t_bestCoins t_seenMany t_torn t_state t_readPage t_tape t_cuts t_letters t_queue t_busyTo t_servedIn t_waysOn t_costOn t_aheads t_seen t_isKept t_lanes t_lengths t_cells) H → va_D A (w_Mod cI cB cZ cS cT qt qt_state qt_readPage qt_tape qt_cuts qt_letters qt_queue qt_busyTo qt_servedIn qt_waysOn qt_costOn qt_aheads qt_seen qt_isKept qt_lanes qt_lengths qt_cells t_hasLaw t_hasCounters t_highest t_taped t_fault t_broken t_brokenAt t_spot t_here t_token t_value t_queued t_payed t_bestWait t_bestWhom t_bestCoins t_seenMany t_torn t_state t_readPage t_tape t_cuts t_letters t_queue t_busyTo t_servedIn t_waysOn t_costOn t_aheads t_seen t_isKept t_lanes t_lengths t_cells) → va_S A s.heap H locs → ∀ ls : Array Slot, lv_has ls 4 [(0, .ref qt), (1, .int x1_1), (2, .int x2_13), (3, .int x3_14)] → W p l e rmX9_nameHere s m av below meth c H locs 0 0 Q (F0 m 51 ls []) := by
              intro K106 hK106 n
              induction n with
              | zero =>
                intro x2_13 x3_14 hM
                rw [Mod_nameHere_L51'] at hM
                cases hM
              | succ n ih =>
                intro x2_13 x3_14 hM H locs hP hD hS ls hl
                rw [Mod_nameHere_L51'] at hM
                refine lv_iload_n hx hb dX9_nameHere_51 rfl (lv_at hl 2 rfl) ?_
                refine mr_if_eq (tgt := 106) hx hb hM dX9_nameHere_52 (by decide) (fun hM => ?_) (fun hM => ?_)
                · exact hK106 x2_13 hM _ _ hP hD hS ls (lv_sub hl [0, 1, 2] rfl)
                · refine lv_iload_n hx hb dX9_nameHere_55 rfl (lv_at hl 3 rfl) ?_
                  refine lv_aload_n hx hb dX9_nameHere_56 rfl (lv_at hl 0 rfl) ?_
                  refine va_get (D := D) (ci := 9) (v := .int t_spot) (C := RX9) (T := TX9) (N := 34) hx hb hts inX9w hown hK hP 0 rfl rfl 10 (by decide) hf79 (fun _ h9 => h9) rfl dX9_nameHere_57 ?_
                  refine lv_aload_n hx hb dX9_nameHere_60 rfl (lv_at hl 0 rfl) ?_
                  refine va_get (D := D) (ci := 9) (v := .int t_here) (C := RX9) (T := TX9) (N := 34) hx hb hts inX9w hown hK hP 0 rfl rfl 11 (by decide) hf70 (fun _ h9 => h9) rfl dX9_nameHere_61 ?_
                  refine lv_isub hx hb dX9_nameHere_64 ?_
                  refine mr_icmp_ge (tgt := 106) hx hb hM dX9_nameHere_65 (by decide) (fun hM => ?_) (fun hM => ?_)
                  · exact hK106 x2_13 hM _ _ hP hD hS ls (lv_sub hl [0, 1, 2] rfl)
                  · refine lv_aload_n hx hb dX9_nameHere_68 rfl (lv_at hl 0 rfl) ?_
                    refine lv_aload_n hx hb dX9_nameHere_69 rfl (lv_at hl 0 rfl) ?_
                    refine va_get (D := D) (ci := 9) (v := .int t_here) (C := RX9) (T := TX9) (N := 34) hx hb hts inX9w hown hK hP 0 rfl rfl 11 (by decide) hf70 (fun _ h9 => h9) rfl dX9_nameHere_70 ?_
                    refine lv_iload_n hx hb dX9_nameHere_73 rfl (lv_at hl 3 rfl) ?_
                    refine lv_iadd hx hb dX9_nameHere_74 ?_
                    obtain ⟨o_15, hc, hM⟩ := bind_so hM
                    refine mr_callVi (As := [.int (t_here + x3_14)]) (rest := []) (wr := []) ⟨hx, hb, hml, hown, hts⟩ (k_Mod_byteAt l D cI cB cZ cS cT qt qt_state qt_readPage qt_tape qt_cuts qt_letters qt_queue qt_busyTo qt_servedIn qt_waysOn qt_costOn qt_aheads qt_seen qt_isKept qt_lanes qt_lengths qt_cells t_hasLaw t_hasCounters t_highest t_taped t_fault t_broken t_brokenAt t_spot t_here t_token t_value t_queued t_payed t_bestWait t_bestWhom t_bestCoins t_seenMany t_torn t_state t_readPage t_tape t_cuts t_letters t_queue t_busyTo t_servedIn t_waysOn t_costOn t_aheads t_seen t_isKept t_lanes t_lengths t_cells (t_here + x3_14) _ hc) (cwV 1 hts gX9_nameHere_X9_byteAt rfl rfl rfl (by decide +kernel) ⟨Nat.le_of_ble_eq_true rfl, Nat.le_of_ble_eq_true rfl⟩) hK hP hD hS hA [0, 1, 2, 3, 4, 5, 6, 7, 8, 9, 10, 11, 12, 13, 14, 15, 16] [] [0, 1, 2, 3, 4, 5, 6, 7, 8, 9, 10, 11, 12, 13, 14, 15, 16] (w_Mod cI cB cZ cS cT qt qt_state qt_readPage qt_tape qt_cuts qt_letters qt_queue qt_busyTo qt_servedIn qt_waysOn qt_costOn qt_aheads qt_seen qt_isKept qt_lanes qt_lengths qt_cells t_hasLaw t_hasCounters t_highest t_taped t_fault t_broken t_brokenAt t_spot t_here t_token t_value t_queued t_payed t_bestWait t_bestWhom t_bestCoins t_seenMany t_torn t_state t_readPage t_tape t_cuts t_letters t_queue t_busyTo t_servedIn t_waysOn t_costOn t_aheads t_seen t_isKept t_lanes t_lengths t_cells) rfl rfl rfl rfl (by decide) rfl rfl 9 0 rfl rfl rfl rfl hl.1 rfl (Nat.le_of_ble_eq_true rfl) dX9_nameHere_75 ⟨Nat.zero_le _, Nat.zero_le _⟩ (fun H locs hP hD hS => ?_)
                    refine lv_aload_n hx hb dX9_nameHere_78 rfl (lv_at hl 0 rfl) ?_
                    refine va_get (D := D) (ci := 9) (v := .ref qt_letters) (C := RX9) (T := TX9) (N := 34) hx hb hts inX9w hown hK hP 0 rfl rfl 15 (by decide) hf22 (fun _ h9 => h9) rfl dX9_nameHere_79 ?_
                    refine lv_aload_n hx hb dX9_nameHere_82 rfl (lv_at hl 0 rfl) ?_
                    refine va_get (D := D) (ci := 9) (v := .ref qt_cuts) (C := RX9) (T := TX9) (N := 34) hx hb hts inX9w hown hK hP 0 rfl rfl 14 (by decide) hf19 (fun _ h9 => h9) rfl dX9_nameHere_83 ?_
                    refine lv_iload_n hx hb dX9_nameHere_86 rfl (lv_at hl 1 rfl) ?_
                    refine mr_iald hx hb hK hP 4 0 rfl rfl hM dX9_nameHere_87 (fun v_16 hM => ?_)
                    refine lv_iload_n hx hb dX9_nameHere_88 rfl (lv_at hl 3 rfl) ?_
                    refine lv_iadd hx hb dX9_nameHere_89 ?_
                    refine mr_iald hx hb hK hP 5 0 rfl rfl hM dX9_nameHere_90 (fun v_17 hM => ?_)
                    refine mr_icmp_ne (tgt := 98) hx hb hM dX9_nameHere_91 (by decide) (fun hM => ?_) (fun hM => ?_)
                    · refine lv_iconst (v := 0) hx hb dX9_nameHere_98 (by decide) ?_
                      refine lv_istore_n (lv' := [(2, .int 0), (0, .ref qt), (1, .int x1_1), (3, .int x3_14)]) hx hb dX9_nameHere_99 rfl hl (by decide) rfl (fun ls hl => ?_)
                      refine mr_iinc (k := 3) (d := 1) hx hb (fun x3_18 => [(3, .int x3_18), (2, .int 0), (0, .ref qt), (1, .int x1_1)]) hM (by decide) dX9_nameHere_100 hl rfl (by decide) (fun _ => rfl) (fun x3_18 hM ls hl => ?_)
                      refine lv_goto (tgt := 51) hx hb dX9_nameHere_103 (by decide) ?_
                      exact ih 0 x3_18 hM _ _ hP hD hS ls (lv_sub hl [2, 3, 1, 0] rfl)
                    · refine lv_iconst (v := 1) hx hb dX9_nameHere_94 (by decide) ?_
                      refine lv_goto (tgt := 99) hx hb dX9_nameHere_95 (by decide) ?_
                      refine lv_istore_n (lv' := [(2, .int 1), (0, .ref qt), (1, .int x1_1), (3, .int x3_14)]) hx hb dX9_nameHere_99 rfl hl (by decide) rfl (fun ls hl => ?_)
                      refine mr_iinc (k := 3) (d := 1) hx hb (fun x3_19 => [(3, .int x3_19), (2, .int 1), (0, .ref qt), (1, .int x1_1)]) hM (by decide) dX9_nameHere_100 hl rfl (by decide) (fun _ => rfl) (fun x3_19 hM ls hl => ?_)
                      refine lv_goto (tgt := 51) hx hb dX9_nameHere_103 (by decide) ?_
                      exact ih 1 x3_19 hM _ _ hP hD hS ls (lv_sub hl [2, 3, 1, 0] rfl)
            refine hL51 _ (fun x2_20 hM H locs hP hD hS ls hl => ?_) _ 1 0 hM _ _ hP hD hS ls (lv_sub hl [2, 3, 1, 0] rfl)
            refine lv_iload_n hx hb dX9_nameHere_106 rfl (lv_at hl 2 rfl) ?_
            refine mr_if_eq (tgt := 112) hx hb hM dX9_nameHere_107 (by decide) (fun hM => ?_) (fun hM => ?_)
            · refine mr_iinc (k := 1) (d := 1) hx hb (fun x1_21 => [(1, .int x1_21), (0, .ref qt), (2, .int x2_20)]) hM (by decide) dX9_nameHere_112 hl rfl (by decide) (fun _ => rfl) (fun x1_21 hM ls hl => ?_)
              refine lv_goto (tgt := 2) hx hb dX9_nameHere_115 (by decide) ?_
              exact ih x1_21 hM _ _ hP hD hS ls (lv_sub hl [1, 0] rfl)
            · exact hK110 x1_1 hM _ _ hP hD hS ls (lv_sub hl [1] rfl)
  refine hL2 _ _ (fun x1_22 hM H locs hP hD hS ls hl => ?_) (fun  hM H locs hP hD hS ls hl => ?_) _ 0 hM _ _ hP hD hS ls (lv_sub hl [1, 0] rfl)
  · refine lv_iload_n hx hb dX9_nameHere_110 rfl (lv_at hl 0 rfl) ?_
    have hM := Option.some.inj hM
    subst hM
    exact mr_iret hx hb hr hlocks hQ hP hD hS rfl dX9_nameHere_111
  · refine lv_bipush (v := (-4)) hx hb dX9_nameHere_118 (by decide) ?_
    have hM := Option.some.inj hM
    subst hM
    exact mr_iret hx hb hr hlocks hQ hP hD hS rfl dX9_nameHere_120

abbrev rmX9_looks : Room := { frames := 1, cells := 0, slots := 0, locals := 25 }
set_option maxHeartbeats 40000000 in
set_option maxRecDepth 100000 in
theorem k_Mod_looks (l : Launch) (D : va_G) (cI cB cZ cS cT : ClassId) (qt qt_state qt_readPage qt_tape qt_cuts qt_letters qt_queue qt_busyTo qt_servedIn qt_waysOn qt_costOn qt_aheads qt_seen qt_isKept qt_lanes qt_lengths qt_cells : Nat) (t_hasLaw t_hasCounters t_highest t_taped t_fault t_broken t_brokenAt t_spot t_here t_token t_value t_queued t_payed t_bestWait t_bestWhom t_bestCoins t_seenMany t_torn : Int32) (t_state t_readPage t_tape t_cuts t_letters t_queue t_busyTo t_servedIn t_waysOn t_costOn t_aheads t_seen t_isKept t_lanes t_lengths t_cells : Nat → Int32) (p1 p2 : Int32) (o : Int32 × Int32 × Int32) (hM : Mod_looks p1 p2 t_broken t_brokenAt t_here t_token t_value = some o) : mtI l yX9_looks wsX9_looks rmX9_looks D (tys5 cI cB cZ cS cT) [.ref qt, .int p1, .int p2] (w_Mod cI cB cZ cS cT qt qt_state qt_readPage qt_tape qt_cuts qt_letters qt_queue qt_busyTo qt_servedIn qt_waysOn qt_costOn qt_aheads qt_seen qt_isKept qt_lanes qt_lengths qt_cells t_hasLaw t_hasCounters t_highest t_taped t_fault t_broken t_brokenAt t_spot t_here t_token t_value t_queued t_payed t_bestWait t_bestWhom t_bestCoins t_seenMany t_torn t_state t_readPage t_tape t_cuts t_letters t_queue t_busyTo t_servedIn t_waysOn t_costOn t_aheads t_seen t_isKept t_lanes t_lengths t_cells) (w_Mod cI cB cZ cS cT qt qt_state qt_readPage qt_tape qt_cuts qt_letters qt_queue qt_busyTo qt_servedIn qt_waysOn qt_costOn qt_aheads qt_seen qt_isKept qt_lanes qt_lengths qt_cells t_hasLaw t_hasCounters t_highest t_taped t_fault o.2.1 o.2.2 t_spot t_here t_token t_value t_queued t_payed t_bestWait t_bestWhom t_bestCoins t_seenMany t_torn t_state t_readPage t_tape t_cuts t_letters t_queue t_busyTo t_servedIn t_waysOn t_costOn t_aheads t_seen t_isKept t_lanes t_lengths t_cells) o.1 := by
  refine mtI.of (cc := cX9_looks) (maxL := 3) (ret := (some .int)) (by decide) rfl (Nat.le_of_ble_eq_true rfl) ?_
  intro p e s m below meth c A Q av hav hQ hx hb hr hml hown hts hlocks hK hP hD hA hS ls hl
  have hown : s.vm.findClass RX9 = some m.cls := hown
  have hl : lv_has ls 3 [(0, .ref qt), (1, .int p1), (2, .int p2)] := hl
  unfold Mod_looks at hM
  have inX9w : ∀ w ∈ u_ws RX9 TX9 34, w ∈ wsX9_looks := by decide +kernel
  have hf67 := hts (.fieldLink RX9 67 "LetsInModel" "broken" "I") (by decide +kernel)
  have hf86 := hts (.fieldLink RX9 86 "LetsInModel" "value" "I") (by decide +kernel)
  have hf76 := hts (.fieldLink RX9 76 "LetsInModel" "token" "I") (by decide +kernel)
  refine lv_aload_n hx hb dX9_looks_0 rfl (lv_at hl 0 rfl) ?_
  refine va_get (D := D) (ci := 9) (v := .int t_broken) (C := RX9) (T := TX9) (N := 34) hx hb hts inX9w hown hK hP 0 rfl rfl 8 (by decide) hf67 (fun _ h9 => h9) rfl dX9_looks_1 ?_
  refine mr_jn hM (fun j20_1 => ∀ (t_broken_2 t_brokenAt_3 : Int32), j20_1 t_broken_2 t_brokenAt_3 = some o → ∀ (H : Heap) (locs : List Loc), va_P D vwCl (w_Mod cI cB cZ cS cT qt qt_state qt_readPage qt_tape qt_cuts qt_letters qt_queue qt_busyTo qt_servedIn qt_waysOn qt_costOn qt_aheads qt_seen qt_isKept qt_lanes qt_lengths qt_cells t_hasLaw t_hasCounters t_highest t_taped t_fault t_broken_2 t_brokenAt_3 t_spot t_here t_token t_value t_queued t_payed t_bestWait t_bestWhom t_bestCoins t_seenMany t_torn t_state t_readPage t_tape t_cuts t_letters t_queue t_busyTo t_servedIn t_waysOn t_costOn t_aheads t_seen t_isKept t_lanes t_lengths t_cells) H → va_D A (w_Mod cI cB cZ cS cT qt qt_state qt_readPage qt_tape qt_cuts qt_letters qt_queue qt_busyTo qt_servedIn qt_waysOn qt_costOn qt_aheads qt_seen qt_isKept qt_lanes qt_lengths qt_cells t_hasLaw t_hasCounters t_highest t_taped t_fault t_broken_2 t_brokenAt_3 t_spot t_here t_token t_value t_queued t_payed t_bestWait t_bestWhom t_bestCoins t_seenMany t_torn t_state t_readPage t_tape t_cuts t_letters t_queue t_busyTo t_servedIn t_waysOn t_costOn t_aheads t_seen t_isKept t_lanes t_lengths t_cells) → va_S A s.heap H locs → ∀ ls : Array Slot, lv_has ls 3 [(0, .ref qt), (1, .int p1), (2, .int p2)] → W p l e rmX9_looks s m av below meth c H locs 0 0 Q (F0 m 20 ls [])) (fun t_broken_2 t_brokenAt_3 hM H locs hP hD hS ls hl => ?_) (fun j20_1 hj20_1 hM => ?_)
  · refine lv_aload_n hx hb dX9_looks_20 rfl (lv_at hl 0 rfl) ?_
    refine va_get (D := D) (ci := 9) (v := .int t_broken_2) (C := RX9) (T := TX9) (N := 34) hx hb hts inX9w hown hK hP 0 rfl rfl 8 (by decide) hf67 (fun _ h9 => h9) rfl dX9_looks_21 ?_
    refine mr_jn hM (fun j47_4 => ∀ (t_broken_5 t_brokenAt_6 : Int32), j47_4 t_broken_5 t_brokenAt_6 = some o → ∀ (H : Heap) (locs : List Loc), va_P D vwCl (w_Mod cI cB cZ cS cT qt qt_state qt_readPage qt_tape qt_cuts qt_letters qt_queue qt_busyTo qt_servedIn qt_waysOn qt_costOn qt_aheads qt_seen qt_isKept qt_lanes qt_lengths qt_cells t_hasLaw t_hasCounters t_highest t_taped t_fault t_broken_5 t_brokenAt_6 t_spot t_here t_token t_value t_queued t_payed t_bestWait t_bestWhom t_bestCoins t_seenMany t_torn t_state t_readPage t_tape t_cuts t_letters t_queue t_busyTo t_servedIn t_waysOn t_costOn t_aheads t_seen t_isKept t_lanes t_lengths t_cells) H → va_D A (w_Mod cI cB cZ cS cT qt qt_state qt_readPage qt_tape qt_cuts qt_letters qt_queue qt_busyTo qt_servedIn qt_waysOn qt_costOn qt_aheads qt_seen qt_isKept qt_lanes qt_lengths qt_cells t_hasLaw t_hasCounters t_highest t_taped t_fault t_broken_5 t_brokenAt_6 t_spot t_here t_token t_value t_queued t_payed t_bestWait t_bestWhom t_bestCoins t_seenMany t_torn t_state t_readPage t_tape t_cuts t_letters t_queue t_busyTo t_servedIn t_waysOn t_costOn t_aheads t_seen t_isKept t_lanes t_lengths t_cells) → va_S A s.heap H locs → ∀ ls : Array Slot, lv_has ls 3 [(0, .ref qt), (1, .int p1)] → W p l e rmX9_looks s m av below meth c H locs 0 0 Q (F0 m 47 ls [])) (fun t_broken_5 t_brokenAt_6 hM H locs hP hD hS ls hl => ?_) (fun j47_4 hj47_4 hM => ?_)
    · refine lv_aload_n hx hb dX9_looks_47 rfl (lv_at hl 0 rfl) ?_
      refine va_get (D := D) (ci := 9) (v := .int t_broken_5) (C := RX9) (T := TX9) (N := 34) hx hb hts inX9w hown hK hP 0 rfl rfl 8 (by decide) hf67 (fun _ h9 => h9) rfl dX9_looks_48 ?_
      refine mr_if_ne (tgt := 61) hx hb hM dX9_looks_51 (by decide) (fun hM => ?_) (fun hM => ?_)
      · refine lv_iload_n hx hb dX9_looks_61 rfl (lv_at hl 1 rfl) ?_
        have hM := Option.some.inj hM
        subst hM
        exact mr_iret hx hb hr hlocks hQ hP hD hS rfl dX9_looks_62
      · refine lv_aload_n hx hb dX9_looks_54 rfl (lv_at hl 0 rfl) ?_
        refine va_get (D := D) (ci := 9) (v := .int t_value) (C := RX9) (T := TX9) (N := 34) hx hb hts inX9w hown hK hP 0 rfl rfl 13 (by decide) hf86 (fun _ h9 => h9) rfl dX9_looks_55 ?_
        refine lv_goto (tgt := 62) hx hb dX9_looks_58 (by decide) ?_
        have hM := Option.some.inj hM
        subst hM
        exact mr_iret hx hb hr hlocks hQ hP hD hS rfl dX9_looks_62
    · refine mr_if_ne (tgt := 47) hx hb hM dX9_looks_24 (by decide) (fun hM => ?_) (fun hM => ?_)
      · exact hj47_4 t_broken_2 t_brokenAt_3 hM _ _ hP hD hS ls (lv_sub hl [0, 1] rfl)
      · refine lv_aload_n hx hb dX9_looks_27 rfl (lv_at hl 0 rfl) ?_
        refine va_get (D := D) (ci := 9) (v := .int t_value) (C := RX9) (T := TX9) (N := 34) hx hb hts inX9w hown hK hP 0 rfl rfl 13 (by decide) hf86 (fun _ h9 => h9) rfl dX9_looks_28 ?_
        refine lv_i2l hx hb dX9_looks_31 rfl ?_
        refine lv_iload_n hx hb dX9_looks_32 rfl (lv_at hl 1 rfl) ?_
        refine lv_i2l hx hb dX9_looks_33 rfl ?_
        refine lv_iload_n hx hb dX9_looks_34 rfl (lv_at hl 2 rfl) ?_
        refine lv_i2l hx hb dX9_looks_35 rfl ?_
        obtain ⟨o_7, hc, hM⟩ := bind_so hM
        refine mr_callSi (As := [.long t_value.toInt64, .long p1.toInt64, .long p2.toInt64]) (rest := []) ⟨hx, hb, hml, hown, hts⟩ (k_Mod_in l D cI cB cZ cS cT   t_value.toInt64 p1.toInt64 p2.toInt64 _ hc) (cwS 3 hts gX9_looks_X9_in rfl rfl rfl (by decide +kernel) ⟨Nat.le_of_ble_eq_true rfl, Nat.le_of_ble_eq_true rfl⟩) hK hP hD hS hA rfl hl.1 rfl (Nat.le_of_ble_eq_true rfl) dX9_looks_36 ⟨Nat.zero_le _, Nat.zero_le _⟩ (fun H locs hP hS => ?_)
        refine mr_if_ne (tgt := 47) hx hb hM dX9_looks_39 (by decide) (fun hM => ?_) (fun hM => ?_)
        · exact hj47_4 t_broken_2 t_brokenAt_3 hM _ _ hP hD hS ls (lv_sub hl [0, 1] rfl)
        · refine lv_aload_n hx hb dX9_looks_42 rfl (lv_at hl 0 rfl) ?_
          refine lv_iconst (v := 3) hx hb dX9_looks_43 (by decide) ?_
          obtain ⟨o_8, hc, hM⟩ := bind_so hM
          refine mr_callVv (As := [.int 3]) (rest := []) (wr := []) ⟨hx, hb, hml, hown, hts⟩ (k_Mod_fails l D cI cB cZ cS cT qt qt_state qt_readPage qt_tape qt_cuts qt_letters qt_queue qt_busyTo qt_servedIn qt_waysOn qt_costOn qt_aheads qt_seen qt_isKept qt_lanes qt_lengths qt_cells t_hasLaw t_hasCounters t_highest t_taped t_fault t_broken_2 t_brokenAt_3 t_spot t_here t_token t_value t_queued t_payed t_bestWait t_bestWhom t_bestCoins t_seenMany t_torn t_state t_readPage t_tape t_cuts t_letters t_queue t_busyTo t_servedIn t_waysOn t_costOn t_aheads t_seen t_isKept t_lanes t_lengths t_cells 3 _ hc) (cwV 1 hts gX9_looks_X9_fails rfl rfl rfl (by decide +kernel) ⟨Nat.le_of_ble_eq_true rfl, Nat.le_of_ble_eq_true rfl⟩) hK hP hD hS hA [0, 1, 2, 3, 4, 5, 6, 7, 8, 9, 10, 11, 12, 13, 14, 15, 16] [] [0, 1, 2, 3, 4, 5, 6, 7, 8, 9, 10, 11, 12, 13, 14, 15, 16] (w_Mod cI cB cZ cS cT qt qt_state qt_readPage qt_tape qt_cuts qt_letters qt_queue qt_busyTo qt_servedIn qt_waysOn qt_costOn qt_aheads qt_seen qt_isKept qt_lanes qt_lengths qt_cells t_hasLaw t_hasCounters t_highest t_taped t_fault o_8.1 o_8.2 t_spot t_here t_token t_value t_queued t_payed t_bestWait t_bestWhom t_bestCoins t_seenMany t_torn t_state t_readPage t_tape t_cuts t_letters t_queue t_busyTo t_servedIn t_waysOn t_costOn t_aheads t_seen t_isKept t_lanes t_lengths t_cells) rfl rfl rfl rfl (by decide) rfl rfl 9 0 rfl rfl rfl rfl hl.1 rfl (Nat.le_of_ble_eq_true rfl) dX9_looks_44 ⟨Nat.zero_le _, Nat.zero_le _⟩ (fun H locs hP hD hS => ?_)
          exact hj47_4 o_8.1 o_8.2 hM _ _ hP hD hS ls (lv_sub hl [0, 1] rfl)
  · refine mr_if_ne (tgt := 20) hx hb hM dX9_looks_4 (by decide) (fun hM => ?_) (fun hM => ?_)
    · exact hj20_1 t_broken t_brokenAt hM _ _ hP hD hS ls (lv_sub hl [0, 1, 2] rfl)
    · refine lv_aload_n hx hb dX9_looks_7 rfl (lv_at hl 0 rfl) ?_
      refine va_get (D := D) (ci := 9) (v := .int t_token) (C := RX9) (T := TX9) (N := 34) hx hb hts inX9w hown hK hP 0 rfl rfl 12 (by decide) hf76 (fun _ h9 => h9) rfl dX9_looks_8 ?_
      refine lv_iconst (v := 2) hx hb dX9_looks_11 (by decide) ?_
      refine mr_icmp_eq (tgt := 20) hx hb hM dX9_looks_12 (by decide) (fun hM => ?_) (fun hM => ?_)
      · exact hj20_1 t_broken t_brokenAt hM _ _ hP hD hS ls (lv_sub hl [0, 1, 2] rfl)
      · refine lv_aload_n hx hb dX9_looks_15 rfl (lv_at hl 0 rfl) ?_
        refine lv_iconst (v := 2) hx hb dX9_looks_16 (by decide) ?_
        obtain ⟨o_9, hc, hM⟩ := bind_so hM
        refine mr_callVv (As := [.int 2]) (rest := []) (wr := []) ⟨hx, hb, hml, hown, hts⟩ (k_Mod_fails l D cI cB cZ cS cT qt qt_state qt_readPage qt_tape qt_cuts qt_letters qt_queue qt_busyTo qt_servedIn qt_waysOn qt_costOn qt_aheads qt_seen qt_isKept qt_lanes qt_lengths qt_cells t_hasLaw t_hasCounters t_highest t_taped t_fault t_broken t_brokenAt t_spot t_here t_token t_value t_queued t_payed t_bestWait t_bestWhom t_bestCoins t_seenMany t_torn t_state t_readPage t_tape t_cuts t_letters t_queue t_busyTo t_servedIn t_waysOn t_costOn t_aheads t_seen t_isKept t_lanes t_lengths t_cells 2 _ hc) (cwV 1 hts gX9_looks_X9_fails rfl rfl rfl (by decide +kernel) ⟨Nat.le_of_ble_eq_true rfl, Nat.le_of_ble_eq_true rfl⟩) hK hP hD hS hA [0, 1, 2, 3, 4, 5, 6, 7, 8, 9, 10, 11, 12, 13, 14, 15, 16] [] [0, 1, 2, 3, 4, 5, 6, 7, 8, 9, 10, 11, 12, 13, 14, 15, 16] (w_Mod cI cB cZ cS cT qt qt_state qt_readPage qt_tape qt_cuts qt_letters qt_queue qt_busyTo qt_servedIn qt_waysOn qt_costOn qt_aheads qt_seen qt_isKept qt_lanes qt_lengths qt_cells t_hasLaw t_hasCounters t_highest t_taped t_fault o_9.1 o_9.2 t_spot t_here t_token t_value t_queued t_payed t_bestWait t_bestWhom t_bestCoins t_seenMany t_torn t_state t_readPage t_tape t_cuts t_letters t_queue t_busyTo t_servedIn t_waysOn t_costOn t_aheads t_seen t_isKept t_lanes t_lengths t_cells) rfl rfl rfl rfl (by decide) rfl rfl 9 0 rfl rfl rfl rfl hl.1 rfl (Nat.le_of_ble_eq_true rfl) dX9_looks_17 ⟨Nat.zero_le _, Nat.zero_le _⟩ (fun H locs hP hD hS => ?_)
        exact hj20_1 o_9.1 o_9.2 hM _ _ hP hD hS ls (lv_sub hl [0, 1, 2] rfl)

abbrev rmX9_oneHere : Room := { frames := 2, cells := 0, slots := 0, locals := 47 }
set_option maxHeartbeats 40000000 in
set_option maxRecDepth 100000 in
theorem k_Mod_oneHere (l : Launch) (D : va_G) (cI cB cZ cS cT : ClassId) (qt qt_state qt_readPage qt_tape qt_cuts qt_letters qt_queue qt_busyTo qt_servedIn qt_waysOn qt_costOn qt_aheads qt_seen qt_isKept qt_lanes qt_lengths qt_cells : Nat) (t_hasLaw t_hasCounters t_highest t_taped t_fault t_broken t_brokenAt t_spot t_here t_token t_value t_queued t_payed t_bestWait t_bestWhom t_bestCoins t_seenMany t_torn : Int32) (t_state t_readPage t_tape t_cuts t_letters t_queue t_busyTo t_servedIn t_waysOn t_costOn t_aheads t_seen t_isKept t_lanes t_lengths t_cells : Nat → Int32)  (o : Int32 × Int32 × Int32 × Int32) (hM : Mod_oneHere t_highest t_broken t_brokenAt t_here t_token t_value = some o) : mtI l yX9_oneHere wsX9_oneHere rmX9_oneHere D (tys5 cI cB cZ cS cT) [.ref qt] (w_Mod cI cB cZ cS cT qt qt_state qt_readPage qt_tape qt_cuts qt_letters qt_queue qt_busyTo qt_servedIn qt_waysOn qt_costOn qt_aheads qt_seen qt_isKept qt_lanes qt_lengths qt_cells t_hasLaw t_hasCounters t_highest t_taped t_fault t_broken t_brokenAt t_spot t_here t_token t_value t_queued t_payed t_bestWait t_bestWhom t_bestCoins t_seenMany t_torn t_state t_readPage t_tape t_cuts t_letters t_queue t_busyTo t_servedIn t_waysOn t_costOn t_aheads t_seen t_isKept t_lanes t_lengths t_cells) (w_Mod cI cB cZ cS cT qt qt_state qt_readPage qt_tape qt_cuts qt_letters qt_queue qt_busyTo qt_servedIn qt_waysOn qt_costOn qt_aheads qt_seen qt_isKept qt_lanes qt_lengths qt_cells t_hasLaw t_hasCounters o.2.1 t_taped t_fault o.2.2.1 o.2.2.2 t_spot t_here t_token t_value t_queued t_payed t_bestWait t_bestWhom t_bestCoins t_seenMany t_torn t_state t_readPage t_tape t_cuts t_letters t_queue t_busyTo t_servedIn t_waysOn t_costOn t_aheads t_seen t_isKept t_lanes t_lengths t_cells) o.1 := by
  refine mtI.of (cc := cX9_oneHere) (maxL := 2) (ret := (some .int)) (by decide) rfl (Nat.le_of_ble_eq_true rfl) ?_
  intro p e s m below meth c A Q av hav hQ hx hb hr hml hown hts hlocks hK hP hD hA hS ls hl
  have hown : s.vm.findClass RX9 = some m.cls := hown
  have hl : lv_has ls 2 [(0, .ref qt)] := hl
  unfold Mod_oneHere at hM
  have inX9w : ∀ w ∈ u_ws RX9 TX9 34, w ∈ wsX9_oneHere := by decide +kernel
  have hf108 := hts (.fieldLink RX9 108 "LetsInModel" "highest" "I") (by decide +kernel)
  refine lv_aload_n hx hb dX9_oneHere_0 rfl (lv_at hl 0 rfl) ?_
  refine lv_iconst (v := 0) hx hb dX9_oneHere_1 (by decide) ?_
  refine lv_bipush (v := 6) hx hb dX9_oneHere_2 (by decide) ?_
  obtain ⟨o_1, hc, hM⟩ := bind_so hM
  refine mr_callVi (As := [.int 0, .int 6]) (rest := []) (wr := []) ⟨hx, hb, hml, hown, hts⟩ (k_Mod_looks l D cI cB cZ cS cT qt qt_state qt_readPage qt_tape qt_cuts qt_letters qt_queue qt_busyTo qt_servedIn qt_waysOn qt_costOn qt_aheads qt_seen qt_isKept qt_lanes qt_lengths qt_cells t_hasLaw t_hasCounters t_highest t_taped t_fault t_broken t_brokenAt t_spot t_here t_token t_value t_queued t_payed t_bestWait t_bestWhom t_bestCoins t_seenMany t_torn t_state t_readPage t_tape t_cuts t_letters t_queue t_busyTo t_servedIn t_waysOn t_costOn t_aheads t_seen t_isKept t_lanes t_lengths t_cells 0 6 _ hc) (cwV 2 hts gX9_oneHere_X9_looks rfl rfl rfl (by decide +kernel) ⟨Nat.le_of_ble_eq_true rfl, Nat.le_of_ble_eq_true rfl⟩) hK hP hD hS hA [0, 1, 2, 3, 4, 5, 6, 7, 8, 9, 10, 11, 12, 13, 14, 15, 16] [] [0, 1, 2, 3, 4, 5, 6, 7, 8, 9, 10, 11, 12, 13, 14, 15, 16] (w_Mod cI cB cZ cS cT qt qt_state qt_readPage qt_tape qt_cuts qt_letters qt_queue qt_busyTo qt_servedIn qt_waysOn qt_costOn qt_aheads qt_seen qt_isKept qt_lanes qt_lengths qt_cells t_hasLaw t_hasCounters t_highest t_taped t_fault o_1.2.1 o_1.2.2 t_spot t_here t_token t_value t_queued t_payed t_bestWait t_bestWhom t_bestCoins t_seenMany t_torn t_state t_readPage t_tape t_cuts t_letters t_queue t_busyTo t_servedIn t_waysOn t_costOn t_aheads t_seen t_isKept t_lanes t_lengths t_cells) rfl rfl rfl rfl (by decide) rfl rfl 9 0 rfl rfl rfl rfl hl.1 rfl (Nat.le_of_ble_eq_true rfl) dX9_oneHere_4 ⟨Nat.zero_le _, Nat.zero_le _⟩ (fun H locs hP hD hS => ?_)
  refine lv_istore_n (lv' := [(1, .int o_1.1), (0, .ref qt)]) hx hb dX9_oneHere_7 rfl hl (by decide) rfl (fun ls hl => ?_)
  refine lv_aload_n hx hb dX9_oneHere_8 rfl (lv_at hl 1 rfl) ?_
  refine lv_iload_n hx hb dX9_oneHere_9 rfl (lv_at hl 0 rfl) ?_
  refine lv_aload_n hx hb dX9_oneHere_10 rfl (lv_at hl 1 rfl) ?_
  refine va_get (D := D) (ci := 9) (v := .int t_highest) (C := RX9) (T := TX9) (N := 34) hx hb hts inX9w hown hK hP 0 rfl rfl 4 (by decide) hf108 (fun _ h9 => h9) rfl dX9_oneHere_11 ?_
  refine mr_icmp_le (tgt := 21) hx hb hM dX9_oneHere_14 (by decide) (fun hM => ?_) (fun hM => ?_)
  · refine lv_aload_n hx hb dX9_oneHere_21 rfl (lv_at hl 1 rfl) ?_
    refine va_get (D := D) (ci := 9) (v := .int t_highest) (C := RX9) (T := TX9) (N := 34) hx hb hts inX9w hown hK hP 0 rfl rfl 4 (by decide) hf108 (fun _ h9 => h9) rfl dX9_oneHere_22 ?_
    refine mr_put (D := D) (ci := 9) (v := .int t_highest) (ty := .int) (C := RX9) (T := TX9) (N := 34) hx hb hts inX9w tyX9 tyX9_ok nmX9 hown hK hP hD hS 0 rfl rfl 4 (by decide) hf108 (fun _ h9 => h9) rfl (by decide +kernel) rfl rfl (Nat.le_of_ble_eq_true rfl) dX9_oneHere_25 (w_Mod cI cB cZ cS cT qt qt_state qt_readPage qt_tape qt_cuts qt_letters qt_queue qt_busyTo qt_servedIn qt_waysOn qt_costOn qt_aheads qt_seen qt_isKept qt_lanes qt_lengths qt_cells t_hasLaw t_hasCounters t_highest t_taped t_fault o_1.2.1 o_1.2.2 t_spot t_here t_token t_value t_queued t_payed t_bestWait t_bestWhom t_bestCoins t_seenMany t_torn t_state t_readPage t_tape t_cuts t_letters t_queue t_busyTo t_servedIn t_waysOn t_costOn t_aheads t_seen t_isKept t_lanes t_lengths t_cells) rfl (fun H locs hP hD hS => ?_)
    refine lv_iload_n hx hb dX9_oneHere_28 rfl (lv_at hl 0 rfl) ?_
    have hM := Option.some.inj hM
    subst hM
    exact mr_iret hx hb hr hlocks hQ hP hD hS rfl dX9_oneHere_29
  · refine lv_iload_n hx hb dX9_oneHere_17 rfl (lv_at hl 0 rfl) ?_
    refine lv_goto (tgt := 25) hx hb dX9_oneHere_18 (by decide) ?_
    refine mr_put (D := D) (ci := 9) (v := .int o_1.1) (ty := .int) (C := RX9) (T := TX9) (N := 34) hx hb hts inX9w tyX9 tyX9_ok nmX9 hown hK hP hD hS 0 rfl rfl 4 (by decide) hf108 (fun _ h9 => h9) rfl (by decide +kernel) rfl rfl (Nat.le_of_ble_eq_true rfl) dX9_oneHere_25 (w_Mod cI cB cZ cS cT qt qt_state qt_readPage qt_tape qt_cuts qt_letters qt_queue qt_busyTo qt_servedIn qt_waysOn qt_costOn qt_aheads qt_seen qt_isKept qt_lanes qt_lengths qt_cells t_hasLaw t_hasCounters o_1.1 t_taped t_fault o_1.2.1 o_1.2.2 t_spot t_here t_token t_value t_queued t_payed t_bestWait t_bestWhom t_bestCoins t_seenMany t_torn t_state t_readPage t_tape t_cuts t_letters t_queue t_busyTo t_servedIn t_waysOn t_costOn t_aheads t_seen t_isKept t_lanes t_lengths t_cells) rfl (fun H locs hP hD hS => ?_)
    refine lv_iload_n hx hb dX9_oneHere_28 rfl (lv_at hl 0 rfl) ?_
    have hM := Option.some.inj hM
    subst hM
    exact mr_iret hx hb hr hlocks hQ hP hD hS rfl dX9_oneHere_29

abbrev rmX9_number : Room := { frames := 2, cells := 0, slots := 0, locals := 47 }
set_option maxHeartbeats 40000000 in
set_option maxRecDepth 100000 in
theorem k_Mod_number (l : Launch) (D : va_G) (cI cB cZ cS cT : ClassId) (qt qt_state qt_readPage qt_tape qt_cuts qt_letters qt_queue qt_busyTo qt_servedIn qt_waysOn qt_costOn qt_aheads qt_seen qt_isKept qt_lanes qt_lengths qt_cells : Nat) (t_hasLaw t_hasCounters t_highest t_taped t_fault t_broken t_brokenAt t_spot t_here t_token t_value t_queued t_payed t_bestWait t_bestWhom t_bestCoins t_seenMany t_torn : Int32) (t_state t_readPage t_tape t_cuts t_letters t_queue t_busyTo t_servedIn t_waysOn t_costOn t_aheads t_seen t_isKept t_lanes t_lengths t_cells : Nat → Int32) (p1 p2 : Int32) (o : Int32 × Int32 × Int32 × Int32 × Int32 × Int32 × Int32) (hM : Mod_number p1 p2 t_taped t_broken t_brokenAt t_spot t_here t_token t_value t_tape = some o) : mtI l yX9_number wsX9_number rmX9_number D (tys5 cI cB cZ cS cT) [.ref qt, .int p1, .int p2] (w_Mod cI cB cZ cS cT qt qt_state qt_readPage qt_tape qt_cuts qt_letters qt_queue qt_busyTo qt_servedIn qt_waysOn qt_costOn qt_aheads qt_seen qt_isKept qt_lanes qt_lengths qt_cells t_hasLaw t_hasCounters t_highest t_taped t_fault t_broken t_brokenAt t_spot t_here t_token t_value t_queued t_payed t_bestWait t_bestWhom t_bestCoins t_seenMany t_torn t_state t_readPage t_tape t_cuts t_letters t_queue t_busyTo t_servedIn t_waysOn t_costOn t_aheads t_seen t_isKept t_lanes t_lengths t_cells) (w_Mod cI cB cZ cS cT qt qt_state qt_readPage qt_tape qt_cuts qt_letters qt_queue qt_busyTo qt_servedIn qt_waysOn qt_costOn qt_aheads qt_seen qt_isKept qt_lanes qt_lengths qt_cells t_hasLaw t_hasCounters t_highest t_taped t_fault o.2.1 o.2.2.1 o.2.2.2.1 o.2.2.2.2.1 o.2.2.2.2.2.1 o.2.2.2.2.2.2 t_queued t_payed t_bestWait t_bestWhom t_bestCoins t_seenMany t_torn t_state t_readPage t_tape t_cuts t_letters t_queue t_busyTo t_servedIn t_waysOn t_costOn t_aheads t_seen t_isKept t_lanes t_lengths t_cells) o.1 := by
  refine mtI.of (cc := cX9_number) (maxL := 4) (ret := (some .int)) (by decide) rfl (Nat.le_of_ble_eq_true rfl) ?_
  intro p e s m below meth c A Q av hav hQ hx hb hr hml hown hts hlocks hK hP hD hA hS ls hl
  have hown : s.vm.findClass RX9 = some m.cls := hown
  have hl : lv_has ls 4 [(0, .ref qt), (1, .int p1), (2, .int p2)] := hl
  unfold Mod_number at hM
  refine lv_aload_n hx hb dX9_number_0 rfl (lv_at hl 0 rfl) ?_
  refine lv_iload_n hx hb dX9_number_1 rfl (lv_at hl 1 rfl) ?_
  refine lv_iload_n hx hb dX9_number_2 rfl (lv_at hl 2 rfl) ?_
  obtain ⟨o_1, hc, hM⟩ := bind_so hM
  refine mr_callVi (As := [.int p1, .int p2]) (rest := []) (wr := []) ⟨hx, hb, hml, hown, hts⟩ (k_Mod_looks l D cI cB cZ cS cT qt qt_state qt_readPage qt_tape qt_cuts qt_letters qt_queue qt_busyTo qt_servedIn qt_waysOn qt_costOn qt_aheads qt_seen qt_isKept qt_lanes qt_lengths qt_cells t_hasLaw t_hasCounters t_highest t_taped t_fault t_broken t_brokenAt t_spot t_here t_token t_value t_queued t_payed t_bestWait t_bestWhom t_bestCoins t_seenMany t_torn t_state t_readPage t_tape t_cuts t_letters t_queue t_busyTo t_servedIn t_waysOn t_costOn t_aheads t_seen t_isKept t_lanes t_lengths t_cells p1 p2 _ hc) (cwV 2 hts gX9_number_X9_looks rfl rfl rfl (by decide +kernel) ⟨Nat.le_of_ble_eq_true rfl, Nat.le_of_ble_eq_true rfl⟩) hK hP hD hS hA [0, 1, 2, 3, 4, 5, 6, 7, 8, 9, 10, 11, 12, 13, 14, 15, 16] [] [0, 1, 2, 3, 4, 5, 6, 7, 8, 9, 10, 11, 12, 13, 14, 15, 16] (w_Mod cI cB cZ cS cT qt qt_state qt_readPage qt_tape qt_cuts qt_letters qt_queue qt_busyTo qt_servedIn qt_waysOn qt_costOn qt_aheads qt_seen qt_isKept qt_lanes qt_lengths qt_cells t_hasLaw t_hasCounters t_highest t_taped t_fault o_1.2.1 o_1.2.2 t_spot t_here t_token t_value t_queued t_payed t_bestWait t_bestWhom t_bestCoins t_seenMany t_torn t_state t_readPage t_tape t_cuts t_letters t_queue t_busyTo t_servedIn t_waysOn t_costOn t_aheads t_seen t_isKept t_lanes t_lengths t_cells) rfl rfl rfl rfl (by decide) rfl rfl 9 0 rfl rfl rfl rfl hl.1 rfl (Nat.le_of_ble_eq_true rfl) dX9_number_3 ⟨Nat.zero_le _, Nat.zero_le _⟩ (fun H locs hP hD hS => ?_)
  refine lv_istore_n (lv' := [(3, .int o_1.1), (0, .ref qt), (1, .int p1), (2, .int p2)]) hx hb dX9_number_6 rfl hl (by decide) rfl (fun ls hl => ?_)
  refine lv_aload_n hx hb dX9_number_7 rfl (lv_at hl 1 rfl) ?_
  obtain ⟨o_2, hc, hM⟩ := bind_so hM
  refine mr_callVv (As := []) (rest := []) (wr := []) ⟨hx, hb, hml, hown, hts⟩ (k_Mod_step l D cI cB cZ cS cT qt qt_state qt_readPage qt_tape qt_cuts qt_letters qt_queue qt_busyTo qt_servedIn qt_waysOn qt_costOn qt_aheads qt_seen qt_isKept qt_lanes qt_lengths qt_cells t_hasLaw t_hasCounters t_highest t_taped t_fault o_1.2.1 o_1.2.2 t_spot t_here t_token t_value t_queued t_payed t_bestWait t_bestWhom t_bestCoins t_seenMany t_torn t_state t_readPage t_tape t_cuts t_letters t_queue t_busyTo t_servedIn t_waysOn t_costOn t_aheads t_seen t_isKept t_lanes t_lengths t_cells  _ hc) (cwV 0 hts gX9_number_X9_step rfl rfl rfl (by decide +kernel) ⟨Nat.le_of_ble_eq_true rfl, Nat.le_of_ble_eq_true rfl⟩) hK hP hD hS hA [0, 1, 2, 3, 4, 5, 6, 7, 8, 9, 10, 11, 12, 13, 14, 15, 16] [] [0, 1, 2, 3, 4, 5, 6, 7, 8, 9, 10, 11, 12, 13, 14, 15, 16] (w_Mod cI cB cZ cS cT qt qt_state qt_readPage qt_tape qt_cuts qt_letters qt_queue qt_busyTo qt_servedIn qt_waysOn qt_costOn qt_aheads qt_seen qt_isKept qt_lanes qt_lengths qt_cells t_hasLaw t_hasCounters t_highest t_taped t_fault o_2.1 o_2.2.1 o_2.2.2.1 o_2.2.2.2.1 o_2.2.2.2.2.1 o_2.2.2.2.2.2 t_queued t_payed t_bestWait t_bestWhom t_bestCoins t_seenMany t_torn t_state t_readPage t_tape t_cuts t_letters t_queue t_busyTo t_servedIn t_waysOn t_costOn t_aheads t_seen t_isKept t_lanes t_lengths t_cells) rfl rfl rfl rfl (by decide) rfl rfl 9 0 rfl rfl rfl rfl hl.1 rfl (Nat.le_of_ble_eq_true rfl) dX9_number_8 ⟨Nat.zero_le _, Nat.zero_le _⟩ (fun H locs hP hD hS => ?_)
  refine lv_iload_n hx hb dX9_number_11 rfl (lv_at hl 0 rfl) ?_
  have hM := Option.some.inj hM
  subst hM
  exact mr_iret hx hb hr hlocks hQ hP hD hS rfl dX9_number_12

abbrev rmX9_readOne : Room := { frames := 3, cells := 0, slots := 0, locals := 70 }
set_option maxHeartbeats 40000000 in
set_option maxRecDepth 100000 in
theorem k_Mod_readOne (l : Launch) (D : va_G) (cI cB cZ cS cT : ClassId) (qt qt_state qt_readPage qt_tape qt_cuts qt_letters qt_queue qt_busyTo qt_servedIn qt_waysOn qt_costOn qt_aheads qt_seen qt_isKept qt_lanes qt_lengths qt_cells : Nat) (t_hasLaw t_hasCounters t_highest t_taped t_fault t_broken t_brokenAt t_spot t_here t_token t_value t_queued t_payed t_bestWait t_bestWhom t_bestCoins t_seenMany t_torn : Int32) (t_state t_readPage t_tape t_cuts t_letters t_queue t_busyTo t_servedIn t_waysOn t_costOn t_aheads t_seen t_isKept t_lanes t_lengths t_cells : Nat → Int32)  (o : Int32 × Int32 × Int32 × Int32 × Int32 × Int32 × Int32 × (Nat → Int32)) (hM : Mod_readOne t_highest t_taped t_broken t_brokenAt t_spot t_here t_token t_value t_readPage t_tape t_cuts t_letters = some o) : mtV l yX9_readOne wsX9_readOne rmX9_readOne D (tys5 cI cB cZ cS cT) [.ref qt] (w_Mod cI cB cZ cS cT qt qt_state qt_readPage qt_tape qt_cuts qt_letters qt_queue qt_busyTo qt_servedIn qt_waysOn qt_costOn qt_aheads qt_seen qt_isKept qt_lanes qt_lengths qt_cells t_hasLaw t_hasCounters t_highest t_taped t_fault t_broken t_brokenAt t_spot t_here t_token t_value t_queued t_payed t_bestWait t_bestWhom t_bestCoins t_seenMany t_torn t_state t_readPage t_tape t_cuts t_letters t_queue t_busyTo t_servedIn t_waysOn t_costOn t_aheads t_seen t_isKept t_lanes t_lengths t_cells) (w_Mod cI cB cZ cS cT qt qt_state qt_readPage qt_tape qt_cuts qt_letters qt_queue qt_busyTo qt_servedIn qt_waysOn qt_costOn qt_aheads qt_seen qt_isKept qt_lanes qt_lengths qt_cells t_hasLaw t_hasCounters o.1 t_taped t_fault o.2.1 o.2.2.1 o.2.2.2.1 o.2.2.2.2.1 o.2.2.2.2.2.1 o.2.2.2.2.2.2.1 t_queued t_payed t_bestWait t_bestWhom t_bestCoins t_seenMany t_torn t_state o.2.2.2.2.2.2.2 t_tape t_cuts t_letters t_queue t_busyTo t_servedIn t_waysOn t_costOn t_aheads t_seen t_isKept t_lanes t_lengths t_cells) := by
  refine mtV.of (cc := cX9_readOne) (maxL := 4) (ret := none) (by decide) rfl (Nat.le_of_ble_eq_true rfl) ?_
  intro p e s m below meth c A Q av hav hQ hx hb hr hml hown hts hlocks hK hP hD hA hS ls hl
  have hown : s.vm.findClass RX9 = some m.cls := hown
  have hl : lv_has ls 4 [(0, .ref qt)] := hl
  unfold Mod_readOne at hM
  have inX9w : ∀ w ∈ u_ws RX9 TX9 34, w ∈ wsX9_readOne := by decide +kernel
  have hf13 := hts (.fieldLink RX9 13 "LetsInModel" "readPage" "[I") (by decide +kernel)
  have hf67 := hts (.fieldLink RX9 67 "LetsInModel" "broken" "I") (by decide +kernel)
  have hf86 := hts (.fieldLink RX9 86 "LetsInModel" "value" "I") (by decide +kernel)
  refine lv_aload_n hx hb dX9_readOne_0 rfl (lv_at hl 0 rfl) ?_
  refine va_get (D := D) (ci := 9) (v := .ref qt_readPage) (C := RX9) (T := TX9) (N := 34) hx hb hts inX9w hown hK hP 0 rfl rfl 1 (by decide) hf13 (fun _ h9 => h9) rfl dX9_readOne_1 ?_
  refine lv_bipush (v := 93) hx hb dX9_readOne_4 (by decide) ?_
  refine mr_iald hx hb hK hP 2 0 rfl rfl hM dX9_readOne_6 (fun v_1 hM => ?_)
  refine lv_istore_n (lv' := [(1, .int v_1), (0, .ref qt)]) hx hb dX9_readOne_7 rfl hl (by decide) rfl (fun ls hl => ?_)
  refine lv_iload_n hx hb dX9_readOne_8 rfl (lv_at hl 0 rfl) ?_
  refine lv_bipush (v := 7) hx hb dX9_readOne_9 (by decide) ?_
  refine mr_icmp_ne (tgt := 20) hx hb hM dX9_readOne_11 (by decide) (fun hM => ?_) (fun hM => ?_)
  · refine lv_aload_n hx hb dX9_readOne_20 rfl (lv_at hl 1 rfl) ?_
    obtain ⟨o_2, hc, hM⟩ := bind_so hM
    refine mr_callVv (As := []) (rest := []) (wr := []) ⟨hx, hb, hml, hown, hts⟩ (k_Mod_step l D cI cB cZ cS cT qt qt_state qt_readPage qt_tape qt_cuts qt_letters qt_queue qt_busyTo qt_servedIn qt_waysOn qt_costOn qt_aheads qt_seen qt_isKept qt_lanes qt_lengths qt_cells t_hasLaw t_hasCounters t_highest t_taped t_fault t_broken t_brokenAt t_spot t_here t_token t_value t_queued t_payed t_bestWait t_bestWhom t_bestCoins t_seenMany t_torn t_state t_readPage t_tape t_cuts t_letters t_queue t_busyTo t_servedIn t_waysOn t_costOn t_aheads t_seen t_isKept t_lanes t_lengths t_cells  _ hc) (cwV 0 hts gX9_readOne_X9_step rfl rfl rfl (by decide +kernel) ⟨Nat.le_of_ble_eq_true rfl, Nat.le_of_ble_eq_true rfl⟩) hK hP hD hS hA [0, 1, 2, 3, 4, 5, 6, 7, 8, 9, 10, 11, 12, 13, 14, 15, 16] [] [0, 1, 2, 3, 4, 5, 6, 7, 8, 9, 10, 11, 12, 13, 14, 15, 16] (w_Mod cI cB cZ cS cT qt qt_state qt_readPage qt_tape qt_cuts qt_letters qt_queue qt_busyTo qt_servedIn qt_waysOn qt_costOn qt_aheads qt_seen qt_isKept qt_lanes qt_lengths qt_cells t_hasLaw t_hasCounters t_highest t_taped t_fault o_2.1 o_2.2.1 o_2.2.2.1 o_2.2.2.2.1 o_2.2.2.2.2.1 o_2.2.2.2.2.2 t_queued t_payed t_bestWait t_bestWhom t_bestCoins t_seenMany t_torn t_state t_readPage t_tape t_cuts t_letters t_queue t_busyTo t_servedIn t_waysOn t_costOn t_aheads t_seen t_isKept t_lanes t_lengths t_cells) rfl rfl rfl rfl (by decide) rfl rfl 9 0 rfl rfl rfl rfl hl.1 rfl (Nat.le_of_ble_eq_true rfl) dX9_readOne_21 ⟨Nat.zero_le _, Nat.zero_le _⟩ (fun H locs hP hD hS => ?_)
    refine lv_aload_n hx hb dX9_readOne_24 rfl (lv_at hl 1 rfl) ?_
    obtain ⟨o_3, hc, hM⟩ := bind_so hM
    refine mr_callVi (As := []) (rest := []) (wr := []) ⟨hx, hb, hml, hown, hts⟩ (k_Mod_nameHere l D cI cB cZ cS cT qt qt_state qt_readPage qt_tape qt_cuts qt_letters qt_queue qt_busyTo qt_servedIn qt_waysOn qt_costOn qt_aheads qt_seen qt_isKept qt_lanes qt_lengths qt_cells t_hasLaw t_hasCounters t_highest t_taped t_fault o_2.1 o_2.2.1 o_2.2.2.1 o_2.2.2.2.1 o_2.2.2.2.2.1 o_2.2.2.2.2.2 t_queued t_payed t_bestWait t_bestWhom t_bestCoins t_seenMany t_torn t_state t_readPage t_tape t_cuts t_letters t_queue t_busyTo t_servedIn t_waysOn t_costOn t_aheads t_seen t_isKept t_lanes t_lengths t_cells  _ hc) (cwV 0 hts gX9_readOne_X9_nameHere rfl rfl rfl (by decide +kernel) ⟨Nat.le_of_ble_eq_true rfl, Nat.le_of_ble_eq_true rfl⟩) hK hP hD hS hA [0, 1, 2, 3, 4, 5, 6, 7, 8, 9, 10, 11, 12, 13, 14, 15, 16] [] [0, 1, 2, 3, 4, 5, 6, 7, 8, 9, 10, 11, 12, 13, 14, 15, 16] (w_Mod cI cB cZ cS cT qt qt_state qt_readPage qt_tape qt_cuts qt_letters qt_queue qt_busyTo qt_servedIn qt_waysOn qt_costOn qt_aheads qt_seen qt_isKept qt_lanes qt_lengths qt_cells t_hasLaw t_hasCounters t_highest t_taped t_fault o_2.1 o_2.2.1 o_2.2.2.1 o_2.2.2.2.1 o_2.2.2.2.2.1 o_2.2.2.2.2.2 t_queued t_payed t_bestWait t_bestWhom t_bestCoins t_seenMany t_torn t_state t_readPage t_tape t_cuts t_letters t_queue t_busyTo t_servedIn t_waysOn t_costOn t_aheads t_seen t_isKept t_lanes t_lengths t_cells) rfl rfl rfl rfl (by decide) rfl rfl 9 0 rfl rfl rfl rfl hl.1 rfl (Nat.le_of_ble_eq_true rfl) dX9_readOne_25 ⟨Nat.zero_le _, Nat.zero_le _⟩ (fun H locs hP hD hS => ?_)
    refine lv_iconst (v := 4) hx hb dX9_readOne_28 (by decide) ?_
    refine lv_isub hx hb dX9_readOne_29 ?_
    refine mr_nmI hM (fun x2_4 hM => ?_)
    refine lv_istore_n (lv' := [(2, .int x2_4), (1, .int v_1), (0, .ref qt)]) hx hb dX9_readOne_30 rfl hl (by decide) rfl (fun ls hl => ?_)
    refine lv_iload_n hx hb dX9_readOne_31 rfl (lv_at hl 0 rfl) ?_
    refine mr_if_ge (tgt := 41) hx hb hM dX9_readOne_32 (by decide) (fun hM => ?_) (fun hM => ?_)
    · refine lv_aload_n hx hb dX9_readOne_41 rfl (lv_at hl 2 rfl) ?_
      obtain ⟨o_5, hc, hM⟩ := bind_so hM
      refine mr_callVv (As := []) (rest := []) (wr := []) ⟨hx, hb, hml, hown, hts⟩ (k_Mod_step l D cI cB cZ cS cT qt qt_state qt_readPage qt_tape qt_cuts qt_letters qt_queue qt_busyTo qt_servedIn qt_waysOn qt_costOn qt_aheads qt_seen qt_isKept qt_lanes qt_lengths qt_cells t_hasLaw t_hasCounters t_highest t_taped t_fault o_2.1 o_2.2.1 o_2.2.2.1 o_2.2.2.2.1 o_2.2.2.2.2.1 o_2.2.2.2.2.2 t_queued t_payed t_bestWait t_bestWhom t_bestCoins t_seenMany t_torn t_state t_readPage t_tape t_cuts t_letters t_queue t_busyTo t_servedIn t_waysOn t_costOn t_aheads t_seen t_isKept t_lanes t_lengths t_cells  _ hc) (cwV 0 hts gX9_readOne_X9_step rfl rfl rfl (by decide +kernel) ⟨Nat.le_of_ble_eq_true rfl, Nat.le_of_ble_eq_true rfl⟩) hK hP hD hS hA [0, 1, 2, 3, 4, 5, 6, 7, 8, 9, 10, 11, 12, 13, 14, 15, 16] [] [0, 1, 2, 3, 4, 5, 6, 7, 8, 9, 10, 11, 12, 13, 14, 15, 16] (w_Mod cI cB cZ cS cT qt qt_state qt_readPage qt_tape qt_cuts qt_letters qt_queue qt_busyTo qt_servedIn qt_waysOn qt_costOn qt_aheads qt_seen qt_isKept qt_lanes qt_lengths qt_cells t_hasLaw t_hasCounters t_highest t_taped t_fault o_5.1 o_5.2.1 o_5.2.2.1 o_5.2.2.2.1 o_5.2.2.2.2.1 o_5.2.2.2.2.2 t_queued t_payed t_bestWait t_bestWhom t_bestCoins t_seenMany t_torn t_state t_readPage t_tape t_cuts t_letters t_queue t_busyTo t_servedIn t_waysOn t_costOn t_aheads t_seen t_isKept t_lanes t_lengths t_cells) rfl rfl rfl rfl (by decide) rfl rfl 9 0 rfl rfl rfl rfl hl.1 rfl (Nat.le_of_ble_eq_true rfl) dX9_readOne_42 ⟨Nat.zero_le _, Nat.zero_le _⟩ (fun H locs hP hD hS => ?_)
      refine lv_bipush (v := 6) hx hb dX9_readOne_45 (by decide) ?_
      refine lv_iload_n hx hb dX9_readOne_47 rfl (lv_at hl 1 rfl) ?_
      refine lv_imul hx hb dX9_readOne_48 ?_
      refine mr_nmI hM (fun x3_6 hM => ?_)
      refine lv_istore_n (lv' := [(3, .int x3_6), (2, .int x2_4), (1, .int v_1), (0, .ref qt)]) hx hb dX9_readOne_49 rfl hl (by decide) rfl (fun ls hl => ?_)
      refine lv_aload_n hx hb dX9_readOne_50 rfl (lv_at hl 3 rfl) ?_
      refine va_get (D := D) (ci := 9) (v := .ref qt_readPage) (C := RX9) (T := TX9) (N := 34) hx hb hts inX9w hown hK hP 0 rfl rfl 1 (by decide) hf13 (fun _ h9 => h9) rfl dX9_readOne_51 ?_
      refine lv_iload_n hx hb dX9_readOne_54 rfl (lv_at hl 0 rfl) ?_
      refine lv_iload_n hx hb dX9_readOne_55 rfl (lv_at hl 1 rfl) ?_
      refine mr_iast hx hb hK hP hD hS 2 0 (fun t_readPage_7 => (w_Mod cI cB cZ cS cT qt qt_state qt_readPage qt_tape qt_cuts qt_letters qt_queue qt_busyTo qt_servedIn qt_waysOn qt_costOn qt_aheads qt_seen qt_isKept qt_lanes qt_lengths qt_cells t_hasLaw t_hasCounters t_highest t_taped t_fault o_5.1 o_5.2.1 o_5.2.2.1 o_5.2.2.2.1 o_5.2.2.2.2.1 o_5.2.2.2.2.2 t_queued t_payed t_bestWait t_bestWhom t_bestCoins t_seenMany t_torn t_state t_readPage_7 t_tape t_cuts t_letters t_queue t_busyTo t_servedIn t_waysOn t_costOn t_aheads t_seen t_isKept t_lanes t_lengths t_cells)) rfl rfl (fun _ => rfl) hM dX9_readOne_56 (fun t_readPage_7 hM H locs hP hD hS => ?_)
      refine lv_aload_n hx hb dX9_readOne_57 rfl (lv_at hl 3 rfl) ?_
      refine va_get (D := D) (ci := 9) (v := .ref qt_readPage) (C := RX9) (T := TX9) (N := 34) hx hb hts inX9w hown hK hP 0 rfl rfl 1 (by decide) hf13 (fun _ h9 => h9) rfl dX9_readOne_58 ?_
      refine lv_iload_n hx hb dX9_readOne_61 rfl (lv_at hl 0 rfl) ?_
      refine lv_iconst (v := 5) hx hb dX9_readOne_62 (by decide) ?_
      refine lv_iadd hx hb dX9_readOne_63 ?_
      refine lv_bipush (v := (-4)) hx hb dX9_readOne_64 (by decide) ?_
      refine mr_iast hx hb hK hP hD hS 2 0 (fun t_readPage_8 => (w_Mod cI cB cZ cS cT qt qt_state qt_readPage qt_tape qt_cuts qt_letters qt_queue qt_busyTo qt_servedIn qt_waysOn qt_costOn qt_aheads qt_seen qt_isKept qt_lanes qt_lengths qt_cells t_hasLaw t_hasCounters t_highest t_taped t_fault o_5.1 o_5.2.1 o_5.2.2.1 o_5.2.2.2.1 o_5.2.2.2.2.1 o_5.2.2.2.2.2 t_queued t_payed t_bestWait t_bestWhom t_bestCoins t_seenMany t_torn t_state t_readPage_8 t_tape t_cuts t_letters t_queue t_busyTo t_servedIn t_waysOn t_costOn t_aheads t_seen t_isKept t_lanes t_lengths t_cells)) rfl rfl (fun _ => rfl) hM dX9_readOne_66 (fun t_readPage_8 hM H locs hP hD hS => ?_)
      refine lv_iload_n hx hb dX9_readOne_67 rfl (lv_at hl 1 rfl) ?_
      refine lv_iconst (v := 4) hx hb dX9_readOne_68 (by decide) ?_
      refine mr_jn hM (fun j108_9 => ∀ (t_highest_10 t_broken_11 t_brokenAt_12 t_spot_13 t_here_14 t_token_15 t_value_16 : Int32) (t_readPage_17 : Nat → Int32), j108_9 t_highest_10 t_broken_11 t_brokenAt_12 t_spot_13 t_here_14 t_token_15 t_value_16 t_readPage_17 = some o → ∀ (H : Heap) (locs : List Loc), va_P D vwCl (w_Mod cI cB cZ cS cT qt qt_state qt_readPage qt_tape qt_cuts qt_letters qt_queue qt_busyTo qt_servedIn qt_waysOn qt_costOn qt_aheads qt_seen qt_isKept qt_lanes qt_lengths qt_cells t_hasLaw t_hasCounters t_highest_10 t_taped t_fault t_broken_11 t_brokenAt_12 t_spot_13 t_here_14 t_token_15 t_value_16 t_queued t_payed t_bestWait t_bestWhom t_bestCoins t_seenMany t_torn t_state t_readPage_17 t_tape t_cuts t_letters t_queue t_busyTo t_servedIn t_waysOn t_costOn t_aheads t_seen t_isKept t_lanes t_lengths t_cells) H → va_D A (w_Mod cI cB cZ cS cT qt qt_state qt_readPage qt_tape qt_cuts qt_letters qt_queue qt_busyTo qt_servedIn qt_waysOn qt_costOn qt_aheads qt_seen qt_isKept qt_lanes qt_lengths qt_cells t_hasLaw t_hasCounters t_highest_10 t_taped t_fault t_broken_11 t_brokenAt_12 t_spot_13 t_here_14 t_token_15 t_value_16 t_queued t_payed t_bestWait t_bestWhom t_bestCoins t_seenMany t_torn t_state t_readPage_17 t_tape t_cuts t_letters t_queue t_busyTo t_servedIn t_waysOn t_costOn t_aheads t_seen t_isKept t_lanes t_lengths t_cells) → va_S A s.heap H locs → ∀ ls : Array Slot, lv_has ls 4 [(0, .ref qt), (3, .int x3_6)] → W p l e rmX9_readOne s m av below meth c H locs 0 0 Q (F0 m 108 ls [])) (fun t_highest_10 t_broken_11 t_brokenAt_12 t_spot_13 t_here_14 t_token_15 t_value_16 t_readPage_17 hM H locs hP hD hS ls hl => ?_) (fun j108_9 hj108_9 hM => ?_)
      · refine lv_aload_n hx hb dX9_readOne_108 rfl (lv_at hl 0 rfl) ?_
        refine va_get (D := D) (ci := 9) (v := .ref qt_readPage) (C := RX9) (T := TX9) (N := 34) hx hb hts inX9w hown hK hP 0 rfl rfl 1 (by decide) hf13 (fun _ h9 => h9) rfl dX9_readOne_109 ?_
        refine lv_iload_n hx hb dX9_readOne_112 rfl (lv_at hl 1 rfl) ?_
        refine lv_iconst (v := 1) hx hb dX9_readOne_113 (by decide) ?_
        refine lv_iadd hx hb dX9_readOne_114 ?_
        refine lv_aload_n hx hb dX9_readOne_115 rfl (lv_at hl 0 rfl) ?_
        refine lv_iconst (v := 0) hx hb dX9_readOne_116 (by decide) ?_
        refine lv_bipush (v := 60) hx hb dX9_readOne_117 (by decide) ?_
        obtain ⟨o_18, hc, hM⟩ := bind_so hM
        refine mr_callVi (As := [.int 0, .int 60]) (rest := [.int (x3_6 + 1), .ref qt_readPage]) (wr := []) ⟨hx, hb, hml, hown, hts⟩ (k_Mod_number l D cI cB cZ cS cT qt qt_state qt_readPage qt_tape qt_cuts qt_letters qt_queue qt_busyTo qt_servedIn qt_waysOn qt_costOn qt_aheads qt_seen qt_isKept qt_lanes qt_lengths qt_cells t_hasLaw t_hasCounters t_highest_10 t_taped t_fault t_broken_11 t_brokenAt_12 t_spot_13 t_here_14 t_token_15 t_value_16 t_queued t_payed t_bestWait t_bestWhom t_bestCoins t_seenMany t_torn t_state t_readPage_17 t_tape t_cuts t_letters t_queue t_busyTo t_servedIn t_waysOn t_costOn t_aheads t_seen t_isKept t_lanes t_lengths t_cells 0 60 _ hc) (cwV 2 hts gX9_readOne_X9_number rfl rfl rfl (by decide +kernel) ⟨Nat.le_of_ble_eq_true rfl, Nat.le_of_ble_eq_true rfl⟩) hK hP hD hS hA [0, 1, 2, 3, 4, 5, 6, 7, 8, 9, 10, 11, 12, 13, 14, 15, 16] [] [0, 1, 2, 3, 4, 5, 6, 7, 8, 9, 10, 11, 12, 13, 14, 15, 16] (w_Mod cI cB cZ cS cT qt qt_state qt_readPage qt_tape qt_cuts qt_letters qt_queue qt_busyTo qt_servedIn qt_waysOn qt_costOn qt_aheads qt_seen qt_isKept qt_lanes qt_lengths qt_cells t_hasLaw t_hasCounters t_highest_10 t_taped t_fault o_18.2.1 o_18.2.2.1 o_18.2.2.2.1 o_18.2.2.2.2.1 o_18.2.2.2.2.2.1 o_18.2.2.2.2.2.2 t_queued t_payed t_bestWait t_bestWhom t_bestCoins t_seenMany t_torn t_state t_readPage_17 t_tape t_cuts t_letters t_queue t_busyTo t_servedIn t_waysOn t_costOn t_aheads t_seen t_isKept t_lanes t_lengths t_cells) rfl rfl rfl rfl (by decide) rfl rfl 9 0 rfl rfl rfl rfl hl.1 rfl (Nat.le_of_ble_eq_true rfl) dX9_readOne_119 ⟨Nat.zero_le _, Nat.zero_le _⟩ (fun H locs hP hD hS => ?_)
        refine mr_iast hx hb hK hP hD hS 2 0 (fun t_readPage_19 => (w_Mod cI cB cZ cS cT qt qt_state qt_readPage qt_tape qt_cuts qt_letters qt_queue qt_busyTo qt_servedIn qt_waysOn qt_costOn qt_aheads qt_seen qt_isKept qt_lanes qt_lengths qt_cells t_hasLaw t_hasCounters t_highest_10 t_taped t_fault o_18.2.1 o_18.2.2.1 o_18.2.2.2.1 o_18.2.2.2.2.1 o_18.2.2.2.2.2.1 o_18.2.2.2.2.2.2 t_queued t_payed t_bestWait t_bestWhom t_bestCoins t_seenMany t_torn t_state t_readPage_19 t_tape t_cuts t_letters t_queue t_busyTo t_servedIn t_waysOn t_costOn t_aheads t_seen t_isKept t_lanes t_lengths t_cells)) rfl rfl (fun _ => rfl) hM dX9_readOne_122 (fun t_readPage_19 hM H locs hP hD hS => ?_)
        refine lv_aload_n hx hb dX9_readOne_123 rfl (lv_at hl 0 rfl) ?_
        refine va_get (D := D) (ci := 9) (v := .ref qt_readPage) (C := RX9) (T := TX9) (N := 34) hx hb hts inX9w hown hK hP 0 rfl rfl 1 (by decide) hf13 (fun _ h9 => h9) rfl dX9_readOne_124 ?_
        refine lv_iload_n hx hb dX9_readOne_127 rfl (lv_at hl 1 rfl) ?_
        refine lv_iconst (v := 2) hx hb dX9_readOne_128 (by decide) ?_
        refine lv_iadd hx hb dX9_readOne_129 ?_
        refine lv_aload_n hx hb dX9_readOne_130 rfl (lv_at hl 0 rfl) ?_
        refine lv_iconst (v := 1) hx hb dX9_readOne_131 (by decide) ?_
        refine lv_bipush (v := 9) hx hb dX9_readOne_132 (by decide) ?_
        obtain ⟨o_20, hc, hM⟩ := bind_so hM
        refine mr_callVi (As := [.int 1, .int 9]) (rest := [.int (x3_6 + 2), .ref qt_readPage]) (wr := []) ⟨hx, hb, hml, hown, hts⟩ (k_Mod_number l D cI cB cZ cS cT qt qt_state qt_readPage qt_tape qt_cuts qt_letters qt_queue qt_busyTo qt_servedIn qt_waysOn qt_costOn qt_aheads qt_seen qt_isKept qt_lanes qt_lengths qt_cells t_hasLaw t_hasCounters t_highest_10 t_taped t_fault o_18.2.1 o_18.2.2.1 o_18.2.2.2.1 o_18.2.2.2.2.1 o_18.2.2.2.2.2.1 o_18.2.2.2.2.2.2 t_queued t_payed t_bestWait t_bestWhom t_bestCoins t_seenMany t_torn t_state t_readPage_19 t_tape t_cuts t_letters t_queue t_busyTo t_servedIn t_waysOn t_costOn t_aheads t_seen t_isKept t_lanes t_lengths t_cells 1 9 _ hc) (cwV 2 hts gX9_readOne_X9_number rfl rfl rfl (by decide +kernel) ⟨Nat.le_of_ble_eq_true rfl, Nat.le_of_ble_eq_true rfl⟩) hK hP hD hS hA [0, 1, 2, 3, 4, 5, 6, 7, 8, 9, 10, 11, 12, 13, 14, 15, 16] [] [0, 1, 2, 3, 4, 5, 6, 7, 8, 9, 10, 11, 12, 13, 14, 15, 16] (w_Mod cI cB cZ cS cT qt qt_state qt_readPage qt_tape qt_cuts qt_letters qt_queue qt_busyTo qt_servedIn qt_waysOn qt_costOn qt_aheads qt_seen qt_isKept qt_lanes qt_lengths qt_cells t_hasLaw t_hasCounters t_highest_10 t_taped t_fault o_20.2.1 o_20.2.2.1 o_20.2.2.2.1 o_20.2.2.2.2.1 o_20.2.2.2.2.2.1 o_20.2.2.2.2.2.2 t_queued t_payed t_bestWait t_bestWhom t_bestCoins t_seenMany t_torn t_state t_readPage_19 t_tape t_cuts t_letters t_queue t_busyTo t_servedIn t_waysOn t_costOn t_aheads t_seen t_isKept t_lanes t_lengths t_cells) rfl rfl rfl rfl (by decide) rfl rfl 9 0 rfl rfl rfl rfl hl.1 rfl (Nat.le_of_ble_eq_true rfl) dX9_readOne_134 ⟨Nat.zero_le _, Nat.zero_le _⟩ (fun H locs hP hD hS => ?_)
        refine mr_iast hx hb hK hP hD hS 2 0 (fun t_readPage_21 => (w_Mod cI cB cZ cS cT qt qt_state qt_readPage qt_tape qt_cuts qt_letters qt_queue qt_busyTo qt_servedIn qt_waysOn qt_costOn qt_aheads qt_seen qt_isKept qt_lanes qt_lengths qt_cells t_hasLaw t_hasCounters t_highest_10 t_taped t_fault o_20.2.1 o_20.2.2.1 o_20.2.2.2.1 o_20.2.2.2.2.1 o_20.2.2.2.2.2.1 o_20.2.2.2.2.2.2 t_queued t_payed t_bestWait t_bestWhom t_bestCoins t_seenMany t_torn t_state t_readPage_21 t_tape t_cuts t_letters t_queue t_busyTo t_servedIn t_waysOn t_costOn t_aheads t_seen t_isKept t_lanes t_lengths t_cells)) rfl rfl (fun _ => rfl) hM dX9_readOne_137 (fun t_readPage_21 hM H locs hP hD hS => ?_)
        refine lv_aload_n hx hb dX9_readOne_138 rfl (lv_at hl 0 rfl) ?_
        refine va_get (D := D) (ci := 9) (v := .ref qt_readPage) (C := RX9) (T := TX9) (N := 34) hx hb hts inX9w hown hK hP 0 rfl rfl 1 (by decide) hf13 (fun _ h9 => h9) rfl dX9_readOne_139 ?_
        refine lv_iload_n hx hb dX9_readOne_142 rfl (lv_at hl 1 rfl) ?_
        refine lv_iconst (v := 3) hx hb dX9_readOne_143 (by decide) ?_
        refine lv_iadd hx hb dX9_readOne_144 ?_
        refine lv_aload_n hx hb dX9_readOne_145 rfl (lv_at hl 0 rfl) ?_
        refine lv_iconst (v := 0) hx hb dX9_readOne_146 (by decide) ?_
        refine lv_bipush (v := 9) hx hb dX9_readOne_147 (by decide) ?_
        obtain ⟨o_22, hc, hM⟩ := bind_so hM
        refine mr_callVi (As := [.int 0, .int 9]) (rest := [.int (x3_6 + 3), .ref qt_readPage]) (wr := []) ⟨hx, hb, hml, hown, hts⟩ (k_Mod_number l D cI cB cZ cS cT qt qt_state qt_readPage qt_tape qt_cuts qt_letters qt_queue qt_busyTo qt_servedIn qt_waysOn qt_costOn qt_aheads qt_seen qt_isKept qt_lanes qt_lengths qt_cells t_hasLaw t_hasCounters t_highest_10 t_taped t_fault o_20.2.1 o_20.2.2.1 o_20.2.2.2.1 o_20.2.2.2.2.1 o_20.2.2.2.2.2.1 o_20.2.2.2.2.2.2 t_queued t_payed t_bestWait t_bestWhom t_bestCoins t_seenMany t_torn t_state t_readPage_21 t_tape t_cuts t_letters t_queue t_busyTo t_servedIn t_waysOn t_costOn t_aheads t_seen t_isKept t_lanes t_lengths t_cells 0 9 _ hc) (cwV 2 hts gX9_readOne_X9_number rfl rfl rfl (by decide +kernel) ⟨Nat.le_of_ble_eq_true rfl, Nat.le_of_ble_eq_true rfl⟩) hK hP hD hS hA [0, 1, 2, 3, 4, 5, 6, 7, 8, 9, 10, 11, 12, 13, 14, 15, 16] [] [0, 1, 2, 3, 4, 5, 6, 7, 8, 9, 10, 11, 12, 13, 14, 15, 16] (w_Mod cI cB cZ cS cT qt qt_state qt_readPage qt_tape qt_cuts qt_letters qt_queue qt_busyTo qt_servedIn qt_waysOn qt_costOn qt_aheads qt_seen qt_isKept qt_lanes qt_lengths qt_cells t_hasLaw t_hasCounters t_highest_10 t_taped t_fault o_22.2.1 o_22.2.2.1 o_22.2.2.2.1 o_22.2.2.2.2.1 o_22.2.2.2.2.2.1 o_22.2.2.2.2.2.2 t_queued t_payed t_bestWait t_bestWhom t_bestCoins t_seenMany t_torn t_state t_readPage_21 t_tape t_cuts t_letters t_queue t_busyTo t_servedIn t_waysOn t_costOn t_aheads t_seen t_isKept t_lanes t_lengths t_cells) rfl rfl rfl rfl (by decide) rfl rfl 9 0 rfl rfl rfl rfl hl.1 rfl (Nat.le_of_ble_eq_true rfl) dX9_readOne_149 ⟨Nat.zero_le _, Nat.zero_le _⟩ (fun H locs hP hD hS => ?_)
        refine mr_iast hx hb hK hP hD hS 2 0 (fun t_readPage_23 => (w_Mod cI cB cZ cS cT qt qt_state qt_readPage qt_tape qt_cuts qt_letters qt_queue qt_busyTo qt_servedIn qt_waysOn qt_costOn qt_aheads qt_seen qt_isKept qt_lanes qt_lengths qt_cells t_hasLaw t_hasCounters t_highest_10 t_taped t_fault o_22.2.1 o_22.2.2.1 o_22.2.2.2.1 o_22.2.2.2.2.1 o_22.2.2.2.2.2.1 o_22.2.2.2.2.2.2 t_queued t_payed t_bestWait t_bestWhom t_bestCoins t_seenMany t_torn t_state t_readPage_23 t_tape t_cuts t_letters t_queue t_busyTo t_servedIn t_waysOn t_costOn t_aheads t_seen t_isKept t_lanes t_lengths t_cells)) rfl rfl (fun _ => rfl) hM dX9_readOne_152 (fun t_readPage_23 hM H locs hP hD hS => ?_)
        refine lv_aload_n hx hb dX9_readOne_153 rfl (lv_at hl 0 rfl) ?_
        refine va_get (D := D) (ci := 9) (v := .ref qt_readPage) (C := RX9) (T := TX9) (N := 34) hx hb hts inX9w hown hK hP 0 rfl rfl 1 (by decide) hf13 (fun _ h9 => h9) rfl dX9_readOne_154 ?_
        refine lv_iload_n hx hb dX9_readOne_157 rfl (lv_at hl 1 rfl) ?_
        refine lv_iconst (v := 4) hx hb dX9_readOne_158 (by decide) ?_
        refine lv_iadd hx hb dX9_readOne_159 ?_
        refine lv_aload_n hx hb dX9_readOne_160 rfl (lv_at hl 0 rfl) ?_
        refine lv_iconst (v := 0) hx hb dX9_readOne_161 (by decide) ?_
        refine lv_bipush (v := 50) hx hb dX9_readOne_162 (by decide) ?_
        obtain ⟨o_24, hc, hM⟩ := bind_so hM
        refine mr_callVi (As := [.int 0, .int 50]) (rest := [.int (x3_6 + 4), .ref qt_readPage]) (wr := []) ⟨hx, hb, hml, hown, hts⟩ (k_Mod_number l D cI cB cZ cS cT qt qt_state qt_readPage qt_tape qt_cuts qt_letters qt_queue qt_busyTo qt_servedIn qt_waysOn qt_costOn qt_aheads qt_seen qt_isKept qt_lanes qt_lengths qt_cells t_hasLaw t_hasCounters t_highest_10 t_taped t_fault o_22.2.1 o_22.2.2.1 o_22.2.2.2.1 o_22.2.2.2.2.1 o_22.2.2.2.2.2.1 o_22.2.2.2.2.2.2 t_queued t_payed t_bestWait t_bestWhom t_bestCoins t_seenMany t_torn t_state t_readPage_23 t_tape t_cuts t_letters t_queue t_busyTo t_servedIn t_waysOn t_costOn t_aheads t_seen t_isKept t_lanes t_lengths t_cells 0 50 _ hc) (cwV 2 hts gX9_readOne_X9_number rfl rfl rfl (by decide +kernel) ⟨Nat.le_of_ble_eq_true rfl, Nat.le_of_ble_eq_true rfl⟩) hK hP hD hS hA [0, 1, 2, 3, 4, 5, 6, 7, 8, 9, 10, 11, 12, 13, 14, 15, 16] [] [0, 1, 2, 3, 4, 5, 6, 7, 8, 9, 10, 11, 12, 13, 14, 15, 16] (w_Mod cI cB cZ cS cT qt qt_state qt_readPage qt_tape qt_cuts qt_letters qt_queue qt_busyTo qt_servedIn qt_waysOn qt_costOn qt_aheads qt_seen qt_isKept qt_lanes qt_lengths qt_cells t_hasLaw t_hasCounters t_highest_10 t_taped t_fault o_24.2.1 o_24.2.2.1 o_24.2.2.2.1 o_24.2.2.2.2.1 o_24.2.2.2.2.2.1 o_24.2.2.2.2.2.2 t_queued t_payed t_bestWait t_bestWhom t_bestCoins t_seenMany t_torn t_state t_readPage_23 t_tape t_cuts t_letters t_queue t_busyTo t_servedIn t_waysOn t_costOn t_aheads t_seen t_isKept t_lanes t_lengths t_cells) rfl rfl rfl rfl (by decide) rfl rfl 9 0 rfl rfl rfl rfl hl.1 rfl (Nat.le_of_ble_eq_true rfl) dX9_readOne_164 ⟨Nat.zero_le _, Nat.zero_le _⟩ (fun H locs hP hD hS => ?_)
        refine mr_iast hx hb hK hP hD hS 2 0 (fun t_readPage_25 => (w_Mod cI cB cZ cS cT qt qt_state qt_readPage qt_tape qt_cuts qt_letters qt_queue qt_busyTo qt_servedIn qt_waysOn qt_costOn qt_aheads qt_seen qt_isKept qt_lanes qt_lengths qt_cells t_hasLaw t_hasCounters t_highest_10 t_taped t_fault o_24.2.1 o_24.2.2.1 o_24.2.2.2.1 o_24.2.2.2.2.1 o_24.2.2.2.2.2.1 o_24.2.2.2.2.2.2 t_queued t_payed t_bestWait t_bestWhom t_bestCoins t_seenMany t_torn t_state t_readPage_25 t_tape t_cuts t_letters t_queue t_busyTo t_servedIn t_waysOn t_costOn t_aheads t_seen t_isKept t_lanes t_lengths t_cells)) rfl rfl (fun _ => rfl) hM dX9_readOne_167 (fun t_readPage_25 hM H locs hP hD hS => ?_)
        refine lv_aload_n hx hb dX9_readOne_168 rfl (lv_at hl 0 rfl) ?_
        refine va_get (D := D) (ci := 9) (v := .ref qt_readPage) (C := RX9) (T := TX9) (N := 34) hx hb hts inX9w hown hK hP 0 rfl rfl 1 (by decide) hf13 (fun _ h9 => h9) rfl dX9_readOne_169 ?_
        refine lv_bipush (v := 93) hx hb dX9_readOne_172 (by decide) ?_
        refine lv_dup2_11 hx hb dX9_readOne_174 rfl rfl ?_
        refine mr_iald hx hb hK hP 2 0 rfl rfl hM dX9_readOne_175 (fun v_26 hM => ?_)
        refine lv_iconst (v := 1) hx hb dX9_readOne_176 (by decide) ?_
        refine lv_iadd hx hb dX9_readOne_177 ?_
        refine mr_iast hx hb hK hP hD hS 2 0 (fun t_readPage_27 => (w_Mod cI cB cZ cS cT qt qt_state qt_readPage qt_tape qt_cuts qt_letters qt_queue qt_busyTo qt_servedIn qt_waysOn qt_costOn qt_aheads qt_seen qt_isKept qt_lanes qt_lengths qt_cells t_hasLaw t_hasCounters t_highest_10 t_taped t_fault o_24.2.1 o_24.2.2.1 o_24.2.2.2.1 o_24.2.2.2.2.1 o_24.2.2.2.2.2.1 o_24.2.2.2.2.2.2 t_queued t_payed t_bestWait t_bestWhom t_bestCoins t_seenMany t_torn t_state t_readPage_27 t_tape t_cuts t_letters t_queue t_busyTo t_servedIn t_waysOn t_costOn t_aheads t_seen t_isKept t_lanes t_lengths t_cells)) rfl rfl (fun _ => rfl) hM dX9_readOne_178 (fun t_readPage_27 hM H locs hP hD hS => ?_)
        have hM := Option.some.inj hM
        subst hM
        exact mr_vret hx hb hr hlocks hQ hP hD hS dX9_readOne_179
      · refine mr_icmp_ne (tgt := 108) hx hb hM dX9_readOne_69 (by decide) (fun hM => ?_) (fun hM => ?_)
        · exact hj108_9 t_highest o_5.1 o_5.2.1 o_5.2.2.1 o_5.2.2.2.1 o_5.2.2.2.2.1 o_5.2.2.2.2.2 t_readPage_8 hM _ _ hP hD hS ls (lv_sub hl [3, 0] rfl)
        · refine lv_aload_n hx hb dX9_readOne_72 rfl (lv_at hl 3 rfl) ?_
          refine va_get (D := D) (ci := 9) (v := .ref qt_readPage) (C := RX9) (T := TX9) (N := 34) hx hb hts inX9w hown hK hP 0 rfl rfl 1 (by decide) hf13 (fun _ h9 => h9) rfl dX9_readOne_73 ?_
          refine lv_iload_n hx hb dX9_readOne_76 rfl (lv_at hl 0 rfl) ?_
          refine lv_iconst (v := 5) hx hb dX9_readOne_77 (by decide) ?_
          refine lv_iadd hx hb dX9_readOne_78 ?_
          refine lv_aload_n hx hb dX9_readOne_79 rfl (lv_at hl 3 rfl) ?_
          obtain ⟨o_28, hc, hM⟩ := bind_so hM
          refine mr_callVi (As := []) (rest := [.int (x3_6 + 5), .ref qt_readPage]) (wr := []) ⟨hx, hb, hml, hown, hts⟩ (k_Mod_oneHere l D cI cB cZ cS cT qt qt_state qt_readPage qt_tape qt_cuts qt_letters qt_queue qt_busyTo qt_servedIn qt_waysOn qt_costOn qt_aheads qt_seen qt_isKept qt_lanes qt_lengths qt_cells t_hasLaw t_hasCounters t_highest t_taped t_fault o_5.1 o_5.2.1 o_5.2.2.1 o_5.2.2.2.1 o_5.2.2.2.2.1 o_5.2.2.2.2.2 t_queued t_payed t_bestWait t_bestWhom t_bestCoins t_seenMany t_torn t_state t_readPage_8 t_tape t_cuts t_letters t_queue t_busyTo t_servedIn t_waysOn t_costOn t_aheads t_seen t_isKept t_lanes t_lengths t_cells  _ hc) (cwV 0 hts gX9_readOne_X9_oneHere rfl rfl rfl (by decide +kernel) ⟨Nat.le_of_ble_eq_true rfl, Nat.le_of_ble_eq_true rfl⟩) hK hP hD hS hA [0, 1, 2, 3, 4, 5, 6, 7, 8, 9, 10, 11, 12, 13, 14, 15, 16] [] [0, 1, 2, 3, 4, 5, 6, 7, 8, 9, 10, 11, 12, 13, 14, 15, 16] (w_Mod cI cB cZ cS cT qt qt_state qt_readPage qt_tape qt_cuts qt_letters qt_queue qt_busyTo qt_servedIn qt_waysOn qt_costOn qt_aheads qt_seen qt_isKept qt_lanes qt_lengths qt_cells t_hasLaw t_hasCounters o_28.2.1 t_taped t_fault o_28.2.2.1 o_28.2.2.2 o_5.2.2.1 o_5.2.2.2.1 o_5.2.2.2.2.1 o_5.2.2.2.2.2 t_queued t_payed t_bestWait t_bestWhom t_bestCoins t_seenMany t_torn t_state t_readPage_8 t_tape t_cuts t_letters t_queue t_busyTo t_servedIn t_waysOn t_costOn t_aheads t_seen t_isKept t_lanes t_lengths t_cells) rfl rfl rfl rfl (by decide) rfl rfl 9 0 rfl rfl rfl rfl hl.1 rfl (Nat.le_of_ble_eq_true rfl) dX9_readOne_80 ⟨Nat.zero_le _, Nat.zero_le _⟩ (fun H locs hP hD hS => ?_)
          refine mr_iast hx hb hK hP hD hS 2 0 (fun t_readPage_29 => (w_Mod cI cB cZ cS cT qt qt_state qt_readPage qt_tape qt_cuts qt_letters qt_queue qt_busyTo qt_servedIn qt_waysOn qt_costOn qt_aheads qt_seen qt_isKept qt_lanes qt_lengths qt_cells t_hasLaw t_hasCounters o_28.2.1 t_taped t_fault o_28.2.2.1 o_28.2.2.2 o_5.2.2.1 o_5.2.2.2.1 o_5.2.2.2.2.1 o_5.2.2.2.2.2 t_queued t_payed t_bestWait t_bestWhom t_bestCoins t_seenMany t_torn t_state t_readPage_29 t_tape t_cuts t_letters t_queue t_busyTo t_servedIn t_waysOn t_costOn t_aheads t_seen t_isKept t_lanes t_lengths t_cells)) rfl rfl (fun _ => rfl) hM dX9_readOne_83 (fun t_readPage_29 hM H locs hP hD hS => ?_)
          refine lv_aload_n hx hb dX9_readOne_84 rfl (lv_at hl 3 rfl) ?_
          refine va_get (D := D) (ci := 9) (v := .int o_28.2.2.1) (C := RX9) (T := TX9) (N := 34) hx hb hts inX9w hown hK hP 0 rfl rfl 8 (by decide) hf67 (fun _ h9 => h9) rfl dX9_readOne_85 ?_
          refine mr_jn hM (fun j104_30 => ∀ (t_broken_31 t_brokenAt_32 : Int32), j104_30 t_broken_31 t_brokenAt_32 = some o → ∀ (H : Heap) (locs : List Loc), va_P D vwCl (w_Mod cI cB cZ cS cT qt qt_state qt_readPage qt_tape qt_cuts qt_letters qt_queue qt_busyTo qt_servedIn qt_waysOn qt_costOn qt_aheads qt_seen qt_isKept qt_lanes qt_lengths qt_cells t_hasLaw t_hasCounters o_28.2.1 t_taped t_fault t_broken_31 t_brokenAt_32 o_5.2.2.1 o_5.2.2.2.1 o_5.2.2.2.2.1 o_5.2.2.2.2.2 t_queued t_payed t_bestWait t_bestWhom t_bestCoins t_seenMany t_torn t_state t_readPage_29 t_tape t_cuts t_letters t_queue t_busyTo t_servedIn t_waysOn t_costOn t_aheads t_seen t_isKept t_lanes t_lengths t_cells) H → va_D A (w_Mod cI cB cZ cS cT qt qt_state qt_readPage qt_tape qt_cuts qt_letters qt_queue qt_busyTo qt_servedIn qt_waysOn qt_costOn qt_aheads qt_seen qt_isKept qt_lanes qt_lengths qt_cells t_hasLaw t_hasCounters o_28.2.1 t_taped t_fault t_broken_31 t_brokenAt_32 o_5.2.2.1 o_5.2.2.2.1 o_5.2.2.2.2.1 o_5.2.2.2.2.2 t_queued t_payed t_bestWait t_bestWhom t_bestCoins t_seenMany t_torn t_state t_readPage_29 t_tape t_cuts t_letters t_queue t_busyTo t_servedIn t_waysOn t_costOn t_aheads t_seen t_isKept t_lanes t_lengths t_cells) → va_S A s.heap H locs → ∀ ls : Array Slot, lv_has ls 4 [(0, .ref qt), (3, .int x3_6)] → W p l e rmX9_readOne s m av below meth c H locs 0 0 Q (F0 m 104 ls [])) (fun t_broken_31 t_brokenAt_32 hM H locs hP hD hS ls hl => ?_) (fun j104_30 hj104_30 hM => ?_)
          · refine lv_aload_n hx hb dX9_readOne_104 rfl (lv_at hl 0 rfl) ?_
            obtain ⟨o_33, hc, hM⟩ := bind_so hM
            refine mr_callVv (As := []) (rest := []) (wr := []) ⟨hx, hb, hml, hown, hts⟩ (k_Mod_step l D cI cB cZ cS cT qt qt_state qt_readPage qt_tape qt_cuts qt_letters qt_queue qt_busyTo qt_servedIn qt_waysOn qt_costOn qt_aheads qt_seen qt_isKept qt_lanes qt_lengths qt_cells t_hasLaw t_hasCounters o_28.2.1 t_taped t_fault t_broken_31 t_brokenAt_32 o_5.2.2.1 o_5.2.2.2.1 o_5.2.2.2.2.1 o_5.2.2.2.2.2 t_queued t_payed t_bestWait t_bestWhom t_bestCoins t_seenMany t_torn t_state t_readPage_29 t_tape t_cuts t_letters t_queue t_busyTo t_servedIn t_waysOn t_costOn t_aheads t_seen t_isKept t_lanes t_lengths t_cells  _ hc) (cwV 0 hts gX9_readOne_X9_step rfl rfl rfl (by decide +kernel) ⟨Nat.le_of_ble_eq_true rfl, Nat.le_of_ble_eq_true rfl⟩) hK hP hD hS hA [0, 1, 2, 3, 4, 5, 6, 7, 8, 9, 10, 11, 12, 13, 14, 15, 16] [] [0, 1, 2, 3, 4, 5, 6, 7, 8, 9, 10, 11, 12, 13, 14, 15, 16] (w_Mod cI cB cZ cS cT qt qt_state qt_readPage qt_tape qt_cuts qt_letters qt_queue qt_busyTo qt_servedIn qt_waysOn qt_costOn qt_aheads qt_seen qt_isKept qt_lanes qt_lengths qt_cells t_hasLaw t_hasCounters o_28.2.1 t_taped t_fault o_33.1 o_33.2.1 o_33.2.2.1 o_33.2.2.2.1 o_33.2.2.2.2.1 o_33.2.2.2.2.2 t_queued t_payed t_bestWait t_bestWhom t_bestCoins t_seenMany t_torn t_state t_readPage_29 t_tape t_cuts t_letters t_queue t_busyTo t_servedIn t_waysOn t_costOn t_aheads t_seen t_isKept t_lanes t_lengths t_cells) rfl rfl rfl rfl (by decide) rfl rfl 9 0 rfl rfl rfl rfl hl.1 rfl (Nat.le_of_ble_eq_true rfl) dX9_readOne_105 ⟨Nat.zero_le _, Nat.zero_le _⟩ (fun H locs hP hD hS => ?_)
            exact hj108_9 o_28.2.1 o_33.1 o_33.2.1 o_33.2.2.1 o_33.2.2.2.1 o_33.2.2.2.2.1 o_33.2.2.2.2.2 t_readPage_29 hM _ _ hP hD hS ls (lv_sub hl [0, 1] rfl)
          · refine mr_if_ne (tgt := 104) hx hb hM dX9_readOne_88 (by decide) (fun hM => ?_) (fun hM => ?_)
            · exact hj104_30 o_28.2.2.1 o_28.2.2.2 hM _ _ hP hD hS ls (lv_sub hl [3, 0] rfl)
            · refine lv_aload_n hx hb dX9_readOne_91 rfl (lv_at hl 3 rfl) ?_
              refine va_get (D := D) (ci := 9) (v := .int o_5.2.2.2.2.2) (C := RX9) (T := TX9) (N := 34) hx hb hts inX9w hown hK hP 0 rfl rfl 13 (by decide) hf86 (fun _ h9 => h9) rfl dX9_readOne_92 ?_
              refine lv_iload_n hx hb dX9_readOne_95 rfl (lv_at hl 2 rfl) ?_
              refine mr_icmp_ne (tgt := 104) hx hb hM dX9_readOne_96 (by decide) (fun hM => ?_) (fun hM => ?_)
              · exact hj104_30 o_28.2.2.1 o_28.2.2.2 hM _ _ hP hD hS ls (lv_sub hl [3, 0] rfl)
              · refine lv_aload_n hx hb dX9_readOne_99 rfl (lv_at hl 3 rfl) ?_
                refine lv_iconst (v := 4) hx hb dX9_readOne_100 (by decide) ?_
                obtain ⟨o_34, hc, hM⟩ := bind_so hM
                refine mr_callVv (As := [.int 4]) (rest := []) (wr := []) ⟨hx, hb, hml, hown, hts⟩ (k_Mod_fails l D cI cB cZ cS cT qt qt_state qt_readPage qt_tape qt_cuts qt_letters qt_queue qt_busyTo qt_servedIn qt_waysOn qt_costOn qt_aheads qt_seen qt_isKept qt_lanes qt_lengths qt_cells t_hasLaw t_hasCounters o_28.2.1 t_taped t_fault o_28.2.2.1 o_28.2.2.2 o_5.2.2.1 o_5.2.2.2.1 o_5.2.2.2.2.1 o_5.2.2.2.2.2 t_queued t_payed t_bestWait t_bestWhom t_bestCoins t_seenMany t_torn t_state t_readPage_29 t_tape t_cuts t_letters t_queue t_busyTo t_servedIn t_waysOn t_costOn t_aheads t_seen t_isKept t_lanes t_lengths t_cells 4 _ hc) (cwV 1 hts gX9_readOne_X9_fails rfl rfl rfl (by decide +kernel) ⟨Nat.le_of_ble_eq_true rfl, Nat.le_of_ble_eq_true rfl⟩) hK hP hD hS hA [0, 1, 2, 3, 4, 5, 6, 7, 8, 9, 10, 11, 12, 13, 14, 15, 16] [] [0, 1, 2, 3, 4, 5, 6, 7, 8, 9, 10, 11, 12, 13, 14, 15, 16] (w_Mod cI cB cZ cS cT qt qt_state qt_readPage qt_tape qt_cuts qt_letters qt_queue qt_busyTo qt_servedIn qt_waysOn qt_costOn qt_aheads qt_seen qt_isKept qt_lanes qt_lengths qt_cells t_hasLaw t_hasCounters o_28.2.1 t_taped t_fault o_34.1 o_34.2 o_5.2.2.1 o_5.2.2.2.1 o_5.2.2.2.2.1 o_5.2.2.2.2.2 t_queued t_payed t_bestWait t_bestWhom t_bestCoins t_seenMany t_torn t_state t_readPage_29 t_tape t_cuts t_letters t_queue t_busyTo t_servedIn t_waysOn t_costOn t_aheads t_seen t_isKept t_lanes t_lengths t_cells) rfl rfl rfl rfl (by decide) rfl rfl 9 0 rfl rfl rfl rfl hl.1 rfl (Nat.le_of_ble_eq_true rfl) dX9_readOne_101 ⟨Nat.zero_le _, Nat.zero_le _⟩ (fun H locs hP hD hS => ?_)
                exact hj104_30 o_34.1 o_34.2 hM _ _ hP hD hS ls (lv_sub hl [3, 0] rfl)
    · refine lv_aload_n hx hb dX9_readOne_35 rfl (lv_at hl 2 rfl) ?_
      refine lv_iconst (v := 2) hx hb dX9_readOne_36 (by decide) ?_
      obtain ⟨o_35, hc, hM⟩ := bind_so hM
      refine mr_callVv (As := [.int 2]) (rest := []) (wr := []) ⟨hx, hb, hml, hown, hts⟩ (k_Mod_fails l D cI cB cZ cS cT qt qt_state qt_readPage qt_tape qt_cuts qt_letters qt_queue qt_busyTo qt_servedIn qt_waysOn qt_costOn qt_aheads qt_seen qt_isKept qt_lanes qt_lengths qt_cells t_hasLaw t_hasCounters t_highest t_taped t_fault o_2.1 o_2.2.1 o_2.2.2.1 o_2.2.2.2.1 o_2.2.2.2.2.1 o_2.2.2.2.2.2 t_queued t_payed t_bestWait t_bestWhom t_bestCoins t_seenMany t_torn t_state t_readPage t_tape t_cuts t_letters t_queue t_busyTo t_servedIn t_waysOn t_costOn t_aheads t_seen t_isKept t_lanes t_lengths t_cells 2 _ hc) (cwV 1 hts gX9_readOne_X9_fails rfl rfl rfl (by decide +kernel) ⟨Nat.le_of_ble_eq_true rfl, Nat.le_of_ble_eq_true rfl⟩) hK hP hD hS hA [0, 1, 2, 3, 4, 5, 6, 7, 8, 9, 10, 11, 12, 13, 14, 15, 16] [] [0, 1, 2, 3, 4, 5, 6, 7, 8, 9, 10, 11, 12, 13, 14, 15, 16] (w_Mod cI cB cZ cS cT qt qt_state qt_readPage qt_tape qt_cuts qt_letters qt_queue qt_busyTo qt_servedIn qt_waysOn qt_costOn qt_aheads qt_seen qt_isKept qt_lanes qt_lengths qt_cells t_hasLaw t_hasCounters t_highest t_taped t_fault o_35.1 o_35.2 o_2.2.2.1 o_2.2.2.2.1 o_2.2.2.2.2.1 o_2.2.2.2.2.2 t_queued t_payed t_bestWait t_bestWhom t_bestCoins t_seenMany t_torn t_state t_readPage t_tape t_cuts t_letters t_queue t_busyTo t_servedIn t_waysOn t_costOn t_aheads t_seen t_isKept t_lanes t_lengths t_cells) rfl rfl rfl rfl (by decide) rfl rfl 9 0 rfl rfl rfl rfl hl.1 rfl (Nat.le_of_ble_eq_true rfl) dX9_readOne_37 ⟨Nat.zero_le _, Nat.zero_le _⟩ (fun H locs hP hD hS => ?_)
      have hM := Option.some.inj hM
      subst hM
      exact mr_vret hx hb hr hlocks hQ hP hD hS dX9_readOne_40
  · refine lv_aload_n hx hb dX9_readOne_14 rfl (lv_at hl 1 rfl) ?_
    refine lv_iconst (v := 5) hx hb dX9_readOne_15 (by decide) ?_
    obtain ⟨o_36, hc, hM⟩ := bind_so hM
    refine mr_callVv (As := [.int 5]) (rest := []) (wr := []) ⟨hx, hb, hml, hown, hts⟩ (k_Mod_fails l D cI cB cZ cS cT qt qt_state qt_readPage qt_tape qt_cuts qt_letters qt_queue qt_busyTo qt_servedIn qt_waysOn qt_costOn qt_aheads qt_seen qt_isKept qt_lanes qt_lengths qt_cells t_hasLaw t_hasCounters t_highest t_taped t_fault t_broken t_brokenAt t_spot t_here t_token t_value t_queued t_payed t_bestWait t_bestWhom t_bestCoins t_seenMany t_torn t_state t_readPage t_tape t_cuts t_letters t_queue t_busyTo t_servedIn t_waysOn t_costOn t_aheads t_seen t_isKept t_lanes t_lengths t_cells 5 _ hc) (cwV 1 hts gX9_readOne_X9_fails rfl rfl rfl (by decide +kernel) ⟨Nat.le_of_ble_eq_true rfl, Nat.le_of_ble_eq_true rfl⟩) hK hP hD hS hA [0, 1, 2, 3, 4, 5, 6, 7, 8, 9, 10, 11, 12, 13, 14, 15, 16] [] [0, 1, 2, 3, 4, 5, 6, 7, 8, 9, 10, 11, 12, 13, 14, 15, 16] (w_Mod cI cB cZ cS cT qt qt_state qt_readPage qt_tape qt_cuts qt_letters qt_queue qt_busyTo qt_servedIn qt_waysOn qt_costOn qt_aheads qt_seen qt_isKept qt_lanes qt_lengths qt_cells t_hasLaw t_hasCounters t_highest t_taped t_fault o_36.1 o_36.2 t_spot t_here t_token t_value t_queued t_payed t_bestWait t_bestWhom t_bestCoins t_seenMany t_torn t_state t_readPage t_tape t_cuts t_letters t_queue t_busyTo t_servedIn t_waysOn t_costOn t_aheads t_seen t_isKept t_lanes t_lengths t_cells) rfl rfl rfl rfl (by decide) rfl rfl 9 0 rfl rfl rfl rfl hl.1 rfl (Nat.le_of_ble_eq_true rfl) dX9_readOne_16 ⟨Nat.zero_le _, Nat.zero_le _⟩ (fun H locs hP hD hS => ?_)
    have hM := Option.some.inj hM
    subst hM
    exact mr_vret hx hb hr hlocks hQ hP hD hS dX9_readOne_19

abbrev rmX9_readDebt : Room := { frames := 3, cells := 0, slots := 0, locals := 70 }
set_option maxHeartbeats 40000000 in
set_option maxRecDepth 100000 in
theorem k_Mod_readDebt (l : Launch) (D : va_G) (cI cB cZ cS cT : ClassId) (qt qt_state qt_readPage qt_tape qt_cuts qt_letters qt_queue qt_busyTo qt_servedIn qt_waysOn qt_costOn qt_aheads qt_seen qt_isKept qt_lanes qt_lengths qt_cells : Nat) (t_hasLaw t_hasCounters t_highest t_taped t_fault t_broken t_brokenAt t_spot t_here t_token t_value t_queued t_payed t_bestWait t_bestWhom t_bestCoins t_seenMany t_torn : Int32) (t_state t_readPage t_tape t_cuts t_letters t_queue t_busyTo t_servedIn t_waysOn t_costOn t_aheads t_seen t_isKept t_lanes t_lengths t_cells : Nat → Int32)  (o : Int32 × Int32 × Int32 × Int32 × Int32 × Int32 × Int32 × (Nat → Int32)) (hM : Mod_readDebt t_highest t_taped t_broken t_brokenAt t_spot t_here t_token t_value t_readPage t_tape = some o) : mtV l yX9_readDebt wsX9_readDebt rmX9_readDebt D (tys5 cI cB cZ cS cT) [.ref qt] (w_Mod cI cB cZ cS cT qt qt_state qt_readPage qt_tape qt_cuts qt_letters qt_queue qt_busyTo qt_servedIn qt_waysOn qt_costOn qt_aheads qt_seen qt_isKept qt_lanes qt_lengths qt_cells t_hasLaw t_hasCounters t_highest t_taped t_fault t_broken t_brokenAt t_spot t_here t_token t_value t_queued t_payed t_bestWait t_bestWhom t_bestCoins t_seenMany t_torn t_state t_readPage t_tape t_cuts t_letters t_queue t_busyTo t_servedIn t_waysOn t_costOn t_aheads t_seen t_isKept t_lanes t_lengths t_cells) (w_Mod cI cB cZ cS cT qt qt_state qt_readPage qt_tape qt_cuts qt_letters qt_queue qt_busyTo qt_servedIn qt_waysOn qt_costOn qt_aheads qt_seen qt_isKept qt_lanes qt_lengths qt_cells t_hasLaw t_hasCounters o.1 t_taped t_fault o.2.1 o.2.2.1 o.2.2.2.1 o.2.2.2.2.1 o.2.2.2.2.2.1 o.2.2.2.2.2.2.1 t_queued t_payed t_bestWait t_bestWhom t_bestCoins t_seenMany t_torn t_state o.2.2.2.2.2.2.2 t_tape t_cuts t_letters t_queue t_busyTo t_servedIn t_waysOn t_costOn t_aheads t_seen t_isKept t_lanes t_lengths t_cells) := by
  refine mtV.of (cc := cX9_readDebt) (maxL := 4) (ret := none) (by decide) rfl (Nat.le_of_ble_eq_true rfl) ?_
  intro p e s m below meth c A Q av hav hQ hx hb hr hml hown hts hlocks hK hP hD hA hS ls hl
  have hown : s.vm.findClass RX9 = some m.cls := hown
  have hl : lv_has ls 4 [(0, .ref qt)] := hl
  unfold Mod_readDebt at hM
  have inX9w : ∀ w ∈ u_ws RX9 TX9 34, w ∈ wsX9_readDebt := by decide +kernel
  have hf67 := hts (.fieldLink RX9 67 "LetsInModel" "broken" "I") (by decide +kernel)
  have hf13 := hts (.fieldLink RX9 13 "LetsInModel" "readPage" "[I") (by decide +kernel)
  refine lv_aload_n hx hb dX9_readDebt_0 rfl (lv_at hl 0 rfl) ?_
  obtain ⟨o_1, hc, hM⟩ := bind_so hM
  refine mr_callVv (As := []) (rest := []) (wr := []) ⟨hx, hb, hml, hown, hts⟩ (k_Mod_step l D cI cB cZ cS cT qt qt_state qt_readPage qt_tape qt_cuts qt_letters qt_queue qt_busyTo qt_servedIn qt_waysOn qt_costOn qt_aheads qt_seen qt_isKept qt_lanes qt_lengths qt_cells t_hasLaw t_hasCounters t_highest t_taped t_fault t_broken t_brokenAt t_spot t_here t_token t_value t_queued t_payed t_bestWait t_bestWhom t_bestCoins t_seenMany t_torn t_state t_readPage t_tape t_cuts t_letters t_queue t_busyTo t_servedIn t_waysOn t_costOn t_aheads t_seen t_isKept t_lanes t_lengths t_cells  _ hc) (cwV 0 hts gX9_readDebt_X9_step rfl rfl rfl (by decide +kernel) ⟨Nat.le_of_ble_eq_true rfl, Nat.le_of_ble_eq_true rfl⟩) hK hP hD hS hA [0, 1, 2, 3, 4, 5, 6, 7, 8, 9, 10, 11, 12, 13, 14, 15, 16] [] [0, 1, 2, 3, 4, 5, 6, 7, 8, 9, 10, 11, 12, 13, 14, 15, 16] (w_Mod cI cB cZ cS cT qt qt_state qt_readPage qt_tape qt_cuts qt_letters qt_queue qt_busyTo qt_servedIn qt_waysOn qt_costOn qt_aheads qt_seen qt_isKept qt_lanes qt_lengths qt_cells t_hasLaw t_hasCounters t_highest t_taped t_fault o_1.1 o_1.2.1 o_1.2.2.1 o_1.2.2.2.1 o_1.2.2.2.2.1 o_1.2.2.2.2.2 t_queued t_payed t_bestWait t_bestWhom t_bestCoins t_seenMany t_torn t_state t_readPage t_tape t_cuts t_letters t_queue t_busyTo t_servedIn t_waysOn t_costOn t_aheads t_seen t_isKept t_lanes t_lengths t_cells) rfl rfl rfl rfl (by decide) rfl rfl 9 0 rfl rfl rfl rfl hl.1 rfl (Nat.le_of_ble_eq_true rfl) dX9_readDebt_1 ⟨Nat.zero_le _, Nat.zero_le _⟩ (fun H locs hP hD hS => ?_)
  refine lv_aload_n hx hb dX9_readDebt_4 rfl (lv_at hl 0 rfl) ?_
  obtain ⟨o_2, hc, hM⟩ := bind_so hM
  refine mr_callVi (As := []) (rest := []) (wr := []) ⟨hx, hb, hml, hown, hts⟩ (k_Mod_oneHere l D cI cB cZ cS cT qt qt_state qt_readPage qt_tape qt_cuts qt_letters qt_queue qt_busyTo qt_servedIn qt_waysOn qt_costOn qt_aheads qt_seen qt_isKept qt_lanes qt_lengths qt_cells t_hasLaw t_hasCounters t_highest t_taped t_fault o_1.1 o_1.2.1 o_1.2.2.1 o_1.2.2.2.1 o_1.2.2.2.2.1 o_1.2.2.2.2.2 t_queued t_payed t_bestWait t_bestWhom t_bestCoins t_seenMany t_torn t_state t_readPage t_tape t_cuts t_letters t_queue t_busyTo t_servedIn t_waysOn t_costOn t_aheads t_seen t_isKept t_lanes t_lengths t_cells  _ hc) (cwV 0 hts gX9_readDebt_X9_oneHere rfl rfl rfl (by decide +kernel) ⟨Nat.le_of_ble_eq_true rfl, Nat.le_of_ble_eq_true rfl⟩) hK hP hD hS hA [0, 1, 2, 3, 4, 5, 6, 7, 8, 9, 10, 11, 12, 13, 14, 15, 16] [] [0, 1, 2, 3, 4, 5, 6, 7, 8, 9, 10, 11, 12, 13, 14, 15, 16] (w_Mod cI cB cZ cS cT qt qt_state qt_readPage qt_tape qt_cuts qt_letters qt_queue qt_busyTo qt_servedIn qt_waysOn qt_costOn qt_aheads qt_seen qt_isKept qt_lanes qt_lengths qt_cells t_hasLaw t_hasCounters o_2.2.1 t_taped t_fault o_2.2.2.1 o_2.2.2.2 o_1.2.2.1 o_1.2.2.2.1 o_1.2.2.2.2.1 o_1.2.2.2.2.2 t_queued t_payed t_bestWait t_bestWhom t_bestCoins t_seenMany t_torn t_state t_readPage t_tape t_cuts t_letters t_queue t_busyTo t_servedIn t_waysOn t_costOn t_aheads t_seen t_isKept t_lanes t_lengths t_cells) rfl rfl rfl rfl (by decide) rfl rfl 9 0 rfl rfl rfl rfl hl.1 rfl (Nat.le_of_ble_eq_true rfl) dX9_readDebt_5 ⟨Nat.zero_le _, Nat.zero_le _⟩ (fun H locs hP hD hS => ?_)
  refine lv_istore_n (lv' := [(1, .int o_2.1), (0, .ref qt)]) hx hb dX9_readDebt_8 rfl hl (by decide) rfl (fun ls hl => ?_)
  refine lv_aload_n hx hb dX9_readDebt_9 rfl (lv_at hl 1 rfl) ?_
  obtain ⟨o_3, hc, hM⟩ := bind_so hM
  refine mr_callVv (As := []) (rest := []) (wr := []) ⟨hx, hb, hml, hown, hts⟩ (k_Mod_step l D cI cB cZ cS cT qt qt_state qt_readPage qt_tape qt_cuts qt_letters qt_queue qt_busyTo qt_servedIn qt_waysOn qt_costOn qt_aheads qt_seen qt_isKept qt_lanes qt_lengths qt_cells t_hasLaw t_hasCounters o_2.2.1 t_taped t_fault o_2.2.2.1 o_2.2.2.2 o_1.2.2.1 o_1.2.2.2.1 o_1.2.2.2.2.1 o_1.2.2.2.2.2 t_queued t_payed t_bestWait t_bestWhom t_bestCoins t_seenMany t_torn t_state t_readPage t_tape t_cuts t_letters t_queue t_busyTo t_servedIn t_waysOn t_costOn t_aheads t_seen t_isKept t_lanes t_lengths t_cells  _ hc) (cwV 0 hts gX9_readDebt_X9_step rfl rfl rfl (by decide +kernel) ⟨Nat.le_of_ble_eq_true rfl, Nat.le_of_ble_eq_true rfl⟩) hK hP hD hS hA [0, 1, 2, 3, 4, 5, 6, 7, 8, 9, 10, 11, 12, 13, 14, 15, 16] [] [0, 1, 2, 3, 4, 5, 6, 7, 8, 9, 10, 11, 12, 13, 14, 15, 16] (w_Mod cI cB cZ cS cT qt qt_state qt_readPage qt_tape qt_cuts qt_letters qt_queue qt_busyTo qt_servedIn qt_waysOn qt_costOn qt_aheads qt_seen qt_isKept qt_lanes qt_lengths qt_cells t_hasLaw t_hasCounters o_2.2.1 t_taped t_fault o_3.1 o_3.2.1 o_3.2.2.1 o_3.2.2.2.1 o_3.2.2.2.2.1 o_3.2.2.2.2.2 t_queued t_payed t_bestWait t_bestWhom t_bestCoins t_seenMany t_torn t_state t_readPage t_tape t_cuts t_letters t_queue t_busyTo t_servedIn t_waysOn t_costOn t_aheads t_seen t_isKept t_lanes t_lengths t_cells) rfl rfl rfl rfl (by decide) rfl rfl 9 0 rfl rfl rfl rfl hl.1 rfl (Nat.le_of_ble_eq_true rfl) dX9_readDebt_10 ⟨Nat.zero_le _, Nat.zero_le _⟩ (fun H locs hP hD hS => ?_)
  refine lv_aload_n hx hb dX9_readDebt_13 rfl (lv_at hl 1 rfl) ?_
  obtain ⟨o_4, hc, hM⟩ := bind_so hM
  refine mr_callVi (As := []) (rest := []) (wr := []) ⟨hx, hb, hml, hown, hts⟩ (k_Mod_oneHere l D cI cB cZ cS cT qt qt_state qt_readPage qt_tape qt_cuts qt_letters qt_queue qt_busyTo qt_servedIn qt_waysOn qt_costOn qt_aheads qt_seen qt_isKept qt_lanes qt_lengths qt_cells t_hasLaw t_hasCounters o_2.2.1 t_taped t_fault o_3.1 o_3.2.1 o_3.2.2.1 o_3.2.2.2.1 o_3.2.2.2.2.1 o_3.2.2.2.2.2 t_queued t_payed t_bestWait t_bestWhom t_bestCoins t_seenMany t_torn t_state t_readPage t_tape t_cuts t_letters t_queue t_busyTo t_servedIn t_waysOn t_costOn t_aheads t_seen t_isKept t_lanes t_lengths t_cells  _ hc) (cwV 0 hts gX9_readDebt_X9_oneHere rfl rfl rfl (by decide +kernel) ⟨Nat.le_of_ble_eq_true rfl, Nat.le_of_ble_eq_true rfl⟩) hK hP hD hS hA [0, 1, 2, 3, 4, 5, 6, 7, 8, 9, 10, 11, 12, 13, 14, 15, 16] [] [0, 1, 2, 3, 4, 5, 6, 7, 8, 9, 10, 11, 12, 13, 14, 15, 16] (w_Mod cI cB cZ cS cT qt qt_state qt_readPage qt_tape qt_cuts qt_letters qt_queue qt_busyTo qt_servedIn qt_waysOn qt_costOn qt_aheads qt_seen qt_isKept qt_lanes qt_lengths qt_cells t_hasLaw t_hasCounters o_4.2.1 t_taped t_fault o_4.2.2.1 o_4.2.2.2 o_3.2.2.1 o_3.2.2.2.1 o_3.2.2.2.2.1 o_3.2.2.2.2.2 t_queued t_payed t_bestWait t_bestWhom t_bestCoins t_seenMany t_torn t_state t_readPage t_tape t_cuts t_letters t_queue t_busyTo t_servedIn t_waysOn t_costOn t_aheads t_seen t_isKept t_lanes t_lengths t_cells) rfl rfl rfl rfl (by decide) rfl rfl 9 0 rfl rfl rfl rfl hl.1 rfl (Nat.le_of_ble_eq_true rfl) dX9_readDebt_14 ⟨Nat.zero_le _, Nat.zero_le _⟩ (fun H locs hP hD hS => ?_)
  refine lv_istore_n (lv' := [(2, .int o_4.1), (1, .int o_2.1), (0, .ref qt)]) hx hb dX9_readDebt_17 rfl hl (by decide) rfl (fun ls hl => ?_)
  refine lv_aload_n hx hb dX9_readDebt_18 rfl (lv_at hl 2 rfl) ?_
  refine va_get (D := D) (ci := 9) (v := .int o_4.2.2.1) (C := RX9) (T := TX9) (N := 34) hx hb hts inX9w hown hK hP 0 rfl rfl 8 (by decide) hf67 (fun _ h9 => h9) rfl dX9_readDebt_19 ?_
  refine mr_jn hM (fun j52_5 => ∀ (t_broken_6 t_brokenAt_7 : Int32), j52_5 t_broken_6 t_brokenAt_7 = some o → ∀ (H : Heap) (locs : List Loc), va_P D vwCl (w_Mod cI cB cZ cS cT qt qt_state qt_readPage qt_tape qt_cuts qt_letters qt_queue qt_busyTo qt_servedIn qt_waysOn qt_costOn qt_aheads qt_seen qt_isKept qt_lanes qt_lengths qt_cells t_hasLaw t_hasCounters o_4.2.1 t_taped t_fault t_broken_6 t_brokenAt_7 o_3.2.2.1 o_3.2.2.2.1 o_3.2.2.2.2.1 o_3.2.2.2.2.2 t_queued t_payed t_bestWait t_bestWhom t_bestCoins t_seenMany t_torn t_state t_readPage t_tape t_cuts t_letters t_queue t_busyTo t_servedIn t_waysOn t_costOn t_aheads t_seen t_isKept t_lanes t_lengths t_cells) H → va_D A (w_Mod cI cB cZ cS cT qt qt_state qt_readPage qt_tape qt_cuts qt_letters qt_queue qt_busyTo qt_servedIn qt_waysOn qt_costOn qt_aheads qt_seen qt_isKept qt_lanes qt_lengths qt_cells t_hasLaw t_hasCounters o_4.2.1 t_taped t_fault t_broken_6 t_brokenAt_7 o_3.2.2.1 o_3.2.2.2.1 o_3.2.2.2.2.1 o_3.2.2.2.2.2 t_queued t_payed t_bestWait t_bestWhom t_bestCoins t_seenMany t_torn t_state t_readPage t_tape t_cuts t_letters t_queue t_busyTo t_servedIn t_waysOn t_costOn t_aheads t_seen t_isKept t_lanes t_lengths t_cells) → va_S A s.heap H locs → ∀ ls : Array Slot, lv_has ls 4 [(0, .ref qt), (1, .int o_2.1), (2, .int o_4.1)] → W p l e rmX9_readDebt s m av below meth c H locs 0 0 Q (F0 m 52 ls [])) (fun t_broken_6 t_brokenAt_7 hM H locs hP hD hS ls hl => ?_) (fun j52_5 hj52_5 hM => ?_)
  · refine lv_aload_n hx hb dX9_readDebt_52 rfl (lv_at hl 0 rfl) ?_
    obtain ⟨o_8, hc, hM⟩ := bind_so hM
    refine mr_callVv (As := []) (rest := []) (wr := []) ⟨hx, hb, hml, hown, hts⟩ (k_Mod_step l D cI cB cZ cS cT qt qt_state qt_readPage qt_tape qt_cuts qt_letters qt_queue qt_busyTo qt_servedIn qt_waysOn qt_costOn qt_aheads qt_seen qt_isKept qt_lanes qt_lengths qt_cells t_hasLaw t_hasCounters o_4.2.1 t_taped t_fault t_broken_6 t_brokenAt_7 o_3.2.2.1 o_3.2.2.2.1 o_3.2.2.2.2.1 o_3.2.2.2.2.2 t_queued t_payed t_bestWait t_bestWhom t_bestCoins t_seenMany t_torn t_state t_readPage t_tape t_cuts t_letters t_queue t_busyTo t_servedIn t_waysOn t_costOn t_aheads t_seen t_isKept t_lanes t_lengths t_cells  _ hc) (cwV 0 hts gX9_readDebt_X9_step rfl rfl rfl (by decide +kernel) ⟨Nat.le_of_ble_eq_true rfl, Nat.le_of_ble_eq_true rfl⟩) hK hP hD hS hA [0, 1, 2, 3, 4, 5, 6, 7, 8, 9, 10, 11, 12, 13, 14, 15, 16] [] [0, 1, 2, 3, 4, 5, 6, 7, 8, 9, 10, 11, 12, 13, 14, 15, 16] (w_Mod cI cB cZ cS cT qt qt_state qt_readPage qt_tape qt_cuts qt_letters qt_queue qt_busyTo qt_servedIn qt_waysOn qt_costOn qt_aheads qt_seen qt_isKept qt_lanes qt_lengths qt_cells t_hasLaw t_hasCounters o_4.2.1 t_taped t_fault o_8.1 o_8.2.1 o_8.2.2.1 o_8.2.2.2.1 o_8.2.2.2.2.1 o_8.2.2.2.2.2 t_queued t_payed t_bestWait t_bestWhom t_bestCoins t_seenMany t_torn t_state t_readPage t_tape t_cuts t_letters t_queue t_busyTo t_servedIn t_waysOn t_costOn t_aheads t_seen t_isKept t_lanes t_lengths t_cells) rfl rfl rfl rfl (by decide) rfl rfl 9 0 rfl rfl rfl rfl hl.1 rfl (Nat.le_of_ble_eq_true rfl) dX9_readDebt_53 ⟨Nat.zero_le _, Nat.zero_le _⟩ (fun H locs hP hD hS => ?_)
    refine lv_aload_n hx hb dX9_readDebt_56 rfl (lv_at hl 0 rfl) ?_
    refine lv_iconst (v := 1) hx hb dX9_readDebt_57 (by decide) ?_
    refine lv_bipush (v := 99) hx hb dX9_readDebt_58 (by decide) ?_
    obtain ⟨o_9, hc, hM⟩ := bind_so hM
    refine mr_callVi (As := [.int 1, .int 99]) (rest := []) (wr := []) ⟨hx, hb, hml, hown, hts⟩ (k_Mod_number l D cI cB cZ cS cT qt qt_state qt_readPage qt_tape qt_cuts qt_letters qt_queue qt_busyTo qt_servedIn qt_waysOn qt_costOn qt_aheads qt_seen qt_isKept qt_lanes qt_lengths qt_cells t_hasLaw t_hasCounters o_4.2.1 t_taped t_fault o_8.1 o_8.2.1 o_8.2.2.1 o_8.2.2.2.1 o_8.2.2.2.2.1 o_8.2.2.2.2.2 t_queued t_payed t_bestWait t_bestWhom t_bestCoins t_seenMany t_torn t_state t_readPage t_tape t_cuts t_letters t_queue t_busyTo t_servedIn t_waysOn t_costOn t_aheads t_seen t_isKept t_lanes t_lengths t_cells 1 99 _ hc) (cwV 2 hts gX9_readDebt_X9_number rfl rfl rfl (by decide +kernel) ⟨Nat.le_of_ble_eq_true rfl, Nat.le_of_ble_eq_true rfl⟩) hK hP hD hS hA [0, 1, 2, 3, 4, 5, 6, 7, 8, 9, 10, 11, 12, 13, 14, 15, 16] [] [0, 1, 2, 3, 4, 5, 6, 7, 8, 9, 10, 11, 12, 13, 14, 15, 16] (w_Mod cI cB cZ cS cT qt qt_state qt_readPage qt_tape qt_cuts qt_letters qt_queue qt_busyTo qt_servedIn qt_waysOn qt_costOn qt_aheads qt_seen qt_isKept qt_lanes qt_lengths qt_cells t_hasLaw t_hasCounters o_4.2.1 t_taped t_fault o_9.2.1 o_9.2.2.1 o_9.2.2.2.1 o_9.2.2.2.2.1 o_9.2.2.2.2.2.1 o_9.2.2.2.2.2.2 t_queued t_payed t_bestWait t_bestWhom t_bestCoins t_seenMany t_torn t_state t_readPage t_tape t_cuts t_letters t_queue t_busyTo t_servedIn t_waysOn t_costOn t_aheads t_seen t_isKept t_lanes t_lengths t_cells) rfl rfl rfl rfl (by decide) rfl rfl 9 0 rfl rfl rfl rfl hl.1 rfl (Nat.le_of_ble_eq_true rfl) dX9_readDebt_60 ⟨Nat.zero_le _, Nat.zero_le _⟩ (fun H locs hP hD hS => ?_)
    refine lv_istore_n (lv' := [(3, .int o_9.1), (0, .ref qt), (1, .int o_2.1), (2, .int o_4.1)]) hx hb dX9_readDebt_63 rfl hl (by decide) rfl (fun ls hl => ?_)
    refine lv_aload_n hx hb dX9_readDebt_64 rfl (lv_at hl 1 rfl) ?_
    refine va_get (D := D) (ci := 9) (v := .int o_9.2.1) (C := RX9) (T := TX9) (N := 34) hx hb hts inX9w hown hK hP 0 rfl rfl 8 (by decide) hf67 (fun _ h9 => h9) rfl dX9_readDebt_65 ?_
    refine mr_if_ne (tgt := 86) hx hb hM dX9_readDebt_68 (by decide) (fun hM => ?_) (fun hM => ?_)
    · have hM := Option.some.inj hM
      subst hM
      exact mr_vret hx hb hr hlocks hQ hP hD hS dX9_readDebt_86
    · refine lv_aload_n hx hb dX9_readDebt_71 rfl (lv_at hl 1 rfl) ?_
      refine va_get (D := D) (ci := 9) (v := .ref qt_readPage) (C := RX9) (T := TX9) (N := 34) hx hb hts inX9w hown hK hP 0 rfl rfl 1 (by decide) hf13 (fun _ h9 => h9) rfl dX9_readDebt_72 ?_
      refine lv_bipush (v := 42) hx hb dX9_readDebt_75 (by decide) ?_
      refine lv_bipush (v := 7) hx hb dX9_readDebt_77 (by decide) ?_
      refine lv_iload_n hx hb dX9_readDebt_79 rfl (lv_at hl 2 rfl) ?_
      refine lv_imul hx hb dX9_readDebt_80 ?_
      refine lv_iadd hx hb dX9_readDebt_81 ?_
      refine lv_iload_n hx hb dX9_readDebt_82 rfl (lv_at hl 3 rfl) ?_
      refine lv_iadd hx hb dX9_readDebt_83 ?_
      refine lv_iload_n hx hb dX9_readDebt_84 rfl (lv_at hl 0 rfl) ?_
      refine mr_iast hx hb hK hP hD hS 2 0 (fun t_readPage_10 => (w_Mod cI cB cZ cS cT qt qt_state qt_readPage qt_tape qt_cuts qt_letters qt_queue qt_busyTo qt_servedIn qt_waysOn qt_costOn qt_aheads qt_seen qt_isKept qt_lanes qt_lengths qt_cells t_hasLaw t_hasCounters o_4.2.1 t_taped t_fault o_9.2.1 o_9.2.2.1 o_9.2.2.2.1 o_9.2.2.2.2.1 o_9.2.2.2.2.2.1 o_9.2.2.2.2.2.2 t_queued t_payed t_bestWait t_bestWhom t_bestCoins t_seenMany t_torn t_state t_readPage_10 t_tape t_cuts t_letters t_queue t_busyTo t_servedIn t_waysOn t_costOn t_aheads t_seen t_isKept t_lanes t_lengths t_cells)) rfl rfl (fun _ => rfl) hM dX9_readDebt_85 (fun t_readPage_10 hM H locs hP hD hS => ?_)
      have hM := Option.some.inj hM
      subst hM
      exact mr_vret hx hb hr hlocks hQ hP hD hS dX9_readDebt_86
  · refine mr_if_ne (tgt := 52) hx hb hM dX9_readDebt_22 (by decide) (fun hM => ?_) (fun hM => ?_)
    · exact hj52_5 o_4.2.2.1 o_4.2.2.2 hM _ _ hP hD hS ls (lv_sub hl [2, 1, 0] rfl)
    · refine lv_iload_n hx hb dX9_readDebt_25 rfl (lv_at hl 1 rfl) ?_
      refine lv_iload_n hx hb dX9_readDebt_26 rfl (lv_at hl 0 rfl) ?_
      refine mr_jn hM (fun j47_11 => ∀ _u : Unit, j47_11 _u = some o → ∀ (H : Heap) (locs : List Loc), va_P D vwCl (w_Mod cI cB cZ cS cT qt qt_state qt_readPage qt_tape qt_cuts qt_letters qt_queue qt_busyTo qt_servedIn qt_waysOn qt_costOn qt_aheads qt_seen qt_isKept qt_lanes qt_lengths qt_cells t_hasLaw t_hasCounters o_4.2.1 t_taped t_fault o_4.2.2.1 o_4.2.2.2 o_3.2.2.1 o_3.2.2.2.1 o_3.2.2.2.2.1 o_3.2.2.2.2.2 t_queued t_payed t_bestWait t_bestWhom t_bestCoins t_seenMany t_torn t_state t_readPage t_tape t_cuts t_letters t_queue t_busyTo t_servedIn t_waysOn t_costOn t_aheads t_seen t_isKept t_lanes t_lengths t_cells) H → va_D A (w_Mod cI cB cZ cS cT qt qt_state qt_readPage qt_tape qt_cuts qt_letters qt_queue qt_busyTo qt_servedIn qt_waysOn qt_costOn qt_aheads qt_seen qt_isKept qt_lanes qt_lengths qt_cells t_hasLaw t_hasCounters o_4.2.1 t_taped t_fault o_4.2.2.1 o_4.2.2.2 o_3.2.2.1 o_3.2.2.2.1 o_3.2.2.2.2.1 o_3.2.2.2.2.2 t_queued t_payed t_bestWait t_bestWhom t_bestCoins t_seenMany t_torn t_state t_readPage t_tape t_cuts t_letters t_queue t_busyTo t_servedIn t_waysOn t_costOn t_aheads t_seen t_isKept t_lanes t_lengths t_cells) → va_S A s.heap H locs → ∀ ls : Array Slot, lv_has ls 4 [(0, .ref qt), (1, .int o_2.1), (2, .int o_4.1)] → W p l e rmX9_readDebt s m av below meth c H locs 0 0 Q (F0 m 47 ls [])) (fun _u hM H locs hP hD hS ls hl => ?_) (fun j47_11 hj47_11 hM => ?_)
      · refine lv_aload_n hx hb dX9_readDebt_47 rfl (lv_at hl 0 rfl) ?_
        refine lv_iconst (v := 4) hx hb dX9_readDebt_48 (by decide) ?_
        obtain ⟨o_12, hc, hM⟩ := bind_so hM
        refine mr_callVv (As := [.int 4]) (rest := []) (wr := []) ⟨hx, hb, hml, hown, hts⟩ (k_Mod_fails l D cI cB cZ cS cT qt qt_state qt_readPage qt_tape qt_cuts qt_letters qt_queue qt_busyTo qt_servedIn qt_waysOn qt_costOn qt_aheads qt_seen qt_isKept qt_lanes qt_lengths qt_cells t_hasLaw t_hasCounters o_4.2.1 t_taped t_fault o_4.2.2.1 o_4.2.2.2 o_3.2.2.1 o_3.2.2.2.1 o_3.2.2.2.2.1 o_3.2.2.2.2.2 t_queued t_payed t_bestWait t_bestWhom t_bestCoins t_seenMany t_torn t_state t_readPage t_tape t_cuts t_letters t_queue t_busyTo t_servedIn t_waysOn t_costOn t_aheads t_seen t_isKept t_lanes t_lengths t_cells 4 _ hc) (cwV 1 hts gX9_readDebt_X9_fails rfl rfl rfl (by decide +kernel) ⟨Nat.le_of_ble_eq_true rfl, Nat.le_of_ble_eq_true rfl⟩) hK hP hD hS hA [0, 1, 2, 3, 4, 5, 6, 7, 8, 9, 10, 11, 12, 13, 14, 15, 16] [] [0, 1, 2, 3, 4, 5, 6, 7, 8, 9, 10, 11, 12, 13, 14, 15, 16] (w_Mod cI cB cZ cS cT qt qt_state qt_readPage qt_tape qt_cuts qt_letters qt_queue qt_busyTo qt_servedIn qt_waysOn qt_costOn qt_aheads qt_seen qt_isKept qt_lanes qt_lengths qt_cells t_hasLaw t_hasCounters o_4.2.1 t_taped t_fault o_12.1 o_12.2 o_3.2.2.1 o_3.2.2.2.1 o_3.2.2.2.2.1 o_3.2.2.2.2.2 t_queued t_payed t_bestWait t_bestWhom t_bestCoins t_seenMany t_torn t_state t_readPage t_tape t_cuts t_letters t_queue t_busyTo t_servedIn t_waysOn t_costOn t_aheads t_seen t_isKept t_lanes t_lengths t_cells) rfl rfl rfl rfl (by decide) rfl rfl 9 0 rfl rfl rfl rfl hl.1 rfl (Nat.le_of_ble_eq_true rfl) dX9_readDebt_49 ⟨Nat.zero_le _, Nat.zero_le _⟩ (fun H locs hP hD hS => ?_)
        exact hj52_5 o_12.1 o_12.2 hM _ _ hP hD hS ls (lv_sub hl [0, 1, 2] rfl)
      · refine mr_icmp_eq (tgt := 47) hx hb hM dX9_readDebt_27 (by decide) (fun hM => ?_) (fun hM => ?_)
        · exact hj47_11 () hM _ _ hP hD hS ls (lv_sub hl [2, 1, 0] rfl)
        · refine lv_aload_n hx hb dX9_readDebt_30 rfl (lv_at hl 2 rfl) ?_
          refine va_get (D := D) (ci := 9) (v := .ref qt_readPage) (C := RX9) (T := TX9) (N := 34) hx hb hts inX9w hown hK hP 0 rfl rfl 1 (by decide) hf13 (fun _ h9 => h9) rfl dX9_readDebt_31 ?_
          refine lv_bipush (v := 42) hx hb dX9_readDebt_34 (by decide) ?_
          refine lv_bipush (v := 7) hx hb dX9_readDebt_36 (by decide) ?_
          refine lv_iload_n hx hb dX9_readDebt_38 rfl (lv_at hl 1 rfl) ?_
          refine lv_imul hx hb dX9_readDebt_39 ?_
          refine lv_iadd hx hb dX9_readDebt_40 ?_
          refine lv_iload_n hx hb dX9_readDebt_41 rfl (lv_at hl 0 rfl) ?_
          refine lv_iadd hx hb dX9_readDebt_42 ?_
          refine mr_iald hx hb hK hP 2 0 rfl rfl hM dX9_readDebt_43 (fun v_13 hM => ?_)
          refine mr_if_le (tgt := 52) hx hb hM dX9_readDebt_44 (by decide) (fun hM => ?_) (fun hM => ?_)
          · exact hj52_5 o_4.2.2.1 o_4.2.2.2 hM _ _ hP hD hS ls (lv_sub hl [2, 1, 0] rfl)
          · exact hj47_11 () hM _ _ hP hD hS ls (lv_sub hl [2, 1, 0] rfl)

abbrev rmX9_readLine : Room := { frames := 4, cells := 0, slots := 0, locals := 93 }
set_option maxHeartbeats 40000000 in
set_option maxRecDepth 100000 in
theorem k_Mod_readLine (l : Launch) (D : va_G) (cI cB cZ cS cT : ClassId) (qt qt_state qt_readPage qt_tape qt_cuts qt_letters qt_queue qt_busyTo qt_servedIn qt_waysOn qt_costOn qt_aheads qt_seen qt_isKept qt_lanes qt_lengths qt_cells : Nat) (t_hasLaw t_hasCounters t_highest t_taped t_fault t_broken t_brokenAt t_spot t_here t_token t_value t_queued t_payed t_bestWait t_bestWhom t_bestCoins t_seenMany t_torn : Int32) (t_state t_readPage t_tape t_cuts t_letters t_queue t_busyTo t_servedIn t_waysOn t_costOn t_aheads t_seen t_isKept t_lanes t_lengths t_cells : Nat → Int32)  (o : Int32 × Int32 × Int32 × Int32 × Int32 × Int32 × Int32 × Int32 × Int32 × (Nat → Int32)) (hM : Mod_readLine t_hasLaw t_hasCounters t_highest t_taped t_broken t_brokenAt t_spot t_here t_token t_value t_readPage t_tape t_cuts t_letters = some o) : mtV l yX9_readLine wsX9_readLine rmX9_readLine D (tys5 cI cB cZ cS cT) [.ref qt] (w_Mod cI cB cZ cS cT qt qt_state qt_readPage qt_tape qt_cuts qt_letters qt_queue qt_busyTo qt_servedIn qt_waysOn qt_costOn qt_aheads qt_seen qt_isKept qt_lanes qt_lengths qt_cells t_hasLaw t_hasCounters t_highest t_taped t_fault t_broken t_brokenAt t_spot t_here t_token t_value t_queued t_payed t_bestWait t_bestWhom t_bestCoins t_seenMany t_torn t_state t_readPage t_tape t_cuts t_letters t_queue t_busyTo t_servedIn t_waysOn t_costOn t_aheads t_seen t_isKept t_lanes t_lengths t_cells) (w_Mod cI cB cZ cS cT qt qt_state qt_readPage qt_tape qt_cuts qt_letters qt_queue qt_busyTo qt_servedIn qt_waysOn qt_costOn qt_aheads qt_seen qt_isKept qt_lanes qt_lengths qt_cells o.1 o.2.1 o.2.2.1 t_taped t_fault o.2.2.2.1 o.2.2.2.2.1 o.2.2.2.2.2.1 o.2.2.2.2.2.2.1 o.2.2.2.2.2.2.2.1 o.2.2.2.2.2.2.2.2.1 t_queued t_payed t_bestWait t_bestWhom t_bestCoins t_seenMany t_torn t_state o.2.2.2.2.2.2.2.2.2 t_tape t_cuts t_letters t_queue t_busyTo t_servedIn t_waysOn t_costOn t_aheads t_seen t_isKept t_lanes t_lengths t_cells) := by
  refine mtV.of (cc := cX9_readLine) (maxL := 2) (ret := none) (by decide) rfl (Nat.le_of_ble_eq_true rfl) ?_
  intro p e s m below meth c A Q av hav hQ hx hb hr hml hown hts hlocks hK hP hD hA hS ls hl
  have hown : s.vm.findClass RX9 = some m.cls := hown
  have hl : lv_has ls 2 [(0, .ref qt)] := hl
  unfold Mod_readLine at hM
  have inX9w : ∀ w ∈ u_ws RX9 TX9 34, w ∈ wsX9_readLine := by decide +kernel
  have hfc121 := hts (.constantLong RX9 121 3) (by decide +kernel)
  have hf67 := hts (.fieldLink RX9 67 "LetsInModel" "broken" "I") (by decide +kernel)
  have hf76 := hts (.fieldLink RX9 76 "LetsInModel" "token" "I") (by decide +kernel)
  have hf133 := hts (.fieldLink RX9 133 "LetsInModel" "hasCounters" "Z") (by decide +kernel)
  have hf13 := hts (.fieldLink RX9 13 "LetsInModel" "readPage" "[I") (by decide +kernel)
  have hf129 := hts (.fieldLink RX9 129 "LetsInModel" "hasLaw" "Z") (by decide +kernel)
  refine lv_aload_n hx hb dX9_readLine_0 rfl (lv_at hl 0 rfl) ?_
  obtain ⟨o_1, hc, hM⟩ := bind_so hM
  refine mr_callVi (As := []) (rest := []) (wr := []) ⟨hx, hb, hml, hown, hts⟩ (k_Mod_nameHere l D cI cB cZ cS cT qt qt_state qt_readPage qt_tape qt_cuts qt_letters qt_queue qt_busyTo qt_servedIn qt_waysOn qt_costOn qt_aheads qt_seen qt_isKept qt_lanes qt_lengths qt_cells t_hasLaw t_hasCounters t_highest t_taped t_fault t_broken t_brokenAt t_spot t_here t_token t_value t_queued t_payed t_bestWait t_bestWhom t_bestCoins t_seenMany t_torn t_state t_readPage t_tape t_cuts t_letters t_queue t_busyTo t_servedIn t_waysOn t_costOn t_aheads t_seen t_isKept t_lanes t_lengths t_cells  _ hc) (cwV 0 hts gX9_readLine_X9_nameHere rfl rfl rfl (by decide +kernel) ⟨Nat.le_of_ble_eq_true rfl, Nat.le_of_ble_eq_true rfl⟩) hK hP hD hS hA [0, 1, 2, 3, 4, 5, 6, 7, 8, 9, 10, 11, 12, 13, 14, 15, 16] [] [0, 1, 2, 3, 4, 5, 6, 7, 8, 9, 10, 11, 12, 13, 14, 15, 16] (w_Mod cI cB cZ cS cT qt qt_state qt_readPage qt_tape qt_cuts qt_letters qt_queue qt_busyTo qt_servedIn qt_waysOn qt_costOn qt_aheads qt_seen qt_isKept qt_lanes qt_lengths qt_cells t_hasLaw t_hasCounters t_highest t_taped t_fault t_broken t_brokenAt t_spot t_here t_token t_value t_queued t_payed t_bestWait t_bestWhom t_bestCoins t_seenMany t_torn t_state t_readPage t_tape t_cuts t_letters t_queue t_busyTo t_servedIn t_waysOn t_costOn t_aheads t_seen t_isKept t_lanes t_lengths t_cells) rfl rfl rfl rfl (by decide) rfl rfl 9 0 rfl rfl rfl rfl hl.1 rfl (Nat.le_of_ble_eq_true rfl) dX9_readLine_1 ⟨Nat.zero_le _, Nat.zero_le _⟩ (fun H locs hP hD hS => ?_)
  refine lv_istore_n (lv' := [(1, .int o_1), (0, .ref qt)]) hx hb dX9_readLine_4 rfl hl (by decide) rfl (fun ls hl => ?_)
  refine lv_iload_n hx hb dX9_readLine_5 rfl (lv_at hl 0 rfl) ?_
  refine lv_i2l hx hb dX9_readLine_6 rfl ?_
  refine lv_lconst (v := 0) hx hb dX9_readLine_7 (by decide) ?_
  refine lv_ldc2 (v := 3) hx hb hown hfc121 dX9_readLine_8 ?_
  obtain ⟨o_2, hc, hM⟩ := bind_so hM
  refine mr_callSi (As := [.long o_1.toInt64, .long 0, .long 3]) (rest := []) ⟨hx, hb, hml, hown, hts⟩ (k_Mod_in l D cI cB cZ cS cT   o_1.toInt64 0 3 _ hc) (cwS 3 hts gX9_readLine_X9_in rfl rfl rfl (by decide +kernel) ⟨Nat.le_of_ble_eq_true rfl, Nat.le_of_ble_eq_true rfl⟩) hK hP hD hS hA rfl hl.1 rfl (Nat.le_of_ble_eq_true rfl) dX9_readLine_11 ⟨Nat.zero_le _, Nat.zero_le _⟩ (fun H locs hP hS => ?_)
  refine mr_if_ne (tgt := 23) hx hb hM dX9_readLine_14 (by decide) (fun hM => ?_) (fun hM => ?_)
  · refine lv_iload_n hx hb dX9_readLine_23 rfl (lv_at hl 0 rfl) ?_
    refine lv_iconst (v := 2) hx hb dX9_readLine_24 (by decide) ?_
    refine mr_jn hM (fun j124_3 => ∀ (t_hasLaw_4 t_hasCounters_5 t_highest_6 t_broken_7 t_brokenAt_8 t_spot_9 t_here_10 t_token_11 t_value_12 : Int32) (t_readPage_13 : Nat → Int32), j124_3 t_hasLaw_4 t_hasCounters_5 t_highest_6 t_broken_7 t_brokenAt_8 t_spot_9 t_here_10 t_token_11 t_value_12 t_readPage_13 = some o → ∀ (H : Heap) (locs : List Loc), va_P D vwCl (w_Mod cI cB cZ cS cT qt qt_state qt_readPage qt_tape qt_cuts qt_letters qt_queue qt_busyTo qt_servedIn qt_waysOn qt_costOn qt_aheads qt_seen qt_isKept qt_lanes qt_lengths qt_cells t_hasLaw_4 t_hasCounters_5 t_highest_6 t_taped t_fault t_broken_7 t_brokenAt_8 t_spot_9 t_here_10 t_token_11 t_value_12 t_queued t_payed t_bestWait t_bestWhom t_bestCoins t_seenMany t_torn t_state t_readPage_13 t_tape t_cuts t_letters t_queue t_busyTo t_servedIn t_waysOn t_costOn t_aheads t_seen t_isKept t_lanes t_lengths t_cells) H → va_D A (w_Mod cI cB cZ cS cT qt qt_state qt_readPage qt_tape qt_cuts qt_letters qt_queue qt_busyTo qt_servedIn qt_waysOn qt_costOn qt_aheads qt_seen qt_isKept qt_lanes qt_lengths qt_cells t_hasLaw_4 t_hasCounters_5 t_highest_6 t_taped t_fault t_broken_7 t_brokenAt_8 t_spot_9 t_here_10 t_token_11 t_value_12 t_queued t_payed t_bestWait t_bestWhom t_bestCoins t_seenMany t_torn t_state t_readPage_13 t_tape t_cuts t_letters t_queue t_busyTo t_servedIn t_waysOn t_costOn t_aheads t_seen t_isKept t_lanes t_lengths t_cells) → va_S A s.heap H locs → ∀ ls : Array Slot, lv_has ls 2 [(0, .ref qt)] → W p l e rmX9_readLine s m av below meth c H locs 0 0 Q (F0 m 124 ls [])) (fun t_hasLaw_4 t_hasCounters_5 t_highest_6 t_broken_7 t_brokenAt_8 t_spot_9 t_here_10 t_token_11 t_value_12 t_readPage_13 hM H locs hP hD hS ls hl => ?_) (fun j124_3 hj124_3 hM => ?_)
    · refine lv_aload_n hx hb dX9_readLine_124 rfl (lv_at hl 0 rfl) ?_
      refine va_get (D := D) (ci := 9) (v := .int t_broken_7) (C := RX9) (T := TX9) (N := 34) hx hb hts inX9w hown hK hP 0 rfl rfl 8 (by decide) hf67 (fun _ h9 => h9) rfl dX9_readLine_125 ?_
      refine mr_jn hM (fun j144_14 => ∀ (t_broken_15 t_brokenAt_16 : Int32), j144_14 t_broken_15 t_brokenAt_16 = some o → ∀ (H : Heap) (locs : List Loc), va_P D vwCl (w_Mod cI cB cZ cS cT qt qt_state qt_readPage qt_tape qt_cuts qt_letters qt_queue qt_busyTo qt_servedIn qt_waysOn qt_costOn qt_aheads qt_seen qt_isKept qt_lanes qt_lengths qt_cells t_hasLaw_4 t_hasCounters_5 t_highest_6 t_taped t_fault t_broken_15 t_brokenAt_16 t_spot_9 t_here_10 t_token_11 t_value_12 t_queued t_payed t_bestWait t_bestWhom t_bestCoins t_seenMany t_torn t_state t_readPage_13 t_tape t_cuts t_letters t_queue t_busyTo t_servedIn t_waysOn t_costOn t_aheads t_seen t_isKept t_lanes t_lengths t_cells) H → va_D A (w_Mod cI cB cZ cS cT qt qt_state qt_readPage qt_tape qt_cuts qt_letters qt_queue qt_busyTo qt_servedIn qt_waysOn qt_costOn qt_aheads qt_seen qt_isKept qt_lanes qt_lengths qt_cells t_hasLaw_4 t_hasCounters_5 t_highest_6 t_taped t_fault t_broken_15 t_brokenAt_16 t_spot_9 t_here_10 t_token_11 t_value_12 t_queued t_payed t_bestWait t_bestWhom t_bestCoins t_seenMany t_torn t_state t_readPage_13 t_tape t_cuts t_letters t_queue t_busyTo t_servedIn t_waysOn t_costOn t_aheads t_seen t_isKept t_lanes t_lengths t_cells) → va_S A s.heap H locs → ∀ ls : Array Slot, lv_has ls 2 [(0, .ref qt)] → W p l e rmX9_readLine s m av below meth c H locs 0 0 Q (F0 m 144 ls [])) (fun t_broken_15 t_brokenAt_16 hM H locs hP hD hS ls hl => ?_) (fun j144_14 hj144_14 hM => ?_)
      · refine lv_aload_n hx hb dX9_readLine_144 rfl (lv_at hl 0 rfl) ?_
        obtain ⟨o_17, hc, hM⟩ := bind_so hM
        refine mr_callVv (As := []) (rest := []) (wr := []) ⟨hx, hb, hml, hown, hts⟩ (k_Mod_step l D cI cB cZ cS cT qt qt_state qt_readPage qt_tape qt_cuts qt_letters qt_queue qt_busyTo qt_servedIn qt_waysOn qt_costOn qt_aheads qt_seen qt_isKept qt_lanes qt_lengths qt_cells t_hasLaw_4 t_hasCounters_5 t_highest_6 t_taped t_fault t_broken_15 t_brokenAt_16 t_spot_9 t_here_10 t_token_11 t_value_12 t_queued t_payed t_bestWait t_bestWhom t_bestCoins t_seenMany t_torn t_state t_readPage_13 t_tape t_cuts t_letters t_queue t_busyTo t_servedIn t_waysOn t_costOn t_aheads t_seen t_isKept t_lanes t_lengths t_cells  _ hc) (cwV 0 hts gX9_readLine_X9_step rfl rfl rfl (by decide +kernel) ⟨Nat.le_of_ble_eq_true rfl, Nat.le_of_ble_eq_true rfl⟩) hK hP hD hS hA [0, 1, 2, 3, 4, 5, 6, 7, 8, 9, 10, 11, 12, 13, 14, 15, 16] [] [0, 1, 2, 3, 4, 5, 6, 7, 8, 9, 10, 11, 12, 13, 14, 15, 16] (w_Mod cI cB cZ cS cT qt qt_state qt_readPage qt_tape qt_cuts qt_letters qt_queue qt_busyTo qt_servedIn qt_waysOn qt_costOn qt_aheads qt_seen qt_isKept qt_lanes qt_lengths qt_cells t_hasLaw_4 t_hasCounters_5 t_highest_6 t_taped t_fault o_17.1 o_17.2.1 o_17.2.2.1 o_17.2.2.2.1 o_17.2.2.2.2.1 o_17.2.2.2.2.2 t_queued t_payed t_bestWait t_bestWhom t_bestCoins t_seenMany t_torn t_state t_readPage_13 t_tape t_cuts t_letters t_queue t_busyTo t_servedIn t_waysOn t_costOn t_aheads t_seen t_isKept t_lanes t_lengths t_cells) rfl rfl rfl rfl (by decide) rfl rfl 9 0 rfl rfl rfl rfl hl.1 rfl (Nat.le_of_ble_eq_true rfl) dX9_readLine_145 ⟨Nat.zero_le _, Nat.zero_le _⟩ (fun H locs hP hD hS => ?_)
        have hM := Option.some.inj hM
        subst hM
        exact mr_vret hx hb hr hlocks hQ hP hD hS dX9_readLine_148
      · refine mr_if_ne (tgt := 144) hx hb hM dX9_readLine_128 (by decide) (fun hM => ?_) (fun hM => ?_)
        · exact hj144_14 t_broken_7 t_brokenAt_8 hM _ _ hP hD hS ls (lv_sub hl [0] rfl)
        · refine lv_aload_n hx hb dX9_readLine_131 rfl (lv_at hl 0 rfl) ?_
          refine va_get (D := D) (ci := 9) (v := .int t_token_11) (C := RX9) (T := TX9) (N := 34) hx hb hts inX9w hown hK hP 0 rfl rfl 12 (by decide) hf76 (fun _ h9 => h9) rfl dX9_readLine_132 ?_
          refine lv_iconst (v := 3) hx hb dX9_readLine_135 (by decide) ?_
          refine mr_icmp_eq (tgt := 144) hx hb hM dX9_readLine_136 (by decide) (fun hM => ?_) (fun hM => ?_)
          · exact hj144_14 t_broken_7 t_brokenAt_8 hM _ _ hP hD hS ls (lv_sub hl [0] rfl)
          · refine lv_aload_n hx hb dX9_readLine_139 rfl (lv_at hl 0 rfl) ?_
            refine lv_iconst (v := 2) hx hb dX9_readLine_140 (by decide) ?_
            obtain ⟨o_18, hc, hM⟩ := bind_so hM
            refine mr_callVv (As := [.int 2]) (rest := []) (wr := []) ⟨hx, hb, hml, hown, hts⟩ (k_Mod_fails l D cI cB cZ cS cT qt qt_state qt_readPage qt_tape qt_cuts qt_letters qt_queue qt_busyTo qt_servedIn qt_waysOn qt_costOn qt_aheads qt_seen qt_isKept qt_lanes qt_lengths qt_cells t_hasLaw_4 t_hasCounters_5 t_highest_6 t_taped t_fault t_broken_7 t_brokenAt_8 t_spot_9 t_here_10 t_token_11 t_value_12 t_queued t_payed t_bestWait t_bestWhom t_bestCoins t_seenMany t_torn t_state t_readPage_13 t_tape t_cuts t_letters t_queue t_busyTo t_servedIn t_waysOn t_costOn t_aheads t_seen t_isKept t_lanes t_lengths t_cells 2 _ hc) (cwV 1 hts gX9_readLine_X9_fails rfl rfl rfl (by decide +kernel) ⟨Nat.le_of_ble_eq_true rfl, Nat.le_of_ble_eq_true rfl⟩) hK hP hD hS hA [0, 1, 2, 3, 4, 5, 6, 7, 8, 9, 10, 11, 12, 13, 14, 15, 16] [] [0, 1, 2, 3, 4, 5, 6, 7, 8, 9, 10, 11, 12, 13, 14, 15, 16] (w_Mod cI cB cZ cS cT qt qt_state qt_readPage qt_tape qt_cuts qt_letters qt_queue qt_busyTo qt_servedIn qt_waysOn qt_costOn qt_aheads qt_seen qt_isKept qt_lanes qt_lengths qt_cells t_hasLaw_4 t_hasCounters_5 t_highest_6 t_taped t_fault o_18.1 o_18.2 t_spot_9 t_here_10 t_token_11 t_value_12 t_queued t_payed t_bestWait t_bestWhom t_bestCoins t_seenMany t_torn t_state t_readPage_13 t_tape t_cuts t_letters t_queue t_busyTo t_servedIn t_waysOn t_costOn t_aheads t_seen t_isKept t_lanes t_lengths t_cells) rfl rfl rfl rfl (by decide) rfl rfl 9 0 rfl rfl rfl rfl hl.1 rfl (Nat.le_of_ble_eq_true rfl) dX9_readLine_141 ⟨Nat.zero_le _, Nat.zero_le _⟩ (fun H locs hP hD hS => ?_)
            exact hj144_14 o_18.1 o_18.2 hM _ _ hP hD hS ls (lv_sub hl [0] rfl)
    · refine mr_icmp_ne (tgt := 35) hx hb hM dX9_readLine_25 (by decide) (fun hM => ?_) (fun hM => ?_)
      · refine lv_iload_n hx hb dX9_readLine_35 rfl (lv_at hl 0 rfl) ?_
        refine lv_iconst (v := 3) hx hb dX9_readLine_36 (by decide) ?_
        refine mr_icmp_ne (tgt := 47) hx hb hM dX9_readLine_37 (by decide) (fun hM => ?_) (fun hM => ?_)
        · refine lv_iload_n hx hb dX9_readLine_47 rfl (lv_at hl 0 rfl) ?_
          refine mr_if_ne (tgt := 88) hx hb hM dX9_readLine_48 (by decide) (fun hM => ?_) (fun hM => ?_)
          · refine lv_aload_n hx hb dX9_readLine_88 rfl (lv_at hl 1 rfl) ?_
            refine va_get (D := D) (ci := 9) (v := .int t_hasCounters) (C := RX9) (T := TX9) (N := 34) hx hb hts inX9w hown hK hP 0 rfl rfl 3 (by decide) hf133 (fun _ h9 => h9) rfl dX9_readLine_89 ?_
            refine mr_jn hM (fun j100_19 => ∀ (t_broken_20 t_brokenAt_21 : Int32), j100_19 t_broken_20 t_brokenAt_21 = some o → ∀ (H : Heap) (locs : List Loc), va_P D vwCl (w_Mod cI cB cZ cS cT qt qt_state qt_readPage qt_tape qt_cuts qt_letters qt_queue qt_busyTo qt_servedIn qt_waysOn qt_costOn qt_aheads qt_seen qt_isKept qt_lanes qt_lengths qt_cells t_hasLaw t_hasCounters t_highest t_taped t_fault t_broken_20 t_brokenAt_21 t_spot t_here t_token t_value t_queued t_payed t_bestWait t_bestWhom t_bestCoins t_seenMany t_torn t_state t_readPage t_tape t_cuts t_letters t_queue t_busyTo t_servedIn t_waysOn t_costOn t_aheads t_seen t_isKept t_lanes t_lengths t_cells) H → va_D A (w_Mod cI cB cZ cS cT qt qt_state qt_readPage qt_tape qt_cuts qt_letters qt_queue qt_busyTo qt_servedIn qt_waysOn qt_costOn qt_aheads qt_seen qt_isKept qt_lanes qt_lengths qt_cells t_hasLaw t_hasCounters t_highest t_taped t_fault t_broken_20 t_brokenAt_21 t_spot t_here t_token t_value t_queued t_payed t_bestWait t_bestWhom t_bestCoins t_seenMany t_torn t_state t_readPage t_tape t_cuts t_letters t_queue t_busyTo t_servedIn t_waysOn t_costOn t_aheads t_seen t_isKept t_lanes t_lengths t_cells) → va_S A s.heap H locs → ∀ ls : Array Slot, lv_has ls 2 [(0, .ref qt)] → W p l e rmX9_readLine s m av below meth c H locs 0 0 Q (F0 m 100 ls [])) (fun t_broken_20 t_brokenAt_21 hM H locs hP hD hS ls hl => ?_) (fun j100_19 hj100_19 hM => ?_)
            · refine lv_aload_n hx hb dX9_readLine_100 rfl (lv_at hl 0 rfl) ?_
              refine lv_iconst (v := 1) hx hb dX9_readLine_101 (by decide) ?_
              refine mr_put (D := D) (ci := 9) (v := .int 1) (ty := .boolean) (C := RX9) (T := TX9) (N := 34) hx hb hts inX9w tyX9 tyX9_ok nmX9 hown hK hP hD hS 0 rfl rfl 3 (by decide) hf133 (fun _ h9 => h9) rfl (by decide +kernel) rfl rfl (Nat.le_of_ble_eq_true rfl) dX9_readLine_102 (w_Mod cI cB cZ cS cT qt qt_state qt_readPage qt_tape qt_cuts qt_letters qt_queue qt_busyTo qt_servedIn qt_waysOn qt_costOn qt_aheads qt_seen qt_isKept qt_lanes qt_lengths qt_cells t_hasLaw 1 t_highest t_taped t_fault t_broken_20 t_brokenAt_21 t_spot t_here t_token t_value t_queued t_payed t_bestWait t_bestWhom t_bestCoins t_seenMany t_torn t_state t_readPage t_tape t_cuts t_letters t_queue t_busyTo t_servedIn t_waysOn t_costOn t_aheads t_seen t_isKept t_lanes t_lengths t_cells) rfl (fun H locs hP hD hS => ?_)
              refine lv_aload_n hx hb dX9_readLine_105 rfl (lv_at hl 0 rfl) ?_
              obtain ⟨o_22, hc, hM⟩ := bind_so hM
              refine mr_callVv (As := []) (rest := []) (wr := []) ⟨hx, hb, hml, hown, hts⟩ (k_Mod_step l D cI cB cZ cS cT qt qt_state qt_readPage qt_tape qt_cuts qt_letters qt_queue qt_busyTo qt_servedIn qt_waysOn qt_costOn qt_aheads qt_seen qt_isKept qt_lanes qt_lengths qt_cells t_hasLaw 1 t_highest t_taped t_fault t_broken_20 t_brokenAt_21 t_spot t_here t_token t_value t_queued t_payed t_bestWait t_bestWhom t_bestCoins t_seenMany t_torn t_state t_readPage t_tape t_cuts t_letters t_queue t_busyTo t_servedIn t_waysOn t_costOn t_aheads t_seen t_isKept t_lanes t_lengths t_cells  _ hc) (cwV 0 hts gX9_readLine_X9_step rfl rfl rfl (by decide +kernel) ⟨Nat.le_of_ble_eq_true rfl, Nat.le_of_ble_eq_true rfl⟩) hK hP hD hS hA [0, 1, 2, 3, 4, 5, 6, 7, 8, 9, 10, 11, 12, 13, 14, 15, 16] [] [0, 1, 2, 3, 4, 5, 6, 7, 8, 9, 10, 11, 12, 13, 14, 15, 16] (w_Mod cI cB cZ cS cT qt qt_state qt_readPage qt_tape qt_cuts qt_letters qt_queue qt_busyTo qt_servedIn qt_waysOn qt_costOn qt_aheads qt_seen qt_isKept qt_lanes qt_lengths qt_cells t_hasLaw 1 t_highest t_taped t_fault o_22.1 o_22.2.1 o_22.2.2.1 o_22.2.2.2.1 o_22.2.2.2.2.1 o_22.2.2.2.2.2 t_queued t_payed t_bestWait t_bestWhom t_bestCoins t_seenMany t_torn t_state t_readPage t_tape t_cuts t_letters t_queue t_busyTo t_servedIn t_waysOn t_costOn t_aheads t_seen t_isKept t_lanes t_lengths t_cells) rfl rfl rfl rfl (by decide) rfl rfl 9 0 rfl rfl rfl rfl hl.1 rfl (Nat.le_of_ble_eq_true rfl) dX9_readLine_106 ⟨Nat.zero_le _, Nat.zero_le _⟩ (fun H locs hP hD hS => ?_)
              refine lv_aload_n hx hb dX9_readLine_109 rfl (lv_at hl 0 rfl) ?_
              refine va_get (D := D) (ci := 9) (v := .ref qt_readPage) (C := RX9) (T := TX9) (N := 34) hx hb hts inX9w hown hK hP 0 rfl rfl 1 (by decide) hf13 (fun _ h9 => h9) rfl dX9_readLine_110 ?_
              refine lv_bipush (v := 92) hx hb dX9_readLine_113 (by decide) ?_
              refine lv_aload_n hx hb dX9_readLine_115 rfl (lv_at hl 0 rfl) ?_
              refine lv_iconst (v := 1) hx hb dX9_readLine_116 (by decide) ?_
              refine lv_iconst (v := 2) hx hb dX9_readLine_117 (by decide) ?_
              obtain ⟨o_23, hc, hM⟩ := bind_so hM
              refine mr_callVi (As := [.int 1, .int 2]) (rest := [.int 92, .ref qt_readPage]) (wr := []) ⟨hx, hb, hml, hown, hts⟩ (k_Mod_number l D cI cB cZ cS cT qt qt_state qt_readPage qt_tape qt_cuts qt_letters qt_queue qt_busyTo qt_servedIn qt_waysOn qt_costOn qt_aheads qt_seen qt_isKept qt_lanes qt_lengths qt_cells t_hasLaw 1 t_highest t_taped t_fault o_22.1 o_22.2.1 o_22.2.2.1 o_22.2.2.2.1 o_22.2.2.2.2.1 o_22.2.2.2.2.2 t_queued t_payed t_bestWait t_bestWhom t_bestCoins t_seenMany t_torn t_state t_readPage t_tape t_cuts t_letters t_queue t_busyTo t_servedIn t_waysOn t_costOn t_aheads t_seen t_isKept t_lanes t_lengths t_cells 1 2 _ hc) (cwV 2 hts gX9_readLine_X9_number rfl rfl rfl (by decide +kernel) ⟨Nat.le_of_ble_eq_true rfl, Nat.le_of_ble_eq_true rfl⟩) hK hP hD hS hA [0, 1, 2, 3, 4, 5, 6, 7, 8, 9, 10, 11, 12, 13, 14, 15, 16] [] [0, 1, 2, 3, 4, 5, 6, 7, 8, 9, 10, 11, 12, 13, 14, 15, 16] (w_Mod cI cB cZ cS cT qt qt_state qt_readPage qt_tape qt_cuts qt_letters qt_queue qt_busyTo qt_servedIn qt_waysOn qt_costOn qt_aheads qt_seen qt_isKept qt_lanes qt_lengths qt_cells t_hasLaw 1 t_highest t_taped t_fault o_23.2.1 o_23.2.2.1 o_23.2.2.2.1 o_23.2.2.2.2.1 o_23.2.2.2.2.2.1 o_23.2.2.2.2.2.2 t_queued t_payed t_bestWait t_bestWhom t_bestCoins t_seenMany t_torn t_state t_readPage t_tape t_cuts t_letters t_queue t_busyTo t_servedIn t_waysOn t_costOn t_aheads t_seen t_isKept t_lanes t_lengths t_cells) rfl rfl rfl rfl (by decide) rfl rfl 9 0 rfl rfl rfl rfl hl.1 rfl (Nat.le_of_ble_eq_true rfl) dX9_readLine_118 ⟨Nat.zero_le _, Nat.zero_le _⟩ (fun H locs hP hD hS => ?_)
              refine lv_iconst (v := 1) hx hb dX9_readLine_121 (by decide) ?_
              refine lv_isub hx hb dX9_readLine_122 ?_
              refine mr_iast hx hb hK hP hD hS 2 0 (fun t_readPage_24 => (w_Mod cI cB cZ cS cT qt qt_state qt_readPage qt_tape qt_cuts qt_letters qt_queue qt_busyTo qt_servedIn qt_waysOn qt_costOn qt_aheads qt_seen qt_isKept qt_lanes qt_lengths qt_cells t_hasLaw 1 t_highest t_taped t_fault o_23.2.1 o_23.2.2.1 o_23.2.2.2.1 o_23.2.2.2.2.1 o_23.2.2.2.2.2.1 o_23.2.2.2.2.2.2 t_queued t_payed t_bestWait t_bestWhom t_bestCoins t_seenMany t_torn t_state t_readPage_24 t_tape t_cuts t_letters t_queue t_busyTo t_servedIn t_waysOn t_costOn t_aheads t_seen t_isKept t_lanes t_lengths t_cells)) rfl rfl (fun _ => rfl) hM dX9_readLine_123 (fun t_readPage_24 hM H locs hP hD hS => ?_)
              exact hj124_3 t_hasLaw 1 t_highest o_23.2.1 o_23.2.2.1 o_23.2.2.2.1 o_23.2.2.2.2.1 o_23.2.2.2.2.2.1 o_23.2.2.2.2.2.2 t_readPage_24 hM _ _ hP hD hS ls (lv_sub hl [0] rfl)
            · refine mr_if_eq (tgt := 100) hx hb hM dX9_readLine_92 (by decide) (fun hM => ?_) (fun hM => ?_)
              · exact hj100_19 t_broken t_brokenAt hM _ _ hP hD hS ls (lv_sub hl [1] rfl)
              · refine lv_aload_n hx hb dX9_readLine_95 rfl (lv_at hl 1 rfl) ?_
                refine lv_iconst (v := 4) hx hb dX9_readLine_96 (by decide) ?_
                obtain ⟨o_25, hc, hM⟩ := bind_so hM
                refine mr_callVv (As := [.int 4]) (rest := []) (wr := []) ⟨hx, hb, hml, hown, hts⟩ (k_Mod_fails l D cI cB cZ cS cT qt qt_state qt_readPage qt_tape qt_cuts qt_letters qt_queue qt_busyTo qt_servedIn qt_waysOn qt_costOn qt_aheads qt_seen qt_isKept qt_lanes qt_lengths qt_cells t_hasLaw t_hasCounters t_highest t_taped t_fault t_broken t_brokenAt t_spot t_here t_token t_value t_queued t_payed t_bestWait t_bestWhom t_bestCoins t_seenMany t_torn t_state t_readPage t_tape t_cuts t_letters t_queue t_busyTo t_servedIn t_waysOn t_costOn t_aheads t_seen t_isKept t_lanes t_lengths t_cells 4 _ hc) (cwV 1 hts gX9_readLine_X9_fails rfl rfl rfl (by decide +kernel) ⟨Nat.le_of_ble_eq_true rfl, Nat.le_of_ble_eq_true rfl⟩) hK hP hD hS hA [0, 1, 2, 3, 4, 5, 6, 7, 8, 9, 10, 11, 12, 13, 14, 15, 16] [] [0, 1, 2, 3, 4, 5, 6, 7, 8, 9, 10, 11, 12, 13, 14, 15, 16] (w_Mod cI cB cZ cS cT qt qt_state qt_readPage qt_tape qt_cuts qt_letters qt_queue qt_busyTo qt_servedIn qt_waysOn qt_costOn qt_aheads qt_seen qt_isKept qt_lanes qt_lengths qt_cells t_hasLaw t_hasCounters t_highest t_taped t_fault o_25.1 o_25.2 t_spot t_here t_token t_value t_queued t_payed t_bestWait t_bestWhom t_bestCoins t_seenMany t_torn t_state t_readPage t_tape t_cuts t_letters t_queue t_busyTo t_servedIn t_waysOn t_costOn t_aheads t_seen t_isKept t_lanes t_lengths t_cells) rfl rfl rfl rfl (by decide) rfl rfl 9 0 rfl rfl rfl rfl hl.1 rfl (Nat.le_of_ble_eq_true rfl) dX9_readLine_97 ⟨Nat.zero_le _, Nat.zero_le _⟩ (fun H locs hP hD hS => ?_)
                exact hj100_19 o_25.1 o_25.2 hM _ _ hP hD hS ls (lv_sub hl [1] rfl)
          · refine lv_aload_n hx hb dX9_readLine_51 rfl (lv_at hl 1 rfl) ?_
            refine va_get (D := D) (ci := 9) (v := .int t_hasLaw) (C := RX9) (T := TX9) (N := 34) hx hb hts inX9w hown hK hP 0 rfl rfl 2 (by decide) hf129 (fun _ h9 => h9) rfl dX9_readLine_52 ?_
            refine mr_jn hM (fun j63_26 => ∀ (t_broken_27 t_brokenAt_28 : Int32), j63_26 t_broken_27 t_brokenAt_28 = some o → ∀ (H : Heap) (locs : List Loc), va_P D vwCl (w_Mod cI cB cZ cS cT qt qt_state qt_readPage qt_tape qt_cuts qt_letters qt_queue qt_busyTo qt_servedIn qt_waysOn qt_costOn qt_aheads qt_seen qt_isKept qt_lanes qt_lengths qt_cells t_hasLaw t_hasCounters t_highest t_taped t_fault t_broken_27 t_brokenAt_28 t_spot t_here t_token t_value t_queued t_payed t_bestWait t_bestWhom t_bestCoins t_seenMany t_torn t_state t_readPage t_tape t_cuts t_letters t_queue t_busyTo t_servedIn t_waysOn t_costOn t_aheads t_seen t_isKept t_lanes t_lengths t_cells) H → va_D A (w_Mod cI cB cZ cS cT qt qt_state qt_readPage qt_tape qt_cuts qt_letters qt_queue qt_busyTo qt_servedIn qt_waysOn qt_costOn qt_aheads qt_seen qt_isKept qt_lanes qt_lengths qt_cells t_hasLaw t_hasCounters t_highest t_taped t_fault t_broken_27 t_brokenAt_28 t_spot t_here t_token t_value t_queued t_payed t_bestWait t_bestWhom t_bestCoins t_seenMany t_torn t_state t_readPage t_tape t_cuts t_letters t_queue t_busyTo t_servedIn t_waysOn t_costOn t_aheads t_seen t_isKept t_lanes t_lengths t_cells) → va_S A s.heap H locs → ∀ ls : Array Slot, lv_has ls 2 [(0, .ref qt)] → W p l e rmX9_readLine s m av below meth c H locs 0 0 Q (F0 m 63 ls [])) (fun t_broken_27 t_brokenAt_28 hM H locs hP hD hS ls hl => ?_) (fun j63_26 hj63_26 hM => ?_)
            · refine lv_aload_n hx hb dX9_readLine_63 rfl (lv_at hl 0 rfl) ?_
              refine lv_iconst (v := 1) hx hb dX9_readLine_64 (by decide) ?_
              refine mr_put (D := D) (ci := 9) (v := .int 1) (ty := .boolean) (C := RX9) (T := TX9) (N := 34) hx hb hts inX9w tyX9 tyX9_ok nmX9 hown hK hP hD hS 0 rfl rfl 2 (by decide) hf129 (fun _ h9 => h9) rfl (by decide +kernel) rfl rfl (Nat.le_of_ble_eq_true rfl) dX9_readLine_65 (w_Mod cI cB cZ cS cT qt qt_state qt_readPage qt_tape qt_cuts qt_letters qt_queue qt_busyTo qt_servedIn qt_waysOn qt_costOn qt_aheads qt_seen qt_isKept qt_lanes qt_lengths qt_cells 1 t_hasCounters t_highest t_taped t_fault t_broken_27 t_brokenAt_28 t_spot t_here t_token t_value t_queued t_payed t_bestWait t_bestWhom t_bestCoins t_seenMany t_torn t_state t_readPage t_tape t_cuts t_letters t_queue t_busyTo t_servedIn t_waysOn t_costOn t_aheads t_seen t_isKept t_lanes t_lengths t_cells) rfl (fun H locs hP hD hS => ?_)
              refine lv_aload_n hx hb dX9_readLine_68 rfl (lv_at hl 0 rfl) ?_
              obtain ⟨o_29, hc, hM⟩ := bind_so hM
              refine mr_callVv (As := []) (rest := []) (wr := []) ⟨hx, hb, hml, hown, hts⟩ (k_Mod_step l D cI cB cZ cS cT qt qt_state qt_readPage qt_tape qt_cuts qt_letters qt_queue qt_busyTo qt_servedIn qt_waysOn qt_costOn qt_aheads qt_seen qt_isKept qt_lanes qt_lengths qt_cells 1 t_hasCounters t_highest t_taped t_fault t_broken_27 t_brokenAt_28 t_spot t_here t_token t_value t_queued t_payed t_bestWait t_bestWhom t_bestCoins t_seenMany t_torn t_state t_readPage t_tape t_cuts t_letters t_queue t_busyTo t_servedIn t_waysOn t_costOn t_aheads t_seen t_isKept t_lanes t_lengths t_cells  _ hc) (cwV 0 hts gX9_readLine_X9_step rfl rfl rfl (by decide +kernel) ⟨Nat.le_of_ble_eq_true rfl, Nat.le_of_ble_eq_true rfl⟩) hK hP hD hS hA [0, 1, 2, 3, 4, 5, 6, 7, 8, 9, 10, 11, 12, 13, 14, 15, 16] [] [0, 1, 2, 3, 4, 5, 6, 7, 8, 9, 10, 11, 12, 13, 14, 15, 16] (w_Mod cI cB cZ cS cT qt qt_state qt_readPage qt_tape qt_cuts qt_letters qt_queue qt_busyTo qt_servedIn qt_waysOn qt_costOn qt_aheads qt_seen qt_isKept qt_lanes qt_lengths qt_cells 1 t_hasCounters t_highest t_taped t_fault o_29.1 o_29.2.1 o_29.2.2.1 o_29.2.2.2.1 o_29.2.2.2.2.1 o_29.2.2.2.2.2 t_queued t_payed t_bestWait t_bestWhom t_bestCoins t_seenMany t_torn t_state t_readPage t_tape t_cuts t_letters t_queue t_busyTo t_servedIn t_waysOn t_costOn t_aheads t_seen t_isKept t_lanes t_lengths t_cells) rfl rfl rfl rfl (by decide) rfl rfl 9 0 rfl rfl rfl rfl hl.1 rfl (Nat.le_of_ble_eq_true rfl) dX9_readLine_69 ⟨Nat.zero_le _, Nat.zero_le _⟩ (fun H locs hP hD hS => ?_)
              refine lv_aload_n hx hb dX9_readLine_72 rfl (lv_at hl 0 rfl) ?_
              refine va_get (D := D) (ci := 9) (v := .ref qt_readPage) (C := RX9) (T := TX9) (N := 34) hx hb hts inX9w hown hK hP 0 rfl rfl 1 (by decide) hf13 (fun _ h9 => h9) rfl dX9_readLine_73 ?_
              refine lv_bipush (v := 91) hx hb dX9_readLine_76 (by decide) ?_
              refine lv_aload_n hx hb dX9_readLine_78 rfl (lv_at hl 0 rfl) ?_
              refine lv_iconst (v := 0) hx hb dX9_readLine_79 (by decide) ?_
              refine lv_iconst (v := 1) hx hb dX9_readLine_80 (by decide) ?_
              obtain ⟨o_30, hc, hM⟩ := bind_so hM
              refine mr_callVi (As := [.int 0, .int 1]) (rest := [.int 91, .ref qt_readPage]) (wr := []) ⟨hx, hb, hml, hown, hts⟩ (k_Mod_number l D cI cB cZ cS cT qt qt_state qt_readPage qt_tape qt_cuts qt_letters qt_queue qt_busyTo qt_servedIn qt_waysOn qt_costOn qt_aheads qt_seen qt_isKept qt_lanes qt_lengths qt_cells 1 t_hasCounters t_highest t_taped t_fault o_29.1 o_29.2.1 o_29.2.2.1 o_29.2.2.2.1 o_29.2.2.2.2.1 o_29.2.2.2.2.2 t_queued t_payed t_bestWait t_bestWhom t_bestCoins t_seenMany t_torn t_state t_readPage t_tape t_cuts t_letters t_queue t_busyTo t_servedIn t_waysOn t_costOn t_aheads t_seen t_isKept t_lanes t_lengths t_cells 0 1 _ hc) (cwV 2 hts gX9_readLine_X9_number rfl rfl rfl (by decide +kernel) ⟨Nat.le_of_ble_eq_true rfl, Nat.le_of_ble_eq_true rfl⟩) hK hP hD hS hA [0, 1, 2, 3, 4, 5, 6, 7, 8, 9, 10, 11, 12, 13, 14, 15, 16] [] [0, 1, 2, 3, 4, 5, 6, 7, 8, 9, 10, 11, 12, 13, 14, 15, 16] (w_Mod cI cB cZ cS cT qt qt_state qt_readPage qt_tape qt_cuts qt_letters qt_queue qt_busyTo qt_servedIn qt_waysOn qt_costOn qt_aheads qt_seen qt_isKept qt_lanes qt_lengths qt_cells 1 t_hasCounters t_highest t_taped t_fault o_30.2.1 o_30.2.2.1 o_30.2.2.2.1 o_30.2.2.2.2.1 o_30.2.2.2.2.2.1 o_30.2.2.2.2.2.2 t_queued t_payed t_bestWait t_bestWhom t_bestCoins t_seenMany t_torn t_state t_readPage t_tape t_cuts t_letters t_queue t_busyTo t_servedIn t_waysOn t_costOn t_aheads t_seen t_isKept t_lanes t_lengths t_cells) rfl rfl rfl rfl (by decide) rfl rfl 9 0 rfl rfl rfl rfl hl.1 rfl (Nat.le_of_ble_eq_true rfl) dX9_readLine_81 ⟨Nat.zero_le _, Nat.zero_le _⟩ (fun H locs hP hD hS => ?_)
              refine mr_iast hx hb hK hP hD hS 2 0 (fun t_readPage_31 => (w_Mod cI cB cZ cS cT qt qt_state qt_readPage qt_tape qt_cuts qt_letters qt_queue qt_busyTo qt_servedIn qt_waysOn qt_costOn qt_aheads qt_seen qt_isKept qt_lanes qt_lengths qt_cells 1 t_hasCounters t_highest t_taped t_fault o_30.2.1 o_30.2.2.1 o_30.2.2.2.1 o_30.2.2.2.2.1 o_30.2.2.2.2.2.1 o_30.2.2.2.2.2.2 t_queued t_payed t_bestWait t_bestWhom t_bestCoins t_seenMany t_torn t_state t_readPage_31 t_tape t_cuts t_letters t_queue t_busyTo t_servedIn t_waysOn t_costOn t_aheads t_seen t_isKept t_lanes t_lengths t_cells)) rfl rfl (fun _ => rfl) hM dX9_readLine_84 (fun t_readPage_31 hM H locs hP hD hS => ?_)
              refine lv_goto (tgt := 124) hx hb dX9_readLine_85 (by decide) ?_
              exact hj124_3 1 t_hasCounters t_highest o_30.2.1 o_30.2.2.1 o_30.2.2.2.1 o_30.2.2.2.2.1 o_30.2.2.2.2.2.1 o_30.2.2.2.2.2.2 t_readPage_31 hM _ _ hP hD hS ls (lv_sub hl [0] rfl)
            · refine mr_if_eq (tgt := 63) hx hb hM dX9_readLine_55 (by decide) (fun hM => ?_) (fun hM => ?_)
              · exact hj63_26 t_broken t_brokenAt hM _ _ hP hD hS ls (lv_sub hl [1] rfl)
              · refine lv_aload_n hx hb dX9_readLine_58 rfl (lv_at hl 1 rfl) ?_
                refine lv_iconst (v := 4) hx hb dX9_readLine_59 (by decide) ?_
                obtain ⟨o_32, hc, hM⟩ := bind_so hM
                refine mr_callVv (As := [.int 4]) (rest := []) (wr := []) ⟨hx, hb, hml, hown, hts⟩ (k_Mod_fails l D cI cB cZ cS cT qt qt_state qt_readPage qt_tape qt_cuts qt_letters qt_queue qt_busyTo qt_servedIn qt_waysOn qt_costOn qt_aheads qt_seen qt_isKept qt_lanes qt_lengths qt_cells t_hasLaw t_hasCounters t_highest t_taped t_fault t_broken t_brokenAt t_spot t_here t_token t_value t_queued t_payed t_bestWait t_bestWhom t_bestCoins t_seenMany t_torn t_state t_readPage t_tape t_cuts t_letters t_queue t_busyTo t_servedIn t_waysOn t_costOn t_aheads t_seen t_isKept t_lanes t_lengths t_cells 4 _ hc) (cwV 1 hts gX9_readLine_X9_fails rfl rfl rfl (by decide +kernel) ⟨Nat.le_of_ble_eq_true rfl, Nat.le_of_ble_eq_true rfl⟩) hK hP hD hS hA [0, 1, 2, 3, 4, 5, 6, 7, 8, 9, 10, 11, 12, 13, 14, 15, 16] [] [0, 1, 2, 3, 4, 5, 6, 7, 8, 9, 10, 11, 12, 13, 14, 15, 16] (w_Mod cI cB cZ cS cT qt qt_state qt_readPage qt_tape qt_cuts qt_letters qt_queue qt_busyTo qt_servedIn qt_waysOn qt_costOn qt_aheads qt_seen qt_isKept qt_lanes qt_lengths qt_cells t_hasLaw t_hasCounters t_highest t_taped t_fault o_32.1 o_32.2 t_spot t_here t_token t_value t_queued t_payed t_bestWait t_bestWhom t_bestCoins t_seenMany t_torn t_state t_readPage t_tape t_cuts t_letters t_queue t_busyTo t_servedIn t_waysOn t_costOn t_aheads t_seen t_isKept t_lanes t_lengths t_cells) rfl rfl rfl rfl (by decide) rfl rfl 9 0 rfl rfl rfl rfl hl.1 rfl (Nat.le_of_ble_eq_true rfl) dX9_readLine_60 ⟨Nat.zero_le _, Nat.zero_le _⟩ (fun H locs hP hD hS => ?_)
                exact hj63_26 o_32.1 o_32.2 hM _ _ hP hD hS ls (lv_sub hl [1] rfl)
        · refine lv_aload_n hx hb dX9_readLine_40 rfl (lv_at hl 1 rfl) ?_
          obtain ⟨o_33, hc, hM⟩ := bind_so hM
          refine mr_callVv (As := []) (rest := []) (wr := []) ⟨hx, hb, hml, hown, hts⟩ (k_Mod_readDebt l D cI cB cZ cS cT qt qt_state qt_readPage qt_tape qt_cuts qt_letters qt_queue qt_busyTo qt_servedIn qt_waysOn qt_costOn qt_aheads qt_seen qt_isKept qt_lanes qt_lengths qt_cells t_hasLaw t_hasCounters t_highest t_taped t_fault t_broken t_brokenAt t_spot t_here t_token t_value t_queued t_payed t_bestWait t_bestWhom t_bestCoins t_seenMany t_torn t_state t_readPage t_tape t_cuts t_letters t_queue t_busyTo t_servedIn t_waysOn t_costOn t_aheads t_seen t_isKept t_lanes t_lengths t_cells  _ hc) (cwV 0 hts gX9_readLine_X9_readDebt rfl rfl rfl (by decide +kernel) ⟨Nat.le_of_ble_eq_true rfl, Nat.le_of_ble_eq_true rfl⟩) hK hP hD hS hA [0, 1, 2, 3, 4, 5, 6, 7, 8, 9, 10, 11, 12, 13, 14, 15, 16] [] [0, 1, 2, 3, 4, 5, 6, 7, 8, 9, 10, 11, 12, 13, 14, 15, 16] (w_Mod cI cB cZ cS cT qt qt_state qt_readPage qt_tape qt_cuts qt_letters qt_queue qt_busyTo qt_servedIn qt_waysOn qt_costOn qt_aheads qt_seen qt_isKept qt_lanes qt_lengths qt_cells t_hasLaw t_hasCounters o_33.1 t_taped t_fault o_33.2.1 o_33.2.2.1 o_33.2.2.2.1 o_33.2.2.2.2.1 o_33.2.2.2.2.2.1 o_33.2.2.2.2.2.2.1 t_queued t_payed t_bestWait t_bestWhom t_bestCoins t_seenMany t_torn t_state o_33.2.2.2.2.2.2.2 t_tape t_cuts t_letters t_queue t_busyTo t_servedIn t_waysOn t_costOn t_aheads t_seen t_isKept t_lanes t_lengths t_cells) rfl rfl rfl rfl (by decide) rfl rfl 9 0 rfl rfl rfl rfl hl.1 rfl (Nat.le_of_ble_eq_true rfl) dX9_readLine_41 ⟨Nat.zero_le _, Nat.zero_le _⟩ (fun H locs hP hD hS => ?_)
          refine lv_goto (tgt := 124) hx hb dX9_readLine_44 (by decide) ?_
          exact hj124_3 t_hasLaw t_hasCounters o_33.1 o_33.2.1 o_33.2.2.1 o_33.2.2.2.1 o_33.2.2.2.2.1 o_33.2.2.2.2.2.1 o_33.2.2.2.2.2.2.1 o_33.2.2.2.2.2.2.2 hM _ _ hP hD hS ls (lv_sub hl [1] rfl)
      · refine lv_aload_n hx hb dX9_readLine_28 rfl (lv_at hl 1 rfl) ?_
        obtain ⟨o_34, hc, hM⟩ := bind_so hM
        refine mr_callVv (As := []) (rest := []) (wr := []) ⟨hx, hb, hml, hown, hts⟩ (k_Mod_readOne l D cI cB cZ cS cT qt qt_state qt_readPage qt_tape qt_cuts qt_letters qt_queue qt_busyTo qt_servedIn qt_waysOn qt_costOn qt_aheads qt_seen qt_isKept qt_lanes qt_lengths qt_cells t_hasLaw t_hasCounters t_highest t_taped t_fault t_broken t_brokenAt t_spot t_here t_token t_value t_queued t_payed t_bestWait t_bestWhom t_bestCoins t_seenMany t_torn t_state t_readPage t_tape t_cuts t_letters t_queue t_busyTo t_servedIn t_waysOn t_costOn t_aheads t_seen t_isKept t_lanes t_lengths t_cells  _ hc) (cwV 0 hts gX9_readLine_X9_readOne rfl rfl rfl (by decide +kernel) ⟨Nat.le_of_ble_eq_true rfl, Nat.le_of_ble_eq_true rfl⟩) hK hP hD hS hA [0, 1, 2, 3, 4, 5, 6, 7, 8, 9, 10, 11, 12, 13, 14, 15, 16] [] [0, 1, 2, 3, 4, 5, 6, 7, 8, 9, 10, 11, 12, 13, 14, 15, 16] (w_Mod cI cB cZ cS cT qt qt_state qt_readPage qt_tape qt_cuts qt_letters qt_queue qt_busyTo qt_servedIn qt_waysOn qt_costOn qt_aheads qt_seen qt_isKept qt_lanes qt_lengths qt_cells t_hasLaw t_hasCounters o_34.1 t_taped t_fault o_34.2.1 o_34.2.2.1 o_34.2.2.2.1 o_34.2.2.2.2.1 o_34.2.2.2.2.2.1 o_34.2.2.2.2.2.2.1 t_queued t_payed t_bestWait t_bestWhom t_bestCoins t_seenMany t_torn t_state o_34.2.2.2.2.2.2.2 t_tape t_cuts t_letters t_queue t_busyTo t_servedIn t_waysOn t_costOn t_aheads t_seen t_isKept t_lanes t_lengths t_cells) rfl rfl rfl rfl (by decide) rfl rfl 9 0 rfl rfl rfl rfl hl.1 rfl (Nat.le_of_ble_eq_true rfl) dX9_readLine_29 ⟨Nat.zero_le _, Nat.zero_le _⟩ (fun H locs hP hD hS => ?_)
        refine lv_goto (tgt := 124) hx hb dX9_readLine_32 (by decide) ?_
        exact hj124_3 t_hasLaw t_hasCounters o_34.1 o_34.2.1 o_34.2.2.1 o_34.2.2.2.1 o_34.2.2.2.2.1 o_34.2.2.2.2.2.1 o_34.2.2.2.2.2.2.1 o_34.2.2.2.2.2.2.2 hM _ _ hP hD hS ls (lv_sub hl [1] rfl)
  · refine lv_aload_n hx hb dX9_readLine_17 rfl (lv_at hl 1 rfl) ?_
    refine lv_iconst (v := 2) hx hb dX9_readLine_18 (by decide) ?_
    obtain ⟨o_35, hc, hM⟩ := bind_so hM
    refine mr_callVv (As := [.int 2]) (rest := []) (wr := []) ⟨hx, hb, hml, hown, hts⟩ (k_Mod_fails l D cI cB cZ cS cT qt qt_state qt_readPage qt_tape qt_cuts qt_letters qt_queue qt_busyTo qt_servedIn qt_waysOn qt_costOn qt_aheads qt_seen qt_isKept qt_lanes qt_lengths qt_cells t_hasLaw t_hasCounters t_highest t_taped t_fault t_broken t_brokenAt t_spot t_here t_token t_value t_queued t_payed t_bestWait t_bestWhom t_bestCoins t_seenMany t_torn t_state t_readPage t_tape t_cuts t_letters t_queue t_busyTo t_servedIn t_waysOn t_costOn t_aheads t_seen t_isKept t_lanes t_lengths t_cells 2 _ hc) (cwV 1 hts gX9_readLine_X9_fails rfl rfl rfl (by decide +kernel) ⟨Nat.le_of_ble_eq_true rfl, Nat.le_of_ble_eq_true rfl⟩) hK hP hD hS hA [0, 1, 2, 3, 4, 5, 6, 7, 8, 9, 10, 11, 12, 13, 14, 15, 16] [] [0, 1, 2, 3, 4, 5, 6, 7, 8, 9, 10, 11, 12, 13, 14, 15, 16] (w_Mod cI cB cZ cS cT qt qt_state qt_readPage qt_tape qt_cuts qt_letters qt_queue qt_busyTo qt_servedIn qt_waysOn qt_costOn qt_aheads qt_seen qt_isKept qt_lanes qt_lengths qt_cells t_hasLaw t_hasCounters t_highest t_taped t_fault o_35.1 o_35.2 t_spot t_here t_token t_value t_queued t_payed t_bestWait t_bestWhom t_bestCoins t_seenMany t_torn t_state t_readPage t_tape t_cuts t_letters t_queue t_busyTo t_servedIn t_waysOn t_costOn t_aheads t_seen t_isKept t_lanes t_lengths t_cells) rfl rfl rfl rfl (by decide) rfl rfl 9 0 rfl rfl rfl rfl hl.1 rfl (Nat.le_of_ble_eq_true rfl) dX9_readLine_19 ⟨Nat.zero_le _, Nat.zero_le _⟩ (fun H locs hP hD hS => ?_)
    have hM := Option.some.inj hM
    subst hM
    exact mr_vret hx hb hr hlocks hQ hP hD hS dX9_readLine_22

abbrev rmX9_town : Room := { frames := 5, cells := 0, slots := 0, locals := 114 }
set_option maxHeartbeats 40000000 in
set_option maxRecDepth 100000 in
theorem k_Mod_town (l : Launch) (D : va_G) (cI cB cZ cS cT : ClassId) (qt qt_state qt_readPage qt_tape qt_cuts qt_letters qt_queue qt_busyTo qt_servedIn qt_waysOn qt_costOn qt_aheads qt_seen qt_isKept qt_lanes qt_lengths qt_cells : Nat) (t_hasLaw t_hasCounters t_highest t_taped t_fault t_broken t_brokenAt t_spot t_here t_token t_value t_queued t_payed t_bestWait t_bestWhom t_bestCoins t_seenMany t_torn : Int32) (t_state t_readPage t_tape t_cuts t_letters t_queue t_busyTo t_servedIn t_waysOn t_costOn t_aheads t_seen t_isKept t_lanes t_lengths t_cells : Nat → Int32)  (o : Int32 × Int32 × Int32 × Int32 × Int32 × Int32 × Int32 × Int32 × Int32 × Int32 × Int32 × Int32 × Int32 × (Nat → Int32) × (Nat → Int32) × (Nat → Int32)) (hM : Mod_town t_taped t_brokenAt t_here t_token t_value t_seenMany t_state t_readPage t_tape t_cuts t_letters t_isKept = some o) : mtI l yX9_town wsX9_town rmX9_town D (tys5 cI cB cZ cS cT) [.ref qt] (w_Mod cI cB cZ cS cT qt qt_state qt_readPage qt_tape qt_cuts qt_letters qt_queue qt_busyTo qt_servedIn qt_waysOn qt_costOn qt_aheads qt_seen qt_isKept qt_lanes qt_lengths qt_cells t_hasLaw t_hasCounters t_highest t_taped t_fault t_broken t_brokenAt t_spot t_here t_token t_value t_queued t_payed t_bestWait t_bestWhom t_bestCoins t_seenMany t_torn t_state t_readPage t_tape t_cuts t_letters t_queue t_busyTo t_servedIn t_waysOn t_costOn t_aheads t_seen t_isKept t_lanes t_lengths t_cells) (w_Mod cI cB cZ cS cT qt qt_state qt_readPage qt_tape qt_cuts qt_letters qt_queue qt_busyTo qt_servedIn qt_waysOn qt_costOn qt_aheads qt_seen qt_isKept qt_lanes qt_lengths qt_cells o.2.1 o.2.2.1 o.2.2.2.1 o.2.2.2.2.1 o.2.2.2.2.2.1 o.2.2.2.2.2.2.1 o.2.2.2.2.2.2.2.1 o.2.2.2.2.2.2.2.2.1 o.2.2.2.2.2.2.2.2.2.1 o.2.2.2.2.2.2.2.2.2.2.1 o.2.2.2.2.2.2.2.2.2.2.2.1 t_queued t_payed t_bestWait t_bestWhom t_bestCoins o.2.2.2.2.2.2.2.2.2.2.2.2.1 t_torn o.2.2.2.2.2.2.2.2.2.2.2.2.2.1 o.2.2.2.2.2.2.2.2.2.2.2.2.2.2.1 t_tape t_cuts t_letters t_queue t_busyTo t_servedIn t_waysOn t_costOn t_aheads t_seen o.2.2.2.2.2.2.2.2.2.2.2.2.2.2.2 t_lanes t_lengths t_cells) o.1 := by
  refine mtI.of (cc := cX9_town) (maxL := 3) (ret := (some .int)) (by decide) rfl (Nat.le_of_ble_eq_true rfl) ?_
  intro p e s m below meth c A Q av hav hQ hx hb hr hml hown hts hlocks hK hP hD hA hS ls hl
  have hown : s.vm.findClass RX9 = some m.cls := hown
  have hl : lv_has ls 3 [(0, .ref qt)] := hl
  unfold Mod_town at hM
  have inX9w : ∀ w ∈ u_ws RX9 TX9 34, w ∈ wsX9_town := by decide +kernel
  have hf67 := hts (.fieldLink RX9 67 "LetsInModel" "broken" "I") (by decide +kernel)
  have hf79 := hts (.fieldLink RX9 79 "LetsInModel" "spot" "I") (by decide +kernel)
  have hf129 := hts (.fieldLink RX9 129 "LetsInModel" "hasLaw" "Z") (by decide +kernel)
  have hf133 := hts (.fieldLink RX9 133 "LetsInModel" "hasCounters" "Z") (by decide +kernel)
  have hf108 := hts (.fieldLink RX9 108 "LetsInModel" "highest" "I") (by decide +kernel)
  have hf13 := hts (.fieldLink RX9 13 "LetsInModel" "readPage" "[I") (by decide +kernel)
  have hf76 := hts (.fieldLink RX9 76 "LetsInModel" "token" "I") (by decide +kernel)
  have hf59 := hts (.fieldLink RX9 59 "LetsInModel" "taped" "I") (by decide +kernel)
  have hf139 := hts (.fieldLink RX9 139 "LetsInModel" "fault" "I") (by decide +kernel)
  have hf7 := hts (.fieldLink RX9 7 "LetsInModel" "state" "[I") (by decide +kernel)
  have hf142 := hts (.fieldLink RX9 142 "LetsInModel" "seenMany" "I") (by decide +kernel)
  have hf46 := hts (.fieldLink RX9 46 "LetsInModel" "isKept" "[Z") (by decide +kernel)
  have hf73 := hts (.fieldLink RX9 73 "LetsInModel" "brokenAt" "I") (by decide +kernel)
  refine lv_aload_n hx hb dX9_town_0 rfl (lv_at hl 0 rfl) ?_
  refine lv_iconst (v := 0) hx hb dX9_town_1 (by decide) ?_
  refine mr_put (D := D) (ci := 9) (v := .int 0) (ty := .int) (C := RX9) (T := TX9) (N := 34) hx hb hts inX9w tyX9 tyX9_ok nmX9 hown hK hP hD hS 0 rfl rfl 8 (by decide) hf67 (fun _ h9 => h9) rfl (by decide +kernel) rfl rfl (Nat.le_of_ble_eq_true rfl) dX9_town_2 (w_Mod cI cB cZ cS cT qt qt_state qt_readPage qt_tape qt_cuts qt_letters qt_queue qt_busyTo qt_servedIn qt_waysOn qt_costOn qt_aheads qt_seen qt_isKept qt_lanes qt_lengths qt_cells t_hasLaw t_hasCounters t_highest t_taped t_fault 0 t_brokenAt t_spot t_here t_token t_value t_queued t_payed t_bestWait t_bestWhom t_bestCoins t_seenMany t_torn t_state t_readPage t_tape t_cuts t_letters t_queue t_busyTo t_servedIn t_waysOn t_costOn t_aheads t_seen t_isKept t_lanes t_lengths t_cells) rfl (fun H locs hP hD hS => ?_)
  refine lv_aload_n hx hb dX9_town_5 rfl (lv_at hl 0 rfl) ?_
  refine lv_iconst (v := 0) hx hb dX9_town_6 (by decide) ?_
  refine mr_put (D := D) (ci := 9) (v := .int 0) (ty := .int) (C := RX9) (T := TX9) (N := 34) hx hb hts inX9w tyX9 tyX9_ok nmX9 hown hK hP hD hS 0 rfl rfl 10 (by decide) hf79 (fun _ h9 => h9) rfl (by decide +kernel) rfl rfl (Nat.le_of_ble_eq_true rfl) dX9_town_7 (w_Mod cI cB cZ cS cT qt qt_state qt_readPage qt_tape qt_cuts qt_letters qt_queue qt_busyTo qt_servedIn qt_waysOn qt_costOn qt_aheads qt_seen qt_isKept qt_lanes qt_lengths qt_cells t_hasLaw t_hasCounters t_highest t_taped t_fault 0 t_brokenAt 0 t_here t_token t_value t_queued t_payed t_bestWait t_bestWhom t_bestCoins t_seenMany t_torn t_state t_readPage t_tape t_cuts t_letters t_queue t_busyTo t_servedIn t_waysOn t_costOn t_aheads t_seen t_isKept t_lanes t_lengths t_cells) rfl (fun H locs hP hD hS => ?_)
  refine lv_aload_n hx hb dX9_town_10 rfl (lv_at hl 0 rfl) ?_
  refine lv_iconst (v := 0) hx hb dX9_town_11 (by decide) ?_
  refine mr_put (D := D) (ci := 9) (v := .int 0) (ty := .boolean) (C := RX9) (T := TX9) (N := 34) hx hb hts inX9w tyX9 tyX9_ok nmX9 hown hK hP hD hS 0 rfl rfl 2 (by decide) hf129 (fun _ h9 => h9) rfl (by decide +kernel) rfl rfl (Nat.le_of_ble_eq_true rfl) dX9_town_12 (w_Mod cI cB cZ cS cT qt qt_state qt_readPage qt_tape qt_cuts qt_letters qt_queue qt_busyTo qt_servedIn qt_waysOn qt_costOn qt_aheads qt_seen qt_isKept qt_lanes qt_lengths qt_cells 0 t_hasCounters t_highest t_taped t_fault 0 t_brokenAt 0 t_here t_token t_value t_queued t_payed t_bestWait t_bestWhom t_bestCoins t_seenMany t_torn t_state t_readPage t_tape t_cuts t_letters t_queue t_busyTo t_servedIn t_waysOn t_costOn t_aheads t_seen t_isKept t_lanes t_lengths t_cells) rfl (fun H locs hP hD hS => ?_)
  refine lv_aload_n hx hb dX9_town_15 rfl (lv_at hl 0 rfl) ?_
  refine lv_iconst (v := 0) hx hb dX9_town_16 (by decide) ?_
  refine mr_put (D := D) (ci := 9) (v := .int 0) (ty := .boolean) (C := RX9) (T := TX9) (N := 34) hx hb hts inX9w tyX9 tyX9_ok nmX9 hown hK hP hD hS 0 rfl rfl 3 (by decide) hf133 (fun _ h9 => h9) rfl (by decide +kernel) rfl rfl (Nat.le_of_ble_eq_true rfl) dX9_town_17 (w_Mod cI cB cZ cS cT qt qt_state qt_readPage qt_tape qt_cuts qt_letters qt_queue qt_busyTo qt_servedIn qt_waysOn qt_costOn qt_aheads qt_seen qt_isKept qt_lanes qt_lengths qt_cells 0 0 t_highest t_taped t_fault 0 t_brokenAt 0 t_here t_token t_value t_queued t_payed t_bestWait t_bestWhom t_bestCoins t_seenMany t_torn t_state t_readPage t_tape t_cuts t_letters t_queue t_busyTo t_servedIn t_waysOn t_costOn t_aheads t_seen t_isKept t_lanes t_lengths t_cells) rfl (fun H locs hP hD hS => ?_)
  refine lv_aload_n hx hb dX9_town_20 rfl (lv_at hl 0 rfl) ?_
  refine lv_iconst (v := (-1)) hx hb dX9_town_21 (by decide) ?_
  refine mr_put (D := D) (ci := 9) (v := .int (-1)) (ty := .int) (C := RX9) (T := TX9) (N := 34) hx hb hts inX9w tyX9 tyX9_ok nmX9 hown hK hP hD hS 0 rfl rfl 4 (by decide) hf108 (fun _ h9 => h9) rfl (by decide +kernel) rfl rfl (Nat.le_of_ble_eq_true rfl) dX9_town_22 (w_Mod cI cB cZ cS cT qt qt_state qt_readPage qt_tape qt_cuts qt_letters qt_queue qt_busyTo qt_servedIn qt_waysOn qt_costOn qt_aheads qt_seen qt_isKept qt_lanes qt_lengths qt_cells 0 0 (-1) t_taped t_fault 0 t_brokenAt 0 t_here t_token t_value t_queued t_payed t_bestWait t_bestWhom t_bestCoins t_seenMany t_torn t_state t_readPage t_tape t_cuts t_letters t_queue t_busyTo t_servedIn t_waysOn t_costOn t_aheads t_seen t_isKept t_lanes t_lengths t_cells) rfl (fun H locs hP hD hS => ?_)
  refine lv_iconst (v := 0) hx hb dX9_town_25 (by decide) ?_
  refine lv_istore_n (lv' := [(1, .int 0), (0, .ref qt)]) hx hb dX9_town_26 rfl hl (by decide) rfl (fun ls hl => ?_)
  refine lv_iconst (v := 0) hx hb dX9_town_27 (by decide) ?_
  refine lv_istore_n (lv' := [(2, .int 0), (1, .int 0), (0, .ref qt)]) hx hb dX9_town_28 rfl hl (by decide) rfl (fun ls hl => ?_)
  have hL29 : ∀ (K48 : (Nat → Int32) → Option (Int32 × Int32 × Int32 × Int32 × Int32 × Int32 × Int32 × Int32 × Int32 × Int32 × Int32 × Int32 × Int32 × (Nat → Int32) × (Nat → Int32) × (Nat → Int32))), (∀ (t_readPage_5 : Nat → Int32), K48 t_readPage_5 = some o → ∀ (H : Heap) (locs : List Loc), va_P D vwCl (w_Mod cI cB cZ cS cT qt qt_state qt_readPage qt_tape qt_cuts qt_letters qt_queue qt_busyTo qt_servedIn qt_waysOn qt_costOn qt_aheads qt_seen qt_isKept qt_lanes qt_lengths qt_cells 0 0 (-1) t_taped t_fault 0 t_brokenAt 0 t_here t_token t_value t_queued t_payed t_bestWait t_bestWhom t_bestCoins t_seenMany t_torn t_state t_readPage_5 t_tape t_cuts t_letters t_queue t_busyTo t_servedIn t_waysOn t_costOn t_aheads t_seen t_isKept t_lanes t_lengths t_cells) H → va_D A (w_Mod cI cB cZ cS cT qt qt_state qt_readPage qt_tape qt_cuts qt_letters qt_queue qt_busyTo qt_servedIn qt_waysOn qt_costOn qt_aheads qt_seen qt_isKept qt_lanes qt_lengths qt_cells 0 0 (-1) t_taped t_fault 0 t_brokenAt 0 t_here t_token t_value t_queued t_payed t_bestWait t_bestWhom t_bestCoins t_seenMany t_torn t_state t_readPage_5 t_tape t_cuts t_letters t_queue t_busyTo t_servedIn t_waysOn t_costOn t_aheads t_seen t_isKept t_lanes t_lengths t_cells) → va_S A s.heap H locs → ∀ ls : Array Slot, lv_has ls 3 [(0, .ref qt), (1, .int 0)] → W p l e rmX9_town s m av below meth c H locs 0 0 Q (F0 m 48 ls [])) → ∀ (n : Nat) (x2_1 : Int32) (t_readPage_2 : Nat → Int32), Mod_town_L29 K48 n x2_1 t_readPage_2 = some o → ∀ (H : Heap) (locs : List Loc), va_P D vwCl (w_Mod cI cB cZ cS cT qt qt_state qt_readPage qt_tape qt_cuts qt_letters qt_queue qt_busyTo qt_servedIn qt_waysOn qt_costOn qt_aheads qt_seen qt_isKept qt_lanes qt_lengths qt_cells 0 0 (-1) t_taped t_fault 0 t_brokenAt 0 t_here t_token t_value t_queued t_payed t_bestWait t_bestWhom t_bestCoins t_seenMany t_torn t_state t_readPage_2 t_tape t_cuts t_letters t_queue t_busyTo t_servedIn t_waysOn t_costOn t_aheads t_seen t_isKept t_lanes t_lengths t_cells) H → va_D A (w_Mod cI cB cZ cS cT qt qt_state qt_readPage qt_tape qt_cuts qt_letters qt_queue qt_busyTo qt_servedIn qt_waysOn qt_costOn qt_aheads qt_seen qt_isKept qt_lanes qt_lengths qt_cells 0 0 (-1) t_taped t_fault 0 t_brokenAt 0 t_here t_token t_value t_queued t_payed t_bestWait t_bestWhom t_bestCoins t_seenMany t_torn t_state t_readPage_2 t_tape t_cuts t_letters t_queue t_busyTo t_servedIn t_waysOn t_costOn t_aheads t_seen t_isKept t_lanes t_lengths t_cells) → va_S A s.heap H locs → ∀ ls : Array Slot, lv_has ls 3 [(0, .ref qt), (1, .int 0), (2, .int x2_1)] → W p l e rmX9_town s m av below meth c H locs 0 0 Q (F0 m 29 ls []) := by
    intro K48 hK48 n
    induction n with
    | zero =>
      intro x2_1 t_readPage_2 hM
      rw [Mod_town_L29] at hM
      cases hM
    | succ n ih =>
      intro x2_1 t_readPage_2 hM H locs hP hD hS ls hl
      rw [Mod_town_L29] at hM
      refine lv_iload_n hx hb dX9_town_29 rfl (lv_at hl 2 rfl) ?_
      refine lv_bipush (v := 94) hx hb dX9_town_30 (by decide) ?_
      refine mr_icmp_ge (tgt := 48) hx hb hM dX9_town_32 (by decide) (fun hM => ?_) (fun hM => ?_)
      · exact hK48 t_readPage_2 hM _ _ hP hD hS ls (lv_sub hl [0, 1] rfl)
      · refine lv_aload_n hx hb dX9_town_35 rfl (lv_at hl 0 rfl) ?_
        refine va_get (D := D) (ci := 9) (v := .ref qt_readPage) (C := RX9) (T := TX9) (N := 34) hx hb hts inX9w hown hK hP 0 rfl rfl 1 (by decide) hf13 (fun _ h9 => h9) rfl dX9_town_36 ?_
        refine lv_iload_n hx hb dX9_town_39 rfl (lv_at hl 2 rfl) ?_
        refine lv_iconst (v := 0) hx hb dX9_town_40 (by decide) ?_
        refine mr_iast hx hb hK hP hD hS 2 0 (fun t_readPage_3 => (w_Mod cI cB cZ cS cT qt qt_state qt_readPage qt_tape qt_cuts qt_letters qt_queue qt_busyTo qt_servedIn qt_waysOn qt_costOn qt_aheads qt_seen qt_isKept qt_lanes qt_lengths qt_cells 0 0 (-1) t_taped t_fault 0 t_brokenAt 0 t_here t_token t_value t_queued t_payed t_bestWait t_bestWhom t_bestCoins t_seenMany t_torn t_state t_readPage_3 t_tape t_cuts t_letters t_queue t_busyTo t_servedIn t_waysOn t_costOn t_aheads t_seen t_isKept t_lanes t_lengths t_cells)) rfl rfl (fun _ => rfl) hM dX9_town_41 (fun t_readPage_3 hM H locs hP hD hS => ?_)
        refine mr_iinc (k := 2) (d := 1) hx hb (fun x2_4 => [(2, .int x2_4), (0, .ref qt), (1, .int 0)]) hM (by decide) dX9_town_42 hl rfl (by decide) (fun _ => rfl) (fun x2_4 hM ls hl => ?_)
        refine lv_goto (tgt := 29) hx hb dX9_town_45 (by decide) ?_
        exact ih x2_4 t_readPage_3 hM _ _ hP hD hS ls (lv_sub hl [1, 2, 0] rfl)
  refine hL29 _ (fun t_readPage_5 hM H locs hP hD hS ls hl => ?_) _ 0 t_readPage hM _ _ hP hD hS ls (lv_sub hl [2, 1, 0] rfl)
  refine lv_aload_n hx hb dX9_town_48 rfl (lv_at hl 0 rfl) ?_
  obtain ⟨o_6, hc, hM⟩ := bind_so hM
  refine mr_callVv (As := []) (rest := []) (wr := []) ⟨hx, hb, hml, hown, hts⟩ (k_Mod_step l D cI cB cZ cS cT qt qt_state qt_readPage qt_tape qt_cuts qt_letters qt_queue qt_busyTo qt_servedIn qt_waysOn qt_costOn qt_aheads qt_seen qt_isKept qt_lanes qt_lengths qt_cells 0 0 (-1) t_taped t_fault 0 t_brokenAt 0 t_here t_token t_value t_queued t_payed t_bestWait t_bestWhom t_bestCoins t_seenMany t_torn t_state t_readPage_5 t_tape t_cuts t_letters t_queue t_busyTo t_servedIn t_waysOn t_costOn t_aheads t_seen t_isKept t_lanes t_lengths t_cells  _ hc) (cwV 0 hts gX9_town_X9_step rfl rfl rfl (by decide +kernel) ⟨Nat.le_of_ble_eq_true rfl, Nat.le_of_ble_eq_true rfl⟩) hK hP hD hS hA [0, 1, 2, 3, 4, 5, 6, 7, 8, 9, 10, 11, 12, 13, 14, 15, 16] [] [0, 1, 2, 3, 4, 5, 6, 7, 8, 9, 10, 11, 12, 13, 14, 15, 16] (w_Mod cI cB cZ cS cT qt qt_state qt_readPage qt_tape qt_cuts qt_letters qt_queue qt_busyTo qt_servedIn qt_waysOn qt_costOn qt_aheads qt_seen qt_isKept qt_lanes qt_lengths qt_cells 0 0 (-1) t_taped t_fault o_6.1 o_6.2.1 o_6.2.2.1 o_6.2.2.2.1 o_6.2.2.2.2.1 o_6.2.2.2.2.2 t_queued t_payed t_bestWait t_bestWhom t_bestCoins t_seenMany t_torn t_state t_readPage_5 t_tape t_cuts t_letters t_queue t_busyTo t_servedIn t_waysOn t_costOn t_aheads t_seen t_isKept t_lanes t_lengths t_cells) rfl rfl rfl rfl (by decide) rfl rfl 9 0 rfl rfl rfl rfl hl.1 rfl (Nat.le_of_ble_eq_true rfl) dX9_town_49 ⟨Nat.zero_le _, Nat.zero_le _⟩ (fun H locs hP hD hS => ?_)
  have hL52 : ∀ (K76 : Int32 → Int32 → Int32 → Int32 → Int32 → Int32 → Int32 → Int32 → Int32 → Int32 → (Nat → Int32) → Option (Int32 × Int32 × Int32 × Int32 × Int32 × Int32 × Int32 × Int32 × Int32 × Int32 × Int32 × Int32 × Int32 × (Nat → Int32) × (Nat → Int32) × (Nat → Int32))), (∀ (x1_20 t_hasLaw_21 t_hasCounters_22 t_highest_23 t_broken_24 t_brokenAt_25 t_spot_26 t_here_27 t_token_28 t_value_29 : Int32) (t_readPage_30 : Nat → Int32), K76 x1_20 t_hasLaw_21 t_hasCounters_22 t_highest_23 t_broken_24 t_brokenAt_25 t_spot_26 t_here_27 t_token_28 t_value_29 t_readPage_30 = some o → ∀ (H : Heap) (locs : List Loc), va_P D vwCl (w_Mod cI cB cZ cS cT qt qt_state qt_readPage qt_tape qt_cuts qt_letters qt_queue qt_busyTo qt_servedIn qt_waysOn qt_costOn qt_aheads qt_seen qt_isKept qt_lanes qt_lengths qt_cells t_hasLaw_21 t_hasCounters_22 t_highest_23 t_taped t_fault t_broken_24 t_brokenAt_25 t_spot_26 t_here_27 t_token_28 t_value_29 t_queued t_payed t_bestWait t_bestWhom t_bestCoins t_seenMany t_torn t_state t_readPage_30 t_tape t_cuts t_letters t_queue t_busyTo t_servedIn t_waysOn t_costOn t_aheads t_seen t_isKept t_lanes t_lengths t_cells) H → va_D A (w_Mod cI cB cZ cS cT qt qt_state qt_readPage qt_tape qt_cuts qt_letters qt_queue qt_busyTo qt_servedIn qt_waysOn qt_costOn qt_aheads qt_seen qt_isKept qt_lanes qt_lengths qt_cells t_hasLaw_21 t_hasCounters_22 t_highest_23 t_taped t_fault t_broken_24 t_brokenAt_25 t_spot_26 t_here_27 t_token_28 t_value_29 t_queued t_payed t_bestWait t_bestWhom t_bestCoins t_seenMany t_torn t_state t_readPage_30 t_tape t_cuts t_letters t_queue t_busyTo t_servedIn t_waysOn t_costOn t_aheads t_seen t_isKept t_lanes t_lengths t_cells) → va_S A s.heap H locs → ∀ ls : Array Slot, lv_has ls 3 [(0, .ref qt), (1, .int x1_20)] → W p l e rmX9_town s m av below meth c H locs 0 0 Q (F0 m 76 ls [])) → ∀ (n : Nat) (x1_7 t_hasLaw_8 t_hasCounters_9 t_highest_10 t_broken_11 t_brokenAt_12 t_spot_13 t_here_14 t_token_15 t_value_16 : Int32) (t_readPage_17 : Nat → Int32), Mod_town_L52 t_taped t_tape t_cuts t_letters K76 n x1_7 t_hasLaw_8 t_hasCounters_9 t_highest_10 t_broken_11 t_brokenAt_12 t_spot_13 t_here_14 t_token_15 t_value_16 t_readPage_17 = some o → ∀ (H : Heap) (locs : List Loc), va_P D vwCl (w_Mod cI cB cZ cS cT qt qt_state qt_readPage qt_tape qt_cuts qt_letters qt_queue qt_busyTo qt_servedIn qt_waysOn qt_costOn qt_aheads qt_seen qt_isKept qt_lanes qt_lengths qt_cells t_hasLaw_8 t_hasCounters_9 t_highest_10 t_taped t_fault t_broken_11 t_brokenAt_12 t_spot_13 t_here_14 t_token_15 t_value_16 t_queued t_payed t_bestWait t_bestWhom t_bestCoins t_seenMany t_torn t_state t_readPage_17 t_tape t_cuts t_letters t_queue t_busyTo t_servedIn t_waysOn t_costOn t_aheads t_seen t_isKept t_lanes t_lengths t_cells) H → va_D A (w_Mod cI cB cZ cS cT qt qt_state qt_readPage qt_tape qt_cuts qt_letters qt_queue qt_busyTo qt_servedIn qt_waysOn qt_costOn qt_aheads qt_seen qt_isKept qt_lanes qt_lengths qt_cells t_hasLaw_8 t_hasCounters_9 t_highest_10 t_taped t_fault t_broken_11 t_brokenAt_12 t_spot_13 t_here_14 t_token_15 t_value_16 t_queued t_payed t_bestWait t_bestWhom t_bestCoins t_seenMany t_torn t_state t_readPage_17 t_tape t_cuts t_letters t_queue t_busyTo t_servedIn t_waysOn t_costOn t_aheads t_seen t_isKept t_lanes t_lengths t_cells) → va_S A s.heap H locs → ∀ ls : Array Slot, lv_has ls 3 [(0, .ref qt), (1, .int x1_7)] → W p l e rmX9_town s m av below meth c H locs 0 0 Q (F0 m 52 ls []) := by
    intro K76 hK76 n
    induction n with
    | zero =>
      intro x1_7 t_hasLaw_8 t_hasCounters_9 t_highest_10 t_broken_11 t_brokenAt_12 t_spot_13 t_here_14 t_token_15 t_value_16 t_readPage_17 hM
      rw [Mod_town_L52] at hM
      cases hM
    | succ n ih =>
      intro x1_7 t_hasLaw_8 t_hasCounters_9 t_highest_10 t_broken_11 t_brokenAt_12 t_spot_13 t_here_14 t_token_15 t_value_16 t_readPage_17 hM H locs hP hD hS ls hl
      rw [Mod_town_L52] at hM
      refine lv_aload_n hx hb dX9_town_52 rfl (lv_at hl 0 rfl) ?_
      refine va_get (D := D) (ci := 9) (v := .int t_broken_11) (C := RX9) (T := TX9) (N := 34) hx hb hts inX9w hown hK hP 0 rfl rfl 8 (by decide) hf67 (fun _ h9 => h9) rfl dX9_town_53 ?_
      refine mr_if_ne (tgt := 76) hx hb hM dX9_town_56 (by decide) (fun hM => ?_) (fun hM => ?_)
      · exact hK76 x1_7 t_hasLaw_8 t_hasCounters_9 t_highest_10 t_broken_11 t_brokenAt_12 t_spot_13 t_here_14 t_token_15 t_value_16 t_readPage_17 hM _ _ hP hD hS ls (lv_sub hl [0, 1] rfl)
      · refine lv_aload_n hx hb dX9_town_59 rfl (lv_at hl 0 rfl) ?_
        refine va_get (D := D) (ci := 9) (v := .int t_token_15) (C := RX9) (T := TX9) (N := 34) hx hb hts inX9w hown hK hP 0 rfl rfl 12 (by decide) hf76 (fun _ h9 => h9) rfl dX9_town_60 ?_
        refine mr_if_eq (tgt := 76) hx hb hM dX9_town_63 (by decide) (fun hM => ?_) (fun hM => ?_)
        · exact hK76 x1_7 t_hasLaw_8 t_hasCounters_9 t_highest_10 t_broken_11 t_brokenAt_12 t_spot_13 t_here_14 t_token_15 t_value_16 t_readPage_17 hM _ _ hP hD hS ls (lv_sub hl [0, 1] rfl)
        · refine lv_aload_n hx hb dX9_town_66 rfl (lv_at hl 0 rfl) ?_
          obtain ⟨o_18, hc, hM⟩ := bind_so hM
          refine mr_callVv (As := []) (rest := []) (wr := []) ⟨hx, hb, hml, hown, hts⟩ (k_Mod_readLine l D cI cB cZ cS cT qt qt_state qt_readPage qt_tape qt_cuts qt_letters qt_queue qt_busyTo qt_servedIn qt_waysOn qt_costOn qt_aheads qt_seen qt_isKept qt_lanes qt_lengths qt_cells t_hasLaw_8 t_hasCounters_9 t_highest_10 t_taped t_fault t_broken_11 t_brokenAt_12 t_spot_13 t_here_14 t_token_15 t_value_16 t_queued t_payed t_bestWait t_bestWhom t_bestCoins t_seenMany t_torn t_state t_readPage_17 t_tape t_cuts t_letters t_queue t_busyTo t_servedIn t_waysOn t_costOn t_aheads t_seen t_isKept t_lanes t_lengths t_cells  _ hc) (cwV 0 hts gX9_town_X9_readLine rfl rfl rfl (by decide +kernel) ⟨Nat.le_of_ble_eq_true rfl, Nat.le_of_ble_eq_true rfl⟩) hK hP hD hS hA [0, 1, 2, 3, 4, 5, 6, 7, 8, 9, 10, 11, 12, 13, 14, 15, 16] [] [0, 1, 2, 3, 4, 5, 6, 7, 8, 9, 10, 11, 12, 13, 14, 15, 16] (w_Mod cI cB cZ cS cT qt qt_state qt_readPage qt_tape qt_cuts qt_letters qt_queue qt_busyTo qt_servedIn qt_waysOn qt_costOn qt_aheads qt_seen qt_isKept qt_lanes qt_lengths qt_cells o_18.1 o_18.2.1 o_18.2.2.1 t_taped t_fault o_18.2.2.2.1 o_18.2.2.2.2.1 o_18.2.2.2.2.2.1 o_18.2.2.2.2.2.2.1 o_18.2.2.2.2.2.2.2.1 o_18.2.2.2.2.2.2.2.2.1 t_queued t_payed t_bestWait t_bestWhom t_bestCoins t_seenMany t_torn t_state o_18.2.2.2.2.2.2.2.2.2 t_tape t_cuts t_letters t_queue t_busyTo t_servedIn t_waysOn t_costOn t_aheads t_seen t_isKept t_lanes t_lengths t_cells) rfl rfl rfl rfl (by decide) rfl rfl 9 0 rfl rfl rfl rfl hl.1 rfl (Nat.le_of_ble_eq_true rfl) dX9_town_67 ⟨Nat.zero_le _, Nat.zero_le _⟩ (fun H locs hP hD hS => ?_)
          refine mr_iinc (k := 1) (d := 1) hx hb (fun x1_19 => [(1, .int x1_19), (0, .ref qt)]) hM (by decide) dX9_town_70 hl rfl (by decide) (fun _ => rfl) (fun x1_19 hM ls hl => ?_)
          refine lv_goto (tgt := 52) hx hb dX9_town_73 (by decide) ?_
          exact ih x1_19 o_18.1 o_18.2.1 o_18.2.2.1 o_18.2.2.2.1 o_18.2.2.2.2.1 o_18.2.2.2.2.2.1 o_18.2.2.2.2.2.2.1 o_18.2.2.2.2.2.2.2.1 o_18.2.2.2.2.2.2.2.2.1 o_18.2.2.2.2.2.2.2.2.2 hM _ _ hP hD hS ls (lv_sub hl [1, 0] rfl)
  refine hL52 _ (fun x1_20 t_hasLaw_21 t_hasCounters_22 t_highest_23 t_broken_24 t_brokenAt_25 t_spot_26 t_here_27 t_token_28 t_value_29 t_readPage_30 hM H locs hP hD hS ls hl => ?_) _ 0 0 0 (-1) o_6.1 o_6.2.1 o_6.2.2.1 o_6.2.2.2.1 o_6.2.2.2.2.1 o_6.2.2.2.2.2 t_readPage_5 hM _ _ hP hD hS ls (lv_sub hl [0, 1] rfl)
  refine lv_aload_n hx hb dX9_town_76 rfl (lv_at hl 0 rfl) ?_
  refine va_get (D := D) (ci := 9) (v := .int t_broken_24) (C := RX9) (T := TX9) (N := 34) hx hb hts inX9w hown hK hP 0 rfl rfl 8 (by decide) hf67 (fun _ h9 => h9) rfl dX9_town_77 ?_
  refine mr_jn hM (fun j103_31 => ∀ (t_broken_32 t_brokenAt_33 : Int32), j103_31 t_broken_32 t_brokenAt_33 = some o → ∀ (H : Heap) (locs : List Loc), va_P D vwCl (w_Mod cI cB cZ cS cT qt qt_state qt_readPage qt_tape qt_cuts qt_letters qt_queue qt_busyTo qt_servedIn qt_waysOn qt_costOn qt_aheads qt_seen qt_isKept qt_lanes qt_lengths qt_cells t_hasLaw_21 t_hasCounters_22 t_highest_23 t_taped t_fault t_broken_32 t_brokenAt_33 t_spot_26 t_here_27 t_token_28 t_value_29 t_queued t_payed t_bestWait t_bestWhom t_bestCoins t_seenMany t_torn t_state t_readPage_30 t_tape t_cuts t_letters t_queue t_busyTo t_servedIn t_waysOn t_costOn t_aheads t_seen t_isKept t_lanes t_lengths t_cells) H → va_D A (w_Mod cI cB cZ cS cT qt qt_state qt_readPage qt_tape qt_cuts qt_letters qt_queue qt_busyTo qt_servedIn qt_waysOn qt_costOn qt_aheads qt_seen qt_isKept qt_lanes qt_lengths qt_cells t_hasLaw_21 t_hasCounters_22 t_highest_23 t_taped t_fault t_broken_32 t_brokenAt_33 t_spot_26 t_here_27 t_token_28 t_value_29 t_queued t_payed t_bestWait t_bestWhom t_bestCoins t_seenMany t_torn t_state t_readPage_30 t_tape t_cuts t_letters t_queue t_busyTo t_servedIn t_waysOn t_costOn t_aheads t_seen t_isKept t_lanes t_lengths t_cells) → va_S A s.heap H locs → ∀ ls : Array Slot, lv_has ls 3 [(0, .ref qt), (1, .int x1_20)] → W p l e rmX9_town s m av below meth c H locs 0 0 Q (F0 m 103 ls [])) (fun t_broken_32 t_brokenAt_33 hM H locs hP hD hS ls hl => ?_) (fun j103_31 hj103_31 hM => ?_)
  · refine lv_aload_n hx hb dX9_town_103 rfl (lv_at hl 0 rfl) ?_
    refine lv_iconst (v := 0) hx hb dX9_town_104 (by decide) ?_
    refine mr_put (D := D) (ci := 9) (v := .int 0) (ty := .int) (C := RX9) (T := TX9) (N := 34) hx hb hts inX9w tyX9 tyX9_ok nmX9 hown hK hP hD hS 0 rfl rfl 6 (by decide) hf59 (fun _ h9 => h9) rfl (by decide +kernel) rfl rfl (Nat.le_of_ble_eq_true rfl) dX9_town_105 (w_Mod cI cB cZ cS cT qt qt_state qt_readPage qt_tape qt_cuts qt_letters qt_queue qt_busyTo qt_servedIn qt_waysOn qt_costOn qt_aheads qt_seen qt_isKept qt_lanes qt_lengths qt_cells t_hasLaw_21 t_hasCounters_22 t_highest_23 0 t_fault t_broken_32 t_brokenAt_33 t_spot_26 t_here_27 t_token_28 t_value_29 t_queued t_payed t_bestWait t_bestWhom t_bestCoins t_seenMany t_torn t_state t_readPage_30 t_tape t_cuts t_letters t_queue t_busyTo t_servedIn t_waysOn t_costOn t_aheads t_seen t_isKept t_lanes t_lengths t_cells) rfl (fun H locs hP hD hS => ?_)
    refine lv_aload_n hx hb dX9_town_108 rfl (lv_at hl 0 rfl) ?_
    refine lv_aload_n hx hb dX9_town_109 rfl (lv_at hl 0 rfl) ?_
    refine va_get (D := D) (ci := 9) (v := .int t_broken_32) (C := RX9) (T := TX9) (N := 34) hx hb hts inX9w hown hK hP 0 rfl rfl 8 (by decide) hf67 (fun _ h9 => h9) rfl dX9_town_110 ?_
    refine mr_put (D := D) (ci := 9) (v := .int t_broken_32) (ty := .int) (C := RX9) (T := TX9) (N := 34) hx hb hts inX9w tyX9 tyX9_ok nmX9 hown hK hP hD hS 0 rfl rfl 7 (by decide) hf139 (fun _ h9 => h9) rfl (by decide +kernel) rfl rfl (Nat.le_of_ble_eq_true rfl) dX9_town_113 (w_Mod cI cB cZ cS cT qt qt_state qt_readPage qt_tape qt_cuts qt_letters qt_queue qt_busyTo qt_servedIn qt_waysOn qt_costOn qt_aheads qt_seen qt_isKept qt_lanes qt_lengths qt_cells t_hasLaw_21 t_hasCounters_22 t_highest_23 0 t_broken_32 t_broken_32 t_brokenAt_33 t_spot_26 t_here_27 t_token_28 t_value_29 t_queued t_payed t_bestWait t_bestWhom t_bestCoins t_seenMany t_torn t_state t_readPage_30 t_tape t_cuts t_letters t_queue t_busyTo t_servedIn t_waysOn t_costOn t_aheads t_seen t_isKept t_lanes t_lengths t_cells) rfl (fun H locs hP hD hS => ?_)
    refine lv_aload_n hx hb dX9_town_116 rfl (lv_at hl 0 rfl) ?_
    refine va_get (D := D) (ci := 9) (v := .int t_broken_32) (C := RX9) (T := TX9) (N := 34) hx hb hts inX9w hown hK hP 0 rfl rfl 8 (by decide) hf67 (fun _ h9 => h9) rfl dX9_town_117 ?_
    refine mr_if_le (tgt := 131) hx hb hM dX9_town_120 (by decide) (fun hM => ?_) (fun hM => ?_)
    · refine lv_iconst (v := 0) hx hb dX9_town_131 (by decide) ?_
      refine lv_istore_n (lv' := [(2, .int 0), (0, .ref qt), (1, .int x1_20)]) hx hb dX9_town_132 rfl hl (by decide) rfl (fun ls hl => ?_)
      have hL133 : ∀ (K157 : (Nat → Int32) → Option (Int32 × Int32 × Int32 × Int32 × Int32 × Int32 × Int32 × Int32 × Int32 × Int32 × Int32 × Int32 × Int32 × (Nat → Int32) × (Nat → Int32) × (Nat → Int32))), (∀ (t_state_39 : Nat → Int32), K157 t_state_39 = some o → ∀ (H : Heap) (locs : List Loc), va_P D vwCl (w_Mod cI cB cZ cS cT qt qt_state qt_readPage qt_tape qt_cuts qt_letters qt_queue qt_busyTo qt_servedIn qt_waysOn qt_costOn qt_aheads qt_seen qt_isKept qt_lanes qt_lengths qt_cells t_hasLaw_21 t_hasCounters_22 t_highest_23 0 t_broken_32 t_broken_32 t_brokenAt_33 t_spot_26 t_here_27 t_token_28 t_value_29 t_queued t_payed t_bestWait t_bestWhom t_bestCoins t_seenMany t_torn t_state_39 t_readPage_30 t_tape t_cuts t_letters t_queue t_busyTo t_servedIn t_waysOn t_costOn t_aheads t_seen t_isKept t_lanes t_lengths t_cells) H → va_D A (w_Mod cI cB cZ cS cT qt qt_state qt_readPage qt_tape qt_cuts qt_letters qt_queue qt_busyTo qt_servedIn qt_waysOn qt_costOn qt_aheads qt_seen qt_isKept qt_lanes qt_lengths qt_cells t_hasLaw_21 t_hasCounters_22 t_highest_23 0 t_broken_32 t_broken_32 t_brokenAt_33 t_spot_26 t_here_27 t_token_28 t_value_29 t_queued t_payed t_bestWait t_bestWhom t_bestCoins t_seenMany t_torn t_state_39 t_readPage_30 t_tape t_cuts t_letters t_queue t_busyTo t_servedIn t_waysOn t_costOn t_aheads t_seen t_isKept t_lanes t_lengths t_cells) → va_S A s.heap H locs → ∀ ls : Array Slot, lv_has ls 3 [(0, .ref qt), (1, .int x1_20)] → W p l e rmX9_town s m av below meth c H locs 0 0 Q (F0 m 157 ls [])) → ∀ (n : Nat) (x2_34 : Int32) (t_state_35 : Nat → Int32), Mod_town_L133 t_readPage_30 K157 n x2_34 t_state_35 = some o → ∀ (H : Heap) (locs : List Loc), va_P D vwCl (w_Mod cI cB cZ cS cT qt qt_state qt_readPage qt_tape qt_cuts qt_letters qt_queue qt_busyTo qt_servedIn qt_waysOn qt_costOn qt_aheads qt_seen qt_isKept qt_lanes qt_lengths qt_cells t_hasLaw_21 t_hasCounters_22 t_highest_23 0 t_broken_32 t_broken_32 t_brokenAt_33 t_spot_26 t_here_27 t_token_28 t_value_29 t_queued t_payed t_bestWait t_bestWhom t_bestCoins t_seenMany t_torn t_state_35 t_readPage_30 t_tape t_cuts t_letters t_queue t_busyTo t_servedIn t_waysOn t_costOn t_aheads t_seen t_isKept t_lanes t_lengths t_cells) H → va_D A (w_Mod cI cB cZ cS cT qt qt_state qt_readPage qt_tape qt_cuts qt_letters qt_queue qt_busyTo qt_servedIn qt_waysOn qt_costOn qt_aheads qt_seen qt_isKept qt_lanes qt_lengths qt_cells t_hasLaw_21 t_hasCounters_22 t_highest_23 0 t_broken_32 t_broken_32 t_brokenAt_33 t_spot_26 t_here_27 t_token_28 t_value_29 t_queued t_payed t_bestWait t_bestWhom t_bestCoins t_seenMany t_torn t_state_35 t_readPage_30 t_tape t_cuts t_letters t_queue t_busyTo t_servedIn t_waysOn t_costOn t_aheads t_seen t_isKept t_lanes t_lengths t_cells) → va_S A s.heap H locs → ∀ ls : Array Slot, lv_has ls 3 [(0, .ref qt), (1, .int x1_20), (2, .int x2_34)] → W p l e rmX9_town s m av below meth c H locs 0 0 Q (F0 m 133 ls []) := by
        intro K157 hK157 n
        induction n with
        | zero =>
          intro x2_34 t_state_35 hM
          rw [Mod_town_L133] at hM
          cases hM
        | succ n ih =>
          intro x2_34 t_state_35 hM H locs hP hD hS ls hl
          rw [Mod_town_L133] at hM
          refine lv_iload_n hx hb dX9_town_133 rfl (lv_at hl 2 rfl) ?_
          refine lv_bipush (v := 94) hx hb dX9_town_134 (by decide) ?_
          refine mr_icmp_ge (tgt := 157) hx hb hM dX9_town_136 (by decide) (fun hM => ?_) (fun hM => ?_)
          · exact hK157 t_state_35 hM _ _ hP hD hS ls (lv_sub hl [0, 1] rfl)
          · refine lv_aload_n hx hb dX9_town_139 rfl (lv_at hl 0 rfl) ?_
            refine va_get (D := D) (ci := 9) (v := .ref qt_state) (C := RX9) (T := TX9) (N := 34) hx hb hts inX9w hown hK hP 0 rfl rfl 0 (by decide) hf7 (fun _ h9 => h9) rfl dX9_town_140 ?_
            refine lv_iload_n hx hb dX9_town_143 rfl (lv_at hl 2 rfl) ?_
            refine lv_aload_n hx hb dX9_town_144 rfl (lv_at hl 0 rfl) ?_
            refine va_get (D := D) (ci := 9) (v := .ref qt_readPage) (C := RX9) (T := TX9) (N := 34) hx hb hts inX9w hown hK hP 0 rfl rfl 1 (by decide) hf13 (fun _ h9 => h9) rfl dX9_town_145 ?_
            refine lv_iload_n hx hb dX9_town_148 rfl (lv_at hl 2 rfl) ?_
            refine mr_iald hx hb hK hP 2 0 rfl rfl hM dX9_town_149 (fun v_36 hM => ?_)
            refine mr_iast hx hb hK hP hD hS 1 0 (fun t_state_37 => (w_Mod cI cB cZ cS cT qt qt_state qt_readPage qt_tape qt_cuts qt_letters qt_queue qt_busyTo qt_servedIn qt_waysOn qt_costOn qt_aheads qt_seen qt_isKept qt_lanes qt_lengths qt_cells t_hasLaw_21 t_hasCounters_22 t_highest_23 0 t_broken_32 t_broken_32 t_brokenAt_33 t_spot_26 t_here_27 t_token_28 t_value_29 t_queued t_payed t_bestWait t_bestWhom t_bestCoins t_seenMany t_torn t_state_37 t_readPage_30 t_tape t_cuts t_letters t_queue t_busyTo t_servedIn t_waysOn t_costOn t_aheads t_seen t_isKept t_lanes t_lengths t_cells)) rfl rfl (fun _ => rfl) hM dX9_town_150 (fun t_state_37 hM H locs hP hD hS => ?_)
            refine mr_iinc (k := 2) (d := 1) hx hb (fun x2_38 => [(2, .int x2_38), (0, .ref qt), (1, .int x1_20)]) hM (by decide) dX9_town_151 hl rfl (by decide) (fun _ => rfl) (fun x2_38 hM ls hl => ?_)
            refine lv_goto (tgt := 133) hx hb dX9_town_154 (by decide) ?_
            exact ih x2_38 t_state_37 hM _ _ hP hD hS ls (lv_sub hl [1, 2, 0] rfl)
      refine hL133 _ (fun t_state_39 hM H locs hP hD hS ls hl => ?_) _ 0 t_state hM _ _ hP hD hS ls (lv_sub hl [1, 2, 0] rfl)
      refine lv_aload_n hx hb dX9_town_157 rfl (lv_at hl 0 rfl) ?_
      refine lv_iconst (v := 0) hx hb dX9_town_158 (by decide) ?_
      refine mr_put (D := D) (ci := 9) (v := .int 0) (ty := .int) (C := RX9) (T := TX9) (N := 34) hx hb hts inX9w tyX9 tyX9_ok nmX9 hown hK hP hD hS 0 rfl rfl 28 (by decide) hf142 (fun _ h9 => h9) rfl (by decide +kernel) rfl rfl (Nat.le_of_ble_eq_true rfl) dX9_town_159 (w_Mod cI cB cZ cS cT qt qt_state qt_readPage qt_tape qt_cuts qt_letters qt_queue qt_busyTo qt_servedIn qt_waysOn qt_costOn qt_aheads qt_seen qt_isKept qt_lanes qt_lengths qt_cells t_hasLaw_21 t_hasCounters_22 t_highest_23 0 t_broken_32 t_broken_32 t_brokenAt_33 t_spot_26 t_here_27 t_token_28 t_value_29 t_queued t_payed t_bestWait t_bestWhom t_bestCoins 0 t_torn t_state_39 t_readPage_30 t_tape t_cuts t_letters t_queue t_busyTo t_servedIn t_waysOn t_costOn t_aheads t_seen t_isKept t_lanes t_lengths t_cells) rfl (fun H locs hP hD hS => ?_)
      refine lv_aload_n hx hb dX9_town_162 rfl (lv_at hl 0 rfl) ?_
      refine va_get (D := D) (ci := 9) (v := .ref qt_isKept) (C := RX9) (T := TX9) (N := 34) hx hb hts inX9w hown hK hP 0 rfl rfl 29 (by decide) hf46 (fun _ h9 => h9) rfl dX9_town_163 ?_
      refine lv_iconst (v := 0) hx hb dX9_town_166 (by decide) ?_
      refine lv_iconst (v := 0) hx hb dX9_town_167 (by decide) ?_
      refine mr_zast hx hb hK hP hD hS 13 2 (fun t_isKept_40 => (w_Mod cI cB cZ cS cT qt qt_state qt_readPage qt_tape qt_cuts qt_letters qt_queue qt_busyTo qt_servedIn qt_waysOn qt_costOn qt_aheads qt_seen qt_isKept qt_lanes qt_lengths qt_cells t_hasLaw_21 t_hasCounters_22 t_highest_23 0 t_broken_32 t_broken_32 t_brokenAt_33 t_spot_26 t_here_27 t_token_28 t_value_29 t_queued t_payed t_bestWait t_bestWhom t_bestCoins 0 t_torn t_state_39 t_readPage_30 t_tape t_cuts t_letters t_queue t_busyTo t_servedIn t_waysOn t_costOn t_aheads t_seen t_isKept_40 t_lanes t_lengths t_cells)) rfl rfl (fun _ => rfl) hM dX9_town_168 (fun t_isKept_40 hM H locs hP hD hS => ?_)
      refine lv_aload_n hx hb dX9_town_169 rfl (lv_at hl 0 rfl) ?_
      refine va_get (D := D) (ci := 9) (v := .ref qt_isKept) (C := RX9) (T := TX9) (N := 34) hx hb hts inX9w hown hK hP 0 rfl rfl 29 (by decide) hf46 (fun _ h9 => h9) rfl dX9_town_170 ?_
      refine lv_iconst (v := 1) hx hb dX9_town_173 (by decide) ?_
      refine lv_iconst (v := 0) hx hb dX9_town_174 (by decide) ?_
      refine mr_zast hx hb hK hP hD hS 13 2 (fun t_isKept_41 => (w_Mod cI cB cZ cS cT qt qt_state qt_readPage qt_tape qt_cuts qt_letters qt_queue qt_busyTo qt_servedIn qt_waysOn qt_costOn qt_aheads qt_seen qt_isKept qt_lanes qt_lengths qt_cells t_hasLaw_21 t_hasCounters_22 t_highest_23 0 t_broken_32 t_broken_32 t_brokenAt_33 t_spot_26 t_here_27 t_token_28 t_value_29 t_queued t_payed t_bestWait t_bestWhom t_bestCoins 0 t_torn t_state_39 t_readPage_30 t_tape t_cuts t_letters t_queue t_busyTo t_servedIn t_waysOn t_costOn t_aheads t_seen t_isKept_41 t_lanes t_lengths t_cells)) rfl rfl (fun _ => rfl) hM dX9_town_175 (fun t_isKept_41 hM H locs hP hD hS => ?_)
      refine lv_iload_n hx hb dX9_town_176 rfl (lv_at hl 1 rfl) ?_
      have hM := Option.some.inj hM
      subst hM
      exact mr_iret hx hb hr hlocks hQ hP hD hS rfl dX9_town_177
    · refine lv_bipush (v := (-10)) hx hb dX9_town_123 (by decide) ?_
      refine lv_aload_n hx hb dX9_town_125 rfl (lv_at hl 0 rfl) ?_
      refine va_get (D := D) (ci := 9) (v := .int t_brokenAt_33) (C := RX9) (T := TX9) (N := 34) hx hb hts inX9w hown hK hP 0 rfl rfl 9 (by decide) hf73 (fun _ h9 => h9) rfl dX9_town_126 ?_
      refine lv_isub hx hb dX9_town_129 ?_
      have hM := Option.some.inj hM
      subst hM
      exact mr_iret hx hb hr hlocks hQ hP hD hS rfl dX9_town_130
  · refine mr_if_ne (tgt := 103) hx hb hM dX9_town_80 (by decide) (fun hM => ?_) (fun hM => ?_)
    · exact hj103_31 t_broken_24 t_brokenAt_25 hM _ _ hP hD hS ls (lv_sub hl [0, 1] rfl)
    · refine lv_aload_n hx hb dX9_town_83 rfl (lv_at hl 0 rfl) ?_
      refine va_get (D := D) (ci := 9) (v := .int t_highest_23) (C := RX9) (T := TX9) (N := 34) hx hb hts inX9w hown hK hP 0 rfl rfl 4 (by decide) hf108 (fun _ h9 => h9) rfl dX9_town_84 ?_
      refine lv_aload_n hx hb dX9_town_87 rfl (lv_at hl 0 rfl) ?_
      refine va_get (D := D) (ci := 9) (v := .ref qt_readPage) (C := RX9) (T := TX9) (N := 34) hx hb hts inX9w hown hK hP 0 rfl rfl 1 (by decide) hf13 (fun _ h9 => h9) rfl dX9_town_88 ?_
      refine lv_bipush (v := 93) hx hb dX9_town_91 (by decide) ?_
      refine mr_iald hx hb hK hP 2 0 rfl rfl hM dX9_town_93 (fun v_42 hM => ?_)
      refine mr_icmp_lt (tgt := 103) hx hb hM dX9_town_94 (by decide) (fun hM => ?_) (fun hM => ?_)
      · exact hj103_31 t_broken_24 t_brokenAt_25 hM _ _ hP hD hS ls (lv_sub hl [0, 1] rfl)
      · refine lv_aload_n hx hb dX9_town_97 rfl (lv_at hl 0 rfl) ?_
        refine lv_bipush (v := 6) hx hb dX9_town_98 (by decide) ?_
        obtain ⟨o_43, hc, hM⟩ := bind_so hM
        refine mr_callVv (As := [.int 6]) (rest := []) (wr := []) ⟨hx, hb, hml, hown, hts⟩ (k_Mod_fails l D cI cB cZ cS cT qt qt_state qt_readPage qt_tape qt_cuts qt_letters qt_queue qt_busyTo qt_servedIn qt_waysOn qt_costOn qt_aheads qt_seen qt_isKept qt_lanes qt_lengths qt_cells t_hasLaw_21 t_hasCounters_22 t_highest_23 t_taped t_fault t_broken_24 t_brokenAt_25 t_spot_26 t_here_27 t_token_28 t_value_29 t_queued t_payed t_bestWait t_bestWhom t_bestCoins t_seenMany t_torn t_state t_readPage_30 t_tape t_cuts t_letters t_queue t_busyTo t_servedIn t_waysOn t_costOn t_aheads t_seen t_isKept t_lanes t_lengths t_cells 6 _ hc) (cwV 1 hts gX9_town_X9_fails rfl rfl rfl (by decide +kernel) ⟨Nat.le_of_ble_eq_true rfl, Nat.le_of_ble_eq_true rfl⟩) hK hP hD hS hA [0, 1, 2, 3, 4, 5, 6, 7, 8, 9, 10, 11, 12, 13, 14, 15, 16] [] [0, 1, 2, 3, 4, 5, 6, 7, 8, 9, 10, 11, 12, 13, 14, 15, 16] (w_Mod cI cB cZ cS cT qt qt_state qt_readPage qt_tape qt_cuts qt_letters qt_queue qt_busyTo qt_servedIn qt_waysOn qt_costOn qt_aheads qt_seen qt_isKept qt_lanes qt_lengths qt_cells t_hasLaw_21 t_hasCounters_22 t_highest_23 t_taped t_fault o_43.1 o_43.2 t_spot_26 t_here_27 t_token_28 t_value_29 t_queued t_payed t_bestWait t_bestWhom t_bestCoins t_seenMany t_torn t_state t_readPage_30 t_tape t_cuts t_letters t_queue t_busyTo t_servedIn t_waysOn t_costOn t_aheads t_seen t_isKept t_lanes t_lengths t_cells) rfl rfl rfl rfl (by decide) rfl rfl 9 0 rfl rfl rfl rfl hl.1 rfl (Nat.le_of_ble_eq_true rfl) dX9_town_100 ⟨Nat.zero_le _, Nat.zero_le _⟩ (fun H locs hP hD hS => ?_)
        exact hj103_31 o_43.1 o_43.2 hM _ _ hP hD hS ls (lv_sub hl [0, 1] rfl)

abbrev rmX9_fault : Room := { frames := 0, cells := 0, slots := 0, locals := 0 }
set_option maxHeartbeats 40000000 in
set_option maxRecDepth 100000 in
theorem k_Mod_fault (l : Launch) (D : va_G) (cI cB cZ cS cT : ClassId) (qt qt_state qt_readPage qt_tape qt_cuts qt_letters qt_queue qt_busyTo qt_servedIn qt_waysOn qt_costOn qt_aheads qt_seen qt_isKept qt_lanes qt_lengths qt_cells : Nat) (t_hasLaw t_hasCounters t_highest t_taped t_fault t_broken t_brokenAt t_spot t_here t_token t_value t_queued t_payed t_bestWait t_bestWhom t_bestCoins t_seenMany t_torn : Int32) (t_state t_readPage t_tape t_cuts t_letters t_queue t_busyTo t_servedIn t_waysOn t_costOn t_aheads t_seen t_isKept t_lanes t_lengths t_cells : Nat → Int32)  (o : Int32) (hM : Mod_fault t_fault = some o) : mtI l yX9_fault wsX9_fault rmX9_fault D (tys5 cI cB cZ cS cT) [.ref qt] (w_Mod cI cB cZ cS cT qt qt_state qt_readPage qt_tape qt_cuts qt_letters qt_queue qt_busyTo qt_servedIn qt_waysOn qt_costOn qt_aheads qt_seen qt_isKept qt_lanes qt_lengths qt_cells t_hasLaw t_hasCounters t_highest t_taped t_fault t_broken t_brokenAt t_spot t_here t_token t_value t_queued t_payed t_bestWait t_bestWhom t_bestCoins t_seenMany t_torn t_state t_readPage t_tape t_cuts t_letters t_queue t_busyTo t_servedIn t_waysOn t_costOn t_aheads t_seen t_isKept t_lanes t_lengths t_cells) (w_Mod cI cB cZ cS cT qt qt_state qt_readPage qt_tape qt_cuts qt_letters qt_queue qt_busyTo qt_servedIn qt_waysOn qt_costOn qt_aheads qt_seen qt_isKept qt_lanes qt_lengths qt_cells t_hasLaw t_hasCounters t_highest t_taped t_fault t_broken t_brokenAt t_spot t_here t_token t_value t_queued t_payed t_bestWait t_bestWhom t_bestCoins t_seenMany t_torn t_state t_readPage t_tape t_cuts t_letters t_queue t_busyTo t_servedIn t_waysOn t_costOn t_aheads t_seen t_isKept t_lanes t_lengths t_cells) o := by
  refine mtI.of (cc := cX9_fault) (maxL := 1) (ret := (some .int)) (by decide) rfl (Nat.le_of_ble_eq_true rfl) ?_
  intro p e s m below meth c A Q av hav hQ hx hb hr hml hown hts hlocks hK hP hD hA hS ls hl
  have hown : s.vm.findClass RX9 = some m.cls := hown
  have hl : lv_has ls 1 [(0, .ref qt)] := hl
  unfold Mod_fault at hM
  have inX9w : ∀ w ∈ u_ws RX9 TX9 34, w ∈ wsX9_fault := by decide +kernel
  have hf139 := hts (.fieldLink RX9 139 "LetsInModel" "fault" "I") (by decide +kernel)
  refine lv_aload_n hx hb dX9_fault_0 rfl (lv_at hl 0 rfl) ?_
  refine va_get (D := D) (ci := 9) (v := .int t_fault) (C := RX9) (T := TX9) (N := 34) hx hb hts inX9w hown hK hP 0 rfl rfl 7 (by decide) hf139 (fun _ h9 => h9) rfl dX9_fault_1 ?_
  have hM := Option.some.inj hM
  subst hM
  exact mr_iret hx hb hr hlocks hQ hP hD hS rfl dX9_fault_4

abbrev rmX9_many : Room := { frames := 0, cells := 0, slots := 0, locals := 0 }
set_option maxHeartbeats 40000000 in
set_option maxRecDepth 100000 in
theorem k_Mod_many (l : Launch) (D : va_G) (cI cB cZ cS cT : ClassId) (qt qt_state qt_readPage qt_tape qt_cuts qt_letters qt_queue qt_busyTo qt_servedIn qt_waysOn qt_costOn qt_aheads qt_seen qt_isKept qt_lanes qt_lengths qt_cells : Nat) (t_hasLaw t_hasCounters t_highest t_taped t_fault t_broken t_brokenAt t_spot t_here t_token t_value t_queued t_payed t_bestWait t_bestWhom t_bestCoins t_seenMany t_torn : Int32) (t_state t_readPage t_tape t_cuts t_letters t_queue t_busyTo t_servedIn t_waysOn t_costOn t_aheads t_seen t_isKept t_lanes t_lengths t_cells : Nat → Int32)  (o : Int32) (hM : Mod_many t_state = some o) : mtI l yX9_many wsX9_many rmX9_many D (tys5 cI cB cZ cS cT) [.ref qt] (w_Mod cI cB cZ cS cT qt qt_state qt_readPage qt_tape qt_cuts qt_letters qt_queue qt_busyTo qt_servedIn qt_waysOn qt_costOn qt_aheads qt_seen qt_isKept qt_lanes qt_lengths qt_cells t_hasLaw t_hasCounters t_highest t_taped t_fault t_broken t_brokenAt t_spot t_here t_token t_value t_queued t_payed t_bestWait t_bestWhom t_bestCoins t_seenMany t_torn t_state t_readPage t_tape t_cuts t_letters t_queue t_busyTo t_servedIn t_waysOn t_costOn t_aheads t_seen t_isKept t_lanes t_lengths t_cells) (w_Mod cI cB cZ cS cT qt qt_state qt_readPage qt_tape qt_cuts qt_letters qt_queue qt_busyTo qt_servedIn qt_waysOn qt_costOn qt_aheads qt_seen qt_isKept qt_lanes qt_lengths qt_cells t_hasLaw t_hasCounters t_highest t_taped t_fault t_broken t_brokenAt t_spot t_here t_token t_value t_queued t_payed t_bestWait t_bestWhom t_bestCoins t_seenMany t_torn t_state t_readPage t_tape t_cuts t_letters t_queue t_busyTo t_servedIn t_waysOn t_costOn t_aheads t_seen t_isKept t_lanes t_lengths t_cells) o := by
  refine mtI.of (cc := cX9_many) (maxL := 1) (ret := (some .int)) (by decide) rfl (Nat.le_of_ble_eq_true rfl) ?_
  intro p e s m below meth c A Q av hav hQ hx hb hr hml hown hts hlocks hK hP hD hA hS ls hl
  have hown : s.vm.findClass RX9 = some m.cls := hown
  have hl : lv_has ls 1 [(0, .ref qt)] := hl
  unfold Mod_many at hM
  have inX9w : ∀ w ∈ u_ws RX9 TX9 34, w ∈ wsX9_many := by decide +kernel
  have hf7 := hts (.fieldLink RX9 7 "LetsInModel" "state" "[I") (by decide +kernel)
  refine lv_aload_n hx hb dX9_many_0 rfl (lv_at hl 0 rfl) ?_
  refine va_get (D := D) (ci := 9) (v := .ref qt_state) (C := RX9) (T := TX9) (N := 34) hx hb hts inX9w hown hK hP 0 rfl rfl 0 (by decide) hf7 (fun _ h9 => h9) rfl dX9_many_1 ?_
  refine lv_bipush (v := 93) hx hb dX9_many_4 (by decide) ?_
  refine mr_iald hx hb hK hP 1 0 rfl rfl hM dX9_many_6 (fun v_1 hM => ?_)
  have hM := Option.some.inj hM
  subst hM
  exact mr_iret hx hb hr hlocks hQ hP hD hS rfl dX9_many_7

abbrev rmX9_rule : Room := { frames := 1, cells := 0, slots := 0, locals := 20 }
set_option maxHeartbeats 40000000 in
set_option maxRecDepth 100000 in
theorem k_Mod_rule (l : Launch) (D : va_G) (cI cB cZ cS cT : ClassId) (qt qt_state qt_readPage qt_tape qt_cuts qt_letters qt_queue qt_busyTo qt_servedIn qt_waysOn qt_costOn qt_aheads qt_seen qt_isKept qt_lanes qt_lengths qt_cells : Nat) (t_hasLaw t_hasCounters t_highest t_taped t_fault t_broken t_brokenAt t_spot t_here t_token t_value t_queued t_payed t_bestWait t_bestWhom t_bestCoins t_seenMany t_torn : Int32) (t_state t_readPage t_tape t_cuts t_letters t_queue t_busyTo t_servedIn t_waysOn t_costOn t_aheads t_seen t_isKept t_lanes t_lengths t_cells : Nat → Int32) (p1 : Int32) (o : Int32) (hM : Mod_rule p1 t_state = some o) : mtI l yX9_rule wsX9_rule rmX9_rule D (tys5 cI cB cZ cS cT) [.ref qt, .int p1] (w_Mod cI cB cZ cS cT qt qt_state qt_readPage qt_tape qt_cuts qt_letters qt_queue qt_busyTo qt_servedIn qt_waysOn qt_costOn qt_aheads qt_seen qt_isKept qt_lanes qt_lengths qt_cells t_hasLaw t_hasCounters t_highest t_taped t_fault t_broken t_brokenAt t_spot t_here t_token t_value t_queued t_payed t_bestWait t_bestWhom t_bestCoins t_seenMany t_torn t_state t_readPage t_tape t_cuts t_letters t_queue t_busyTo t_servedIn t_waysOn t_costOn t_aheads t_seen t_isKept t_lanes t_lengths t_cells) (w_Mod cI cB cZ cS cT qt qt_state qt_readPage qt_tape qt_cuts qt_letters qt_queue qt_busyTo qt_servedIn qt_waysOn qt_costOn qt_aheads qt_seen qt_isKept qt_lanes qt_lengths qt_cells t_hasLaw t_hasCounters t_highest t_taped t_fault t_broken t_brokenAt t_spot t_here t_token t_value t_queued t_payed t_bestWait t_bestWhom t_bestCoins t_seenMany t_torn t_state t_readPage t_tape t_cuts t_letters t_queue t_busyTo t_servedIn t_waysOn t_costOn t_aheads t_seen t_isKept t_lanes t_lengths t_cells) o := by
  refine mtI.of (cc := cX9_rule) (maxL := 2) (ret := (some .int)) (by decide) rfl (Nat.le_of_ble_eq_true rfl) ?_
  intro p e s m below meth c A Q av hav hQ hx hb hr hml hown hts hlocks hK hP hD hA hS ls hl
  have hown : s.vm.findClass RX9 = some m.cls := hown
  have hl : lv_has ls 2 [(0, .ref qt), (1, .int p1)] := hl
  unfold Mod_rule at hM
  have inX9w : ∀ w ∈ u_ws RX9 TX9 34, w ∈ wsX9_rule := by decide +kernel
  have hf7 := hts (.fieldLink RX9 7 "LetsInModel" "state" "[I") (by decide +kernel)
  refine lv_iload_n hx hb dX9_rule_0 rfl (lv_at hl 1 rfl) ?_
  refine mr_if_ne (tgt := 11) hx hb hM dX9_rule_1 (by decide) (fun hM => ?_) (fun hM => ?_)
  · refine lv_iload_n hx hb dX9_rule_11 rfl (lv_at hl 1 rfl) ?_
    refine lv_iconst (v := 1) hx hb dX9_rule_12 (by decide) ?_
    refine mr_icmp_ne (tgt := 26) hx hb hM dX9_rule_13 (by decide) (fun hM => ?_) (fun hM => ?_)
    · refine lv_iload_n hx hb dX9_rule_26 rfl (lv_at hl 1 rfl) ?_
      refine lv_iconst (v := 2) hx hb dX9_rule_27 (by decide) ?_
      refine mr_icmp_ne (tgt := 43) hx hb hM dX9_rule_28 (by decide) (fun hM => ?_) (fun hM => ?_)
      · refine lv_iconst (v := (-1)) hx hb dX9_rule_43 (by decide) ?_
        have hM := Option.some.inj hM
        subst hM
        exact mr_iret hx hb hr hlocks hQ hP hD hS rfl dX9_rule_44
      · refine lv_iconst (v := 1) hx hb dX9_rule_31 (by decide) ?_
        refine lv_aload_n hx hb dX9_rule_32 rfl (lv_at hl 0 rfl) ?_
        refine va_get (D := D) (ci := 9) (v := .ref qt_state) (C := RX9) (T := TX9) (N := 34) hx hb hts inX9w hown hK hP 0 rfl rfl 0 (by decide) hf7 (fun _ h9 => h9) rfl dX9_rule_33 ?_
        refine lv_bipush (v := 92) hx hb dX9_rule_36 (by decide) ?_
        refine mr_iald hx hb hK hP 1 0 rfl rfl hM dX9_rule_38 (fun v_1 hM => ?_)
        refine lv_iadd hx hb dX9_rule_39 ?_
        refine lv_goto (tgt := 44) hx hb dX9_rule_40 (by decide) ?_
        have hM := Option.some.inj hM
        subst hM
        exact mr_iret hx hb hr hlocks hQ hP hD hS rfl dX9_rule_44
    · refine lv_aload_n hx hb dX9_rule_16 rfl (lv_at hl 0 rfl) ?_
      refine va_get (D := D) (ci := 9) (v := .ref qt_state) (C := RX9) (T := TX9) (N := 34) hx hb hts inX9w hown hK hP 0 rfl rfl 0 (by decide) hf7 (fun _ h9 => h9) rfl dX9_rule_17 ?_
      refine lv_bipush (v := 91) hx hb dX9_rule_20 (by decide) ?_
      refine mr_iald hx hb hK hP 1 0 rfl rfl hM dX9_rule_22 (fun v_2 hM => ?_)
      refine lv_goto (tgt := 44) hx hb dX9_rule_23 (by decide) ?_
      have hM := Option.some.inj hM
      subst hM
      exact mr_iret hx hb hr hlocks hQ hP hD hS rfl dX9_rule_44
  · refine lv_aload_n hx hb dX9_rule_4 rfl (lv_at hl 0 rfl) ?_
    obtain ⟨o_3, hc, hM⟩ := bind_so hM
    refine mr_callVi (As := []) (rest := []) (wr := []) ⟨hx, hb, hml, hown, hts⟩ (k_Mod_many l D cI cB cZ cS cT qt qt_state qt_readPage qt_tape qt_cuts qt_letters qt_queue qt_busyTo qt_servedIn qt_waysOn qt_costOn qt_aheads qt_seen qt_isKept qt_lanes qt_lengths qt_cells t_hasLaw t_hasCounters t_highest t_taped t_fault t_broken t_brokenAt t_spot t_here t_token t_value t_queued t_payed t_bestWait t_bestWhom t_bestCoins t_seenMany t_torn t_state t_readPage t_tape t_cuts t_letters t_queue t_busyTo t_servedIn t_waysOn t_costOn t_aheads t_seen t_isKept t_lanes t_lengths t_cells  _ hc) (cwV 0 hts gX9_rule_X9_many rfl rfl rfl (by decide +kernel) ⟨Nat.le_of_ble_eq_true rfl, Nat.le_of_ble_eq_true rfl⟩) hK hP hD hS hA [0, 1, 2, 3, 4, 5, 6, 7, 8, 9, 10, 11, 12, 13, 14, 15, 16] [] [0, 1, 2, 3, 4, 5, 6, 7, 8, 9, 10, 11, 12, 13, 14, 15, 16] (w_Mod cI cB cZ cS cT qt qt_state qt_readPage qt_tape qt_cuts qt_letters qt_queue qt_busyTo qt_servedIn qt_waysOn qt_costOn qt_aheads qt_seen qt_isKept qt_lanes qt_lengths qt_cells t_hasLaw t_hasCounters t_highest t_taped t_fault t_broken t_brokenAt t_spot t_here t_token t_value t_queued t_payed t_bestWait t_bestWhom t_bestCoins t_seenMany t_torn t_state t_readPage t_tape t_cuts t_letters t_queue t_busyTo t_servedIn t_waysOn t_costOn t_aheads t_seen t_isKept t_lanes t_lengths t_cells) rfl rfl rfl rfl (by decide) rfl rfl 9 0 rfl rfl rfl rfl hl.1 rfl (Nat.le_of_ble_eq_true rfl) dX9_rule_5 ⟨Nat.zero_le _, Nat.zero_le _⟩ (fun H locs hP hD hS => ?_)
    refine lv_goto (tgt := 44) hx hb dX9_rule_8 (by decide) ?_
    have hM := Option.some.inj hM
    subst hM
    exact mr_iret hx hb hr hlocks hQ hP hD hS rfl dX9_rule_44

abbrev rmX9_isOne : Room := { frames := 1, cells := 0, slots := 0, locals := 25 }
set_option maxHeartbeats 40000000 in
set_option maxRecDepth 100000 in
theorem k_Mod_isOne (l : Launch) (D : va_G) (cI cB cZ cS cT : ClassId) (qt qt_state qt_readPage qt_tape qt_cuts qt_letters qt_queue qt_busyTo qt_servedIn qt_waysOn qt_costOn qt_aheads qt_seen qt_isKept qt_lanes qt_lengths qt_cells : Nat) (t_hasLaw t_hasCounters t_highest t_taped t_fault t_broken t_brokenAt t_spot t_here t_token t_value t_queued t_payed t_bestWait t_bestWhom t_bestCoins t_seenMany t_torn : Int32) (t_state t_readPage t_tape t_cuts t_letters t_queue t_busyTo t_servedIn t_waysOn t_costOn t_aheads t_seen t_isKept t_lanes t_lengths t_cells : Nat → Int32) (p1 : Int32) (o : Int32) (hM : Mod_isOne p1 t_state = some o) : mtI l yX9_isOne wsX9_isOne rmX9_isOne D (tys5 cI cB cZ cS cT) [.ref qt, .int p1] (w_Mod cI cB cZ cS cT qt qt_state qt_readPage qt_tape qt_cuts qt_letters qt_queue qt_busyTo qt_servedIn qt_waysOn qt_costOn qt_aheads qt_seen qt_isKept qt_lanes qt_lengths qt_cells t_hasLaw t_hasCounters t_highest t_taped t_fault t_broken t_brokenAt t_spot t_here t_token t_value t_queued t_payed t_bestWait t_bestWhom t_bestCoins t_seenMany t_torn t_state t_readPage t_tape t_cuts t_letters t_queue t_busyTo t_servedIn t_waysOn t_costOn t_aheads t_seen t_isKept t_lanes t_lengths t_cells) (w_Mod cI cB cZ cS cT qt qt_state qt_readPage qt_tape qt_cuts qt_letters qt_queue qt_busyTo qt_servedIn qt_waysOn qt_costOn qt_aheads qt_seen qt_isKept qt_lanes qt_lengths qt_cells t_hasLaw t_hasCounters t_highest t_taped t_fault t_broken t_brokenAt t_spot t_here t_token t_value t_queued t_payed t_bestWait t_bestWhom t_bestCoins t_seenMany t_torn t_state t_readPage t_tape t_cuts t_letters t_queue t_busyTo t_servedIn t_waysOn t_costOn t_aheads t_seen t_isKept t_lanes t_lengths t_cells) o := by
  refine mtI.of (cc := cX9_isOne) (maxL := 2) (ret := (some .boolean)) (by decide) rfl (Nat.le_of_ble_eq_true rfl) ?_
  intro p e s m below meth c A Q av hav hQ hx hb hr hml hown hts hlocks hK hP hD hA hS ls hl
  have hown : s.vm.findClass RX9 = some m.cls := hown
  have hl : lv_has ls 2 [(0, .ref qt), (1, .int p1)] := hl
  unfold Mod_isOne at hM
  refine lv_iload_n hx hb dX9_isOne_0 rfl (lv_at hl 1 rfl) ?_
  refine lv_i2l hx hb dX9_isOne_1 rfl ?_
  refine lv_lconst (v := 0) hx hb dX9_isOne_2 (by decide) ?_
  refine lv_aload_n hx hb dX9_isOne_3 rfl (lv_at hl 0 rfl) ?_
  obtain ⟨o_1, hc, hM⟩ := bind_so hM
  refine mr_callVi (As := []) (rest := [.long 0, .long p1.toInt64]) (wr := []) ⟨hx, hb, hml, hown, hts⟩ (k_Mod_many l D cI cB cZ cS cT qt qt_state qt_readPage qt_tape qt_cuts qt_letters qt_queue qt_busyTo qt_servedIn qt_waysOn qt_costOn qt_aheads qt_seen qt_isKept qt_lanes qt_lengths qt_cells t_hasLaw t_hasCounters t_highest t_taped t_fault t_broken t_brokenAt t_spot t_here t_token t_value t_queued t_payed t_bestWait t_bestWhom t_bestCoins t_seenMany t_torn t_state t_readPage t_tape t_cuts t_letters t_queue t_busyTo t_servedIn t_waysOn t_costOn t_aheads t_seen t_isKept t_lanes t_lengths t_cells  _ hc) (cwV 0 hts gX9_isOne_X9_many rfl rfl rfl (by decide +kernel) ⟨Nat.le_of_ble_eq_true rfl, Nat.le_of_ble_eq_true rfl⟩) hK hP hD hS hA [0, 1, 2, 3, 4, 5, 6, 7, 8, 9, 10, 11, 12, 13, 14, 15, 16] [] [0, 1, 2, 3, 4, 5, 6, 7, 8, 9, 10, 11, 12, 13, 14, 15, 16] (w_Mod cI cB cZ cS cT qt qt_state qt_readPage qt_tape qt_cuts qt_letters qt_queue qt_busyTo qt_servedIn qt_waysOn qt_costOn qt_aheads qt_seen qt_isKept qt_lanes qt_lengths qt_cells t_hasLaw t_hasCounters t_highest t_taped t_fault t_broken t_brokenAt t_spot t_here t_token t_value t_queued t_payed t_bestWait t_bestWhom t_bestCoins t_seenMany t_torn t_state t_readPage t_tape t_cuts t_letters t_queue t_busyTo t_servedIn t_waysOn t_costOn t_aheads t_seen t_isKept t_lanes t_lengths t_cells) rfl rfl rfl rfl (by decide) rfl rfl 9 0 rfl rfl rfl rfl hl.1 rfl (Nat.le_of_ble_eq_true rfl) dX9_isOne_4 ⟨Nat.zero_le _, Nat.zero_le _⟩ (fun H locs hP hD hS => ?_)
  refine lv_iconst (v := 1) hx hb dX9_isOne_7 (by decide) ?_
  refine lv_isub hx hb dX9_isOne_8 ?_
  refine lv_i2l hx hb dX9_isOne_9 rfl ?_
  obtain ⟨o_2, hc, hM⟩ := bind_so hM
  refine mr_callSi (As := [.long p1.toInt64, .long 0, .long ((o_1 - 1).toInt64)]) (rest := []) ⟨hx, hb, hml, hown, hts⟩ (k_Mod_in l D cI cB cZ cS cT   p1.toInt64 0 ((o_1 - 1).toInt64) _ hc) (cwS 3 hts gX9_isOne_X9_in rfl rfl rfl (by decide +kernel) ⟨Nat.le_of_ble_eq_true rfl, Nat.le_of_ble_eq_true rfl⟩) hK hP hD hS hA rfl hl.1 rfl (Nat.le_of_ble_eq_true rfl) dX9_isOne_10 ⟨Nat.zero_le _, Nat.zero_le _⟩ (fun H locs hP hS => ?_)
  obtain ⟨hz, hM⟩ := guard_so hM
  have hM := Option.some.inj hM
  subst hM
  exact mr_zret hx hb hr (narrow_z hz) hlocks hQ hP hD hS rfl dX9_isOne_13

abbrev rmX9_one : Room := { frames := 2, cells := 0, slots := 0, locals := 46 }
set_option maxHeartbeats 40000000 in
set_option maxRecDepth 100000 in
theorem k_Mod_one (l : Launch) (D : va_G) (cI cB cZ cS cT : ClassId) (qt qt_state qt_readPage qt_tape qt_cuts qt_letters qt_queue qt_busyTo qt_servedIn qt_waysOn qt_costOn qt_aheads qt_seen qt_isKept qt_lanes qt_lengths qt_cells : Nat) (t_hasLaw t_hasCounters t_highest t_taped t_fault t_broken t_brokenAt t_spot t_here t_token t_value t_queued t_payed t_bestWait t_bestWhom t_bestCoins t_seenMany t_torn : Int32) (t_state t_readPage t_tape t_cuts t_letters t_queue t_busyTo t_servedIn t_waysOn t_costOn t_aheads t_seen t_isKept t_lanes t_lengths t_cells : Nat → Int32) (p1 p2 : Int32) (o : Int32) (hM : Mod_one p1 p2 t_state = some o) : mtI l yX9_one wsX9_one rmX9_one D (tys5 cI cB cZ cS cT) [.ref qt, .int p1, .int p2] (w_Mod cI cB cZ cS cT qt qt_state qt_readPage qt_tape qt_cuts qt_letters qt_queue qt_busyTo qt_servedIn qt_waysOn qt_costOn qt_aheads qt_seen qt_isKept qt_lanes qt_lengths qt_cells t_hasLaw t_hasCounters t_highest t_taped t_fault t_broken t_brokenAt t_spot t_here t_token t_value t_queued t_payed t_bestWait t_bestWhom t_bestCoins t_seenMany t_torn t_state t_readPage t_tape t_cuts t_letters t_queue t_busyTo t_servedIn t_waysOn t_costOn t_aheads t_seen t_isKept t_lanes t_lengths t_cells) (w_Mod cI cB cZ cS cT qt qt_state qt_readPage qt_tape qt_cuts qt_letters qt_queue qt_busyTo qt_servedIn qt_waysOn qt_costOn qt_aheads qt_seen qt_isKept qt_lanes qt_lengths qt_cells t_hasLaw t_hasCounters t_highest t_taped t_fault t_broken t_brokenAt t_spot t_here t_token t_value t_queued t_payed t_bestWait t_bestWhom t_bestCoins t_seenMany t_torn t_state t_readPage t_tape t_cuts t_letters t_queue t_busyTo t_servedIn t_waysOn t_costOn t_aheads t_seen t_isKept t_lanes t_lengths t_cells) o := by
  refine mtI.of (cc := cX9_one) (maxL := 3) (ret := (some .int)) (by decide) rfl (Nat.le_of_ble_eq_true rfl) ?_
  intro p e s m below meth c A Q av hav hQ hx hb hr hml hown hts hlocks hK hP hD hA hS ls hl
  have hown : s.vm.findClass RX9 = some m.cls := hown
  have hl : lv_has ls 3 [(0, .ref qt), (1, .int p1), (2, .int p2)] := hl
  unfold Mod_one at hM
  have inX9w : ∀ w ∈ u_ws RX9 TX9 34, w ∈ wsX9_one := by decide +kernel
  have hfc152 := hts (.constantLong RX9 152 5) (by decide +kernel)
  have hf7 := hts (.fieldLink RX9 7 "LetsInModel" "state" "[I") (by decide +kernel)
  refine lv_aload_n hx hb dX9_one_0 rfl (lv_at hl 0 rfl) ?_
  refine lv_iload_n hx hb dX9_one_1 rfl (lv_at hl 1 rfl) ?_
  obtain ⟨o_1, hc, hM⟩ := bind_so hM
  refine mr_callVi (As := [.int p1]) (rest := []) (wr := []) ⟨hx, hb, hml, hown, hts⟩ (k_Mod_isOne l D cI cB cZ cS cT qt qt_state qt_readPage qt_tape qt_cuts qt_letters qt_queue qt_busyTo qt_servedIn qt_waysOn qt_costOn qt_aheads qt_seen qt_isKept qt_lanes qt_lengths qt_cells t_hasLaw t_hasCounters t_highest t_taped t_fault t_broken t_brokenAt t_spot t_here t_token t_value t_queued t_payed t_bestWait t_bestWhom t_bestCoins t_seenMany t_torn t_state t_readPage t_tape t_cuts t_letters t_queue t_busyTo t_servedIn t_waysOn t_costOn t_aheads t_seen t_isKept t_lanes t_lengths t_cells p1 _ hc) (cwV 1 hts gX9_one_X9_isOne rfl rfl rfl (by decide +kernel) ⟨Nat.le_of_ble_eq_true rfl, Nat.le_of_ble_eq_true rfl⟩) hK hP hD hS hA [0, 1, 2, 3, 4, 5, 6, 7, 8, 9, 10, 11, 12, 13, 14, 15, 16] [] [0, 1, 2, 3, 4, 5, 6, 7, 8, 9, 10, 11, 12, 13, 14, 15, 16] (w_Mod cI cB cZ cS cT qt qt_state qt_readPage qt_tape qt_cuts qt_letters qt_queue qt_busyTo qt_servedIn qt_waysOn qt_costOn qt_aheads qt_seen qt_isKept qt_lanes qt_lengths qt_cells t_hasLaw t_hasCounters t_highest t_taped t_fault t_broken t_brokenAt t_spot t_here t_token t_value t_queued t_payed t_bestWait t_bestWhom t_bestCoins t_seenMany t_torn t_state t_readPage t_tape t_cuts t_letters t_queue t_busyTo t_servedIn t_waysOn t_costOn t_aheads t_seen t_isKept t_lanes t_lengths t_cells) rfl rfl rfl rfl (by decide) rfl rfl 9 0 rfl rfl rfl rfl hl.1 rfl (Nat.le_of_ble_eq_true rfl) dX9_one_2 ⟨Nat.zero_le _, Nat.zero_le _⟩ (fun H locs hP hD hS => ?_)
  refine mr_if_eq (tgt := 34) hx hb hM dX9_one_5 (by decide) (fun hM => ?_) (fun hM => ?_)
  · refine lv_iconst (v := (-1)) hx hb dX9_one_34 (by decide) ?_
    have hM := Option.some.inj hM
    subst hM
    exact mr_iret hx hb hr hlocks hQ hP hD hS rfl dX9_one_35
  · refine lv_iload_n hx hb dX9_one_8 rfl (lv_at hl 2 rfl) ?_
    refine lv_i2l hx hb dX9_one_9 rfl ?_
    refine lv_lconst (v := 0) hx hb dX9_one_10 (by decide) ?_
    refine lv_ldc2 (v := 5) hx hb hown hfc152 dX9_one_11 ?_
    obtain ⟨o_2, hc, hM⟩ := bind_so hM
    refine mr_callSi (As := [.long p2.toInt64, .long 0, .long 5]) (rest := []) ⟨hx, hb, hml, hown, hts⟩ (k_Mod_in l D cI cB cZ cS cT   p2.toInt64 0 5 _ hc) (cwS 3 hts gX9_one_X9_in rfl rfl rfl (by decide +kernel) ⟨Nat.le_of_ble_eq_true rfl, Nat.le_of_ble_eq_true rfl⟩) hK hP hD hS hA rfl hl.1 rfl (Nat.le_of_ble_eq_true rfl) dX9_one_14 ⟨Nat.zero_le _, Nat.zero_le _⟩ (fun H locs hP hS => ?_)
    refine mr_if_eq (tgt := 34) hx hb hM dX9_one_17 (by decide) (fun hM => ?_) (fun hM => ?_)
    · refine lv_iconst (v := (-1)) hx hb dX9_one_34 (by decide) ?_
      have hM := Option.some.inj hM
      subst hM
      exact mr_iret hx hb hr hlocks hQ hP hD hS rfl dX9_one_35
    · refine lv_aload_n hx hb dX9_one_20 rfl (lv_at hl 0 rfl) ?_
      refine va_get (D := D) (ci := 9) (v := .ref qt_state) (C := RX9) (T := TX9) (N := 34) hx hb hts inX9w hown hK hP 0 rfl rfl 0 (by decide) hf7 (fun _ h9 => h9) rfl dX9_one_21 ?_
      refine lv_bipush (v := 6) hx hb dX9_one_24 (by decide) ?_
      refine lv_iload_n hx hb dX9_one_26 rfl (lv_at hl 1 rfl) ?_
      refine lv_imul hx hb dX9_one_27 ?_
      refine lv_iload_n hx hb dX9_one_28 rfl (lv_at hl 2 rfl) ?_
      refine lv_iadd hx hb dX9_one_29 ?_
      refine mr_iald hx hb hK hP 1 0 rfl rfl hM dX9_one_30 (fun v_3 hM => ?_)
      refine lv_goto (tgt := 35) hx hb dX9_one_31 (by decide) ?_
      have hM := Option.some.inj hM
      subst hM
      exact mr_iret hx hb hr hlocks hQ hP hD hS rfl dX9_one_35

abbrev rmX9_areTwo : Room := { frames := 2, cells := 0, slots := 0, locals := 46 }
set_option maxHeartbeats 40000000 in
set_option maxRecDepth 100000 in
theorem k_Mod_areTwo (l : Launch) (D : va_G) (cI cB cZ cS cT : ClassId) (qt qt_state qt_readPage qt_tape qt_cuts qt_letters qt_queue qt_busyTo qt_servedIn qt_waysOn qt_costOn qt_aheads qt_seen qt_isKept qt_lanes qt_lengths qt_cells : Nat) (t_hasLaw t_hasCounters t_highest t_taped t_fault t_broken t_brokenAt t_spot t_here t_token t_value t_queued t_payed t_bestWait t_bestWhom t_bestCoins t_seenMany t_torn : Int32) (t_state t_readPage t_tape t_cuts t_letters t_queue t_busyTo t_servedIn t_waysOn t_costOn t_aheads t_seen t_isKept t_lanes t_lengths t_cells : Nat → Int32) (p1 p2 : Int32) (o : Int32) (hM : Mod_areTwo p1 p2 t_state = some o) : mtI l yX9_areTwo wsX9_areTwo rmX9_areTwo D (tys5 cI cB cZ cS cT) [.ref qt, .int p1, .int p2] (w_Mod cI cB cZ cS cT qt qt_state qt_readPage qt_tape qt_cuts qt_letters qt_queue qt_busyTo qt_servedIn qt_waysOn qt_costOn qt_aheads qt_seen qt_isKept qt_lanes qt_lengths qt_cells t_hasLaw t_hasCounters t_highest t_taped t_fault t_broken t_brokenAt t_spot t_here t_token t_value t_queued t_payed t_bestWait t_bestWhom t_bestCoins t_seenMany t_torn t_state t_readPage t_tape t_cuts t_letters t_queue t_busyTo t_servedIn t_waysOn t_costOn t_aheads t_seen t_isKept t_lanes t_lengths t_cells) (w_Mod cI cB cZ cS cT qt qt_state qt_readPage qt_tape qt_cuts qt_letters qt_queue qt_busyTo qt_servedIn qt_waysOn qt_costOn qt_aheads qt_seen qt_isKept qt_lanes qt_lengths qt_cells t_hasLaw t_hasCounters t_highest t_taped t_fault t_broken t_brokenAt t_spot t_here t_token t_value t_queued t_payed t_bestWait t_bestWhom t_bestCoins t_seenMany t_torn t_state t_readPage t_tape t_cuts t_letters t_queue t_busyTo t_servedIn t_waysOn t_costOn t_aheads t_seen t_isKept t_lanes t_lengths t_cells) o := by
  refine mtI.of (cc := cX9_areTwo) (maxL := 3) (ret := (some .boolean)) (by decide) rfl (Nat.le_of_ble_eq_true rfl) ?_
  intro p e s m below meth c A Q av hav hQ hx hb hr hml hown hts hlocks hK hP hD hA hS ls hl
  have hown : s.vm.findClass RX9 = some m.cls := hown
  have hl : lv_has ls 3 [(0, .ref qt), (1, .int p1), (2, .int p2)] := hl
  unfold Mod_areTwo at hM
  refine lv_aload_n hx hb dX9_areTwo_0 rfl (lv_at hl 0 rfl) ?_
  refine lv_iload_n hx hb dX9_areTwo_1 rfl (lv_at hl 1 rfl) ?_
  obtain ⟨o_1, hc, hM⟩ := bind_so hM
  refine mr_callVi (As := [.int p1]) (rest := []) (wr := []) ⟨hx, hb, hml, hown, hts⟩ (k_Mod_isOne l D cI cB cZ cS cT qt qt_state qt_readPage qt_tape qt_cuts qt_letters qt_queue qt_busyTo qt_servedIn qt_waysOn qt_costOn qt_aheads qt_seen qt_isKept qt_lanes qt_lengths qt_cells t_hasLaw t_hasCounters t_highest t_taped t_fault t_broken t_brokenAt t_spot t_here t_token t_value t_queued t_payed t_bestWait t_bestWhom t_bestCoins t_seenMany t_torn t_state t_readPage t_tape t_cuts t_letters t_queue t_busyTo t_servedIn t_waysOn t_costOn t_aheads t_seen t_isKept t_lanes t_lengths t_cells p1 _ hc) (cwV 1 hts gX9_areTwo_X9_isOne rfl rfl rfl (by decide +kernel) ⟨Nat.le_of_ble_eq_true rfl, Nat.le_of_ble_eq_true rfl⟩) hK hP hD hS hA [0, 1, 2, 3, 4, 5, 6, 7, 8, 9, 10, 11, 12, 13, 14, 15, 16] [] [0, 1, 2, 3, 4, 5, 6, 7, 8, 9, 10, 11, 12, 13, 14, 15, 16] (w_Mod cI cB cZ cS cT qt qt_state qt_readPage qt_tape qt_cuts qt_letters qt_queue qt_busyTo qt_servedIn qt_waysOn qt_costOn qt_aheads qt_seen qt_isKept qt_lanes qt_lengths qt_cells t_hasLaw t_hasCounters t_highest t_taped t_fault t_broken t_brokenAt t_spot t_here t_token t_value t_queued t_payed t_bestWait t_bestWhom t_bestCoins t_seenMany t_torn t_state t_readPage t_tape t_cuts t_letters t_queue t_busyTo t_servedIn t_waysOn t_costOn t_aheads t_seen t_isKept t_lanes t_lengths t_cells) rfl rfl rfl rfl (by decide) rfl rfl 9 0 rfl rfl rfl rfl hl.1 rfl (Nat.le_of_ble_eq_true rfl) dX9_areTwo_2 ⟨Nat.zero_le _, Nat.zero_le _⟩ (fun H locs hP hD hS => ?_)
  refine mr_if_eq (tgt := 25) hx hb hM dX9_areTwo_5 (by decide) (fun hM => ?_) (fun hM => ?_)
  · refine lv_iconst (v := 0) hx hb dX9_areTwo_25 (by decide) ?_
    have hM := Option.some.inj hM
    subst hM
    exact mr_zret hx hb hr (by decide) hlocks hQ hP hD hS rfl dX9_areTwo_26
  · refine lv_aload_n hx hb dX9_areTwo_8 rfl (lv_at hl 0 rfl) ?_
    refine lv_iload_n hx hb dX9_areTwo_9 rfl (lv_at hl 2 rfl) ?_
    obtain ⟨o_2, hc, hM⟩ := bind_so hM
    refine mr_callVi (As := [.int p2]) (rest := []) (wr := []) ⟨hx, hb, hml, hown, hts⟩ (k_Mod_isOne l D cI cB cZ cS cT qt qt_state qt_readPage qt_tape qt_cuts qt_letters qt_queue qt_busyTo qt_servedIn qt_waysOn qt_costOn qt_aheads qt_seen qt_isKept qt_lanes qt_lengths qt_cells t_hasLaw t_hasCounters t_highest t_taped t_fault t_broken t_brokenAt t_spot t_here t_token t_value t_queued t_payed t_bestWait t_bestWhom t_bestCoins t_seenMany t_torn t_state t_readPage t_tape t_cuts t_letters t_queue t_busyTo t_servedIn t_waysOn t_costOn t_aheads t_seen t_isKept t_lanes t_lengths t_cells p2 _ hc) (cwV 1 hts gX9_areTwo_X9_isOne rfl rfl rfl (by decide +kernel) ⟨Nat.le_of_ble_eq_true rfl, Nat.le_of_ble_eq_true rfl⟩) hK hP hD hS hA [0, 1, 2, 3, 4, 5, 6, 7, 8, 9, 10, 11, 12, 13, 14, 15, 16] [] [0, 1, 2, 3, 4, 5, 6, 7, 8, 9, 10, 11, 12, 13, 14, 15, 16] (w_Mod cI cB cZ cS cT qt qt_state qt_readPage qt_tape qt_cuts qt_letters qt_queue qt_busyTo qt_servedIn qt_waysOn qt_costOn qt_aheads qt_seen qt_isKept qt_lanes qt_lengths qt_cells t_hasLaw t_hasCounters t_highest t_taped t_fault t_broken t_brokenAt t_spot t_here t_token t_value t_queued t_payed t_bestWait t_bestWhom t_bestCoins t_seenMany t_torn t_state t_readPage t_tape t_cuts t_letters t_queue t_busyTo t_servedIn t_waysOn t_costOn t_aheads t_seen t_isKept t_lanes t_lengths t_cells) rfl rfl rfl rfl (by decide) rfl rfl 9 0 rfl rfl rfl rfl hl.1 rfl (Nat.le_of_ble_eq_true rfl) dX9_areTwo_10 ⟨Nat.zero_le _, Nat.zero_le _⟩ (fun H locs hP hD hS => ?_)
    refine mr_if_eq (tgt := 25) hx hb hM dX9_areTwo_13 (by decide) (fun hM => ?_) (fun hM => ?_)
    · refine lv_iconst (v := 0) hx hb dX9_areTwo_25 (by decide) ?_
      have hM := Option.some.inj hM
      subst hM
      exact mr_zret hx hb hr (by decide) hlocks hQ hP hD hS rfl dX9_areTwo_26
    · refine lv_iload_n hx hb dX9_areTwo_16 rfl (lv_at hl 1 rfl) ?_
      refine lv_iload_n hx hb dX9_areTwo_17 rfl (lv_at hl 2 rfl) ?_
      refine mr_icmp_eq (tgt := 25) hx hb hM dX9_areTwo_18 (by decide) (fun hM => ?_) (fun hM => ?_)
      · refine lv_iconst (v := 0) hx hb dX9_areTwo_25 (by decide) ?_
        have hM := Option.some.inj hM
        subst hM
        exact mr_zret hx hb hr (by decide) hlocks hQ hP hD hS rfl dX9_areTwo_26
      · refine lv_iconst (v := 1) hx hb dX9_areTwo_21 (by decide) ?_
        refine lv_goto (tgt := 26) hx hb dX9_areTwo_22 (by decide) ?_
        have hM := Option.some.inj hM
        subst hM
        exact mr_zret hx hb hr (by decide) hlocks hQ hP hD hS rfl dX9_areTwo_26

abbrev rmX9_debtAt : Room := { frames := 0, cells := 0, slots := 0, locals := 0 }
set_option maxHeartbeats 40000000 in
set_option maxRecDepth 100000 in
theorem k_Mod_debtAt (l : Launch) (D : va_G) (cI cB cZ cS cT : ClassId)   (p0 p1 : Int32) (o : Int32) (hM : Mod_debtAt p0 p1 = some o) : mtI l yX9_debtAt wsX9_debtAt rmX9_debtAt D (tys5 cI cB cZ cS cT) [.int p0, .int p1] [] [] o := by
  refine mtI.of (cc := cX9_debtAt) (maxL := 2) (ret := (some .int)) (by decide) rfl (Nat.le_of_ble_eq_true rfl) ?_
  intro p e s m below meth c A Q av hav hQ hx hb hr hml hown hts hlocks hK hP hD hA hS ls hl
  have hown : s.vm.findClass RX9 = some m.cls := hown
  have hl : lv_has ls 2 [(0, .int p0), (1, .int p1)] := hl
  unfold Mod_debtAt at hM
  refine lv_bipush (v := 42) hx hb dX9_debtAt_0 (by decide) ?_
  refine lv_bipush (v := 7) hx hb dX9_debtAt_2 (by decide) ?_
  refine lv_iload_n hx hb dX9_debtAt_4 rfl (lv_at hl 0 rfl) ?_
  refine lv_imul hx hb dX9_debtAt_5 ?_
  refine lv_iadd hx hb dX9_debtAt_6 ?_
  refine lv_iload_n hx hb dX9_debtAt_7 rfl (lv_at hl 1 rfl) ?_
  refine lv_iadd hx hb dX9_debtAt_8 ?_
  have hM := Option.some.inj hM
  subst hM
  exact mr_iret hx hb hr hlocks hQ hP hD hS rfl dX9_debtAt_9
