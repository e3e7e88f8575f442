abbrev rmX9_layRow : Room := { frames := 4, cells := 0, slots := 0, locals := 97 }
set_option maxHeartbeats 40000000 in
set_option maxRecDepth 100000 in
theorem k_Mod_layRow (l : Launch) (D : va_G) (cI cB cZ cS cT : ClassId) (qt qt_state qt_readPage qt_tape qt_cuts qt_letters qt_queue qt_busyTo qt_servedIn qt_waysOn qt_costOn qt_aheads qt_seen qt_isKept qt_lanes qt_lengths qt_cells : Nat) (t_hasLaw t_hasCounters t_highest t_taped t_fault t_broken t_brokenAt t_spot t_here t_token t_value t_queued t_payed t_bestWait t_bestWhom t_bestCoins t_seenMany t_torn : Int32) (t_state t_readPage t_tape t_cuts t_letters t_queue t_busyTo t_servedIn t_waysOn t_costOn t_aheads t_seen t_isKept t_lanes t_lengths t_cells : Nat → Int32) (p1 : Int32) (o : Int32 × Int32 × (Nat → Int32) × (Nat → Int32)) (hM : Mod_layRow p1 t_payed t_state t_queue = some o) : mtV l yX9_layRow wsX9_layRow rmX9_layRow D (tys5 cI cB cZ cS cT) [.ref qt, .int p1] (w_Mod cI cB cZ cS cT qt qt_state qt_readPage qt_tape qt_cuts qt_letters qt_queue qt_busyTo qt_servedIn qt_waysOn qt_costOn qt_aheads qt_seen qt_isKept qt_lanes qt_lengths qt_cells t_hasLaw t_hasCounters t_highest t_taped t_fault t_broken t_brokenAt t_spot t_here t_token t_value t_queued t_payed t_bestWait t_bestWhom t_bestCoins t_seenMany t_torn t_state t_readPage t_tape t_cuts t_letters t_queue t_busyTo t_servedIn t_waysOn t_costOn t_aheads t_seen t_isKept t_lanes t_lengths t_cells) (w_Mod cI cB cZ cS cT qt qt_state qt_readPage qt_tape qt_cuts qt_letters qt_queue qt_busyTo qt_servedIn qt_waysOn qt_costOn qt_aheads qt_seen qt_isKept qt_lanes qt_lengths qt_cells t_hasLaw t_hasCounters t_highest t_taped t_fault t_broken t_brokenAt t_spot t_here t_token t_value o.1 o.2.1 t_bestWait t_bestWhom t_bestCoins t_seenMany t_torn o.2.2.1 t_readPage t_tape t_cuts t_letters o.2.2.2 t_busyTo t_servedIn t_waysOn t_costOn t_aheads t_seen t_isKept t_lanes t_lengths t_cells) := by
  refine mtV.of (cc := cX9_layRow) (maxL := 4) (ret := none) (by decide) rfl (Nat.le_of_ble_eq_true rfl) ?_
  intro p e s m below meth c A Q av hav hQ hx hb hr hml hown hts hlocks hK hP hD hA hS ls hl
  have hown : s.vm.findClass RX9 = some m.cls := hown
  have hl : lv_has ls 4 [(0, .ref qt), (1, .int p1)] := hl
  unfold Mod_layRow at hM
  have inX9w : ∀ w ∈ u_ws RX9 TX9 34, w ∈ wsX9_layRow := by decide +kernel
  have hf187 := hts (.fieldLink RX9 187 "LetsInModel" "queued" "I") (by decide +kernel)
  have hf7 := hts (.fieldLink RX9 7 "LetsInModel" "state" "[I") (by decide +kernel)
  refine lv_aload_n hx hb dX9_layRow_0 rfl (lv_at hl 0 rfl) ?_
  refine lv_iconst (v := 0) hx hb dX9_layRow_1 (by decide) ?_
  refine mr_put (D := D) (ci := 9) (v := .int 0) (ty := .int) (C := RX9) (T := TX9) (N := 34) hx hb hts inX9w tyX9 tyX9_ok nmX9 hown hK hP hD hS 0 rfl rfl 17 (by decide) hf187 (fun _ h9 => h9) rfl (by decide +kernel) rfl rfl (Nat.le_of_ble_eq_true rfl) dX9_layRow_2 (w_Mod cI cB cZ cS cT qt qt_state qt_readPage qt_tape qt_cuts qt_letters qt_queue qt_busyTo qt_servedIn qt_waysOn qt_costOn qt_aheads qt_seen qt_isKept qt_lanes qt_lengths qt_cells t_hasLaw t_hasCounters t_highest t_taped t_fault t_broken t_brokenAt t_spot t_here t_token t_value 0 t_payed t_bestWait t_bestWhom t_bestCoins t_seenMany t_torn t_state t_readPage t_tape t_cuts t_letters t_queue t_busyTo t_servedIn t_waysOn t_costOn t_aheads t_seen t_isKept t_lanes t_lengths t_cells) rfl (fun H locs hP hD hS => ?_)
  refine lv_iconst (v := 0) hx hb dX9_layRow_5 (by decide) ?_
  refine lv_istore_n (lv' := [(2, .int 0), (0, .ref qt), (1, .int p1)]) hx hb dX9_layRow_6 rfl hl (by decide) rfl (fun ls hl => ?_)
  have hL7 : ∀ (K66 : Int32 → Int32 → (Nat → Int32) → (Nat → Int32) → Option (Int32 × Int32 × (Nat → Int32) × (Nat → Int32))), (∀ (t_queued_22 t_payed_23 : Int32) (t_state_24 t_queue_25 : Nat → Int32), K66 t_queued_22 t_payed_23 t_state_24 t_queue_25 = some o → ∀ (H : Heap) (locs : List Loc), va_P D vwCl (w_Mod cI cB cZ cS cT qt qt_state qt_readPage qt_tape qt_cuts qt_letters qt_queue qt_busyTo qt_servedIn qt_waysOn qt_costOn qt_aheads qt_seen qt_isKept qt_lanes qt_lengths qt_cells t_hasLaw t_hasCounters t_highest t_taped t_fault t_broken t_brokenAt t_spot t_here t_token t_value t_queued_22 t_payed_23 t_bestWait t_bestWhom t_bestCoins t_seenMany t_torn t_state_24 t_readPage t_tape t_cuts t_letters t_queue_25 t_busyTo t_servedIn t_waysOn t_costOn t_aheads t_seen t_isKept t_lanes t_lengths t_cells) H → va_D A (w_Mod cI cB cZ cS cT qt qt_state qt_readPage qt_tape qt_cuts qt_letters qt_queue qt_busyTo qt_servedIn qt_waysOn qt_costOn qt_aheads qt_seen qt_isKept qt_lanes qt_lengths qt_cells t_hasLaw t_hasCounters t_highest t_taped t_fault t_broken t_brokenAt t_spot t_here t_token t_value t_queued_22 t_payed_23 t_bestWait t_bestWhom t_bestCoins t_seenMany t_torn t_state_24 t_readPage t_tape t_cuts t_letters t_queue_25 t_busyTo t_servedIn t_waysOn t_costOn t_aheads t_seen t_isKept t_lanes t_lengths t_cells) → va_S A s.heap H locs → ∀ ls : Array Slot, lv_has ls 4 [] → W p l e rmX9_layRow s m av below meth c H locs 0 0 Q (F0 m 66 ls [])) → ∀ (n : Nat) (x2_1 t_queued_2 t_payed_3 : Int32) (t_state_4 t_queue_5 : Nat → Int32), Mod_layRow_L7 p1 K66 n x2_1 t_queued_2 t_payed_3 t_state_4 t_queue_5 = some o → ∀ (H : Heap) (locs : List Loc), va_P D vwCl (w_Mod cI cB cZ cS cT qt qt_state qt_readPage qt_tape qt_cuts qt_letters qt_queue qt_busyTo qt_servedIn qt_waysOn qt_costOn qt_aheads qt_seen qt_isKept qt_lanes qt_lengths qt_cells t_hasLaw t_hasCounters t_highest t_taped t_fault t_broken t_brokenAt t_spot t_here t_token t_value t_queued_2 t_payed_3 t_bestWait t_bestWhom t_bestCoins t_seenMany t_torn t_state_4 t_readPage t_tape t_cuts t_letters t_queue_5 t_busyTo t_servedIn t_waysOn t_costOn t_aheads t_seen t_isKept t_lanes t_lengths t_cells) H → va_D A (w_Mod cI cB cZ cS cT qt qt_state qt_readPage qt_tape qt_cuts qt_letters qt_queue qt_busyTo qt_servedIn qt_waysOn qt_costOn qt_aheads qt_seen qt_isKept qt_lanes qt_lengths qt_cells t_hasLaw t_hasCounters t_highest t_taped t_fault t_broken t_brokenAt t_spot t_here t_token t_value t_queued_2 t_payed_3 t_bestWait t_bestWhom t_bestCoins t_seenMany t_torn t_state_4 t_readPage t_tape t_cuts t_letters t_queue_5 t_busyTo t_servedIn t_waysOn t_costOn t_aheads t_seen t_isKept t_lanes t_lengths t_cells) → va_S A s.heap H locs → ∀ ls : Array Slot, lv_has ls 4 [(0, .ref qt), (1, .int p1), (2, .int x2_1)] → W p l e rmX9_layRow s m av below meth c H locs 0 0 Q (F0 m 7 ls []) := by
    intro K66 hK66 n
    induction n with
    | zero =>
      intro x2_1 t_queued_2 t_payed_3 t_state_4 t_queue_5 hM
      rw [Mod_layRow_L7] at hM
      cases hM
    | succ n ih =>
      intro x2_1 t_queued_2 t_payed_3 t_state_4 t_queue_5 hM H locs hP hD hS ls hl
      rw [Mod_layRow_L7] at hM
      refine lv_iload_n hx hb dX9_layRow_7 rfl (lv_at hl 2 rfl) ?_
      refine lv_bipush (v := 60) hx hb dX9_layRow_8 (by decide) ?_
      refine mr_icmp_gt (tgt := 66) hx hb hM dX9_layRow_10 (by decide) (fun hM => ?_) (fun hM => ?_)
      · exact hK66 t_queued_2 t_payed_3 t_state_4 t_queue_5 hM _ _ hP hD hS ls (lv_sub hl [] rfl)
      · refine lv_iconst (v := 0) hx hb dX9_layRow_13 (by decide) ?_
        refine lv_istore_n (lv' := [(3, .int 0), (0, .ref qt), (1, .int p1), (2, .int x2_1)]) hx hb dX9_layRow_14 rfl hl (by decide) rfl (fun ls hl => ?_)
        have hL15 : ∀ (K60 : Int32 → Int32 → (Nat → Int32) → (Nat → Int32) → Option (Int32 × Int32 × (Nat → Int32) × (Nat → Int32))), (∀ (t_queued_17 t_payed_18 : Int32) (t_state_19 t_queue_20 : Nat → Int32), K60 t_queued_17 t_payed_18 t_state_19 t_queue_20 = some o → ∀ (H : Heap) (locs : List Loc), va_P D vwCl (w_Mod cI cB cZ cS cT qt qt_state qt_readPage qt_tape qt_cuts qt_letters qt_queue qt_busyTo qt_servedIn qt_waysOn qt_costOn qt_aheads qt_seen qt_isKept qt_lanes qt_lengths qt_cells t_hasLaw t_hasCounters t_highest t_taped t_fault t_broken t_brokenAt t_spot t_here t_token t_value t_queued_17 t_payed_18 t_bestWait t_bestWhom t_bestCoins t_seenMany t_torn t_state_19 t_readPage t_tape t_cuts t_letters t_queue_20 t_busyTo t_servedIn t_waysOn t_costOn t_aheads t_seen t_isKept t_lanes t_lengths t_cells) H → va_D A (w_Mod cI cB cZ cS cT qt qt_state qt_readPage qt_tape qt_cuts qt_letters qt_queue qt_busyTo qt_servedIn qt_waysOn qt_costOn qt_aheads qt_seen qt_isKept qt_lanes qt_lengths qt_cells t_hasLaw t_hasCounters t_highest t_taped t_fault t_broken t_brokenAt t_spot t_here t_token t_value t_queued_17 t_payed_18 t_bestWait t_bestWhom t_bestCoins t_seenMany t_torn t_state_19 t_readPage t_tape t_cuts t_letters t_queue_20 t_busyTo t_servedIn t_waysOn t_costOn t_aheads t_seen t_isKept t_lanes t_lengths t_cells) → va_S A s.heap H locs → ∀ ls : Array Slot, lv_has ls 4 [(0, .ref qt), (1, .int p1), (2, .int x2_1)] → W p l e rmX9_layRow s m av below meth c H locs 0 0 Q (F0 m 60 ls [])) → ∀ (n : Nat) (x3_6 t_queued_7 t_payed_8 : Int32) (t_state_9 t_queue_10 : Nat → Int32), Mod_layRow_L15 p1 x2_1 K60 n x3_6 t_queued_7 t_payed_8 t_state_9 t_queue_10 = some o → ∀ (H : Heap) (locs : List Loc), va_P D vwCl (w_Mod cI cB cZ cS cT qt qt_state qt_readPage qt_tape qt_cuts qt_letters qt_queue qt_busyTo qt_servedIn qt_waysOn qt_costOn qt_aheads qt_seen qt_isKept qt_lanes qt_lengths qt_cells t_hasLaw t_hasCounters t_highest t_taped t_fault t_broken t_brokenAt t_spot t_here t_token t_value t_queued_7 t_payed_8 t_bestWait t_bestWhom t_bestCoins t_seenMany t_torn t_state_9 t_readPage t_tape t_cuts t_letters t_queue_10 t_busyTo t_servedIn t_waysOn t_costOn t_aheads t_seen t_isKept t_lanes t_lengths t_cells) H → va_D A (w_Mod cI cB cZ cS cT qt qt_state qt_readPage qt_tape qt_cuts qt_letters qt_queue qt_busyTo qt_servedIn qt_waysOn qt_costOn qt_aheads qt_seen qt_isKept qt_lanes qt_lengths qt_cells t_hasLaw t_hasCounters t_highest t_taped t_fault t_broken t_brokenAt t_spot t_here t_token t_value t_queued_7 t_payed_8 t_bestWait t_bestWhom t_bestCoins t_seenMany t_torn t_state_9 t_readPage t_tape t_cuts t_letters t_queue_10 t_busyTo t_servedIn t_waysOn t_costOn t_aheads t_seen t_isKept t_lanes t_lengths t_cells) → va_S A s.heap H locs → ∀ ls : Array Slot, lv_has ls 4 [(0, .ref qt), (1, .int p1), (2, .int x2_1), (3, .int x3_6)] → W p l e rmX9_layRow s m av below meth c H locs 0 0 Q (F0 m 15 ls []) := by
          intro K60 hK60 n
          induction n with
          | zero =>
            intro x3_6 t_queued_7 t_payed_8 t_state_9 t_queue_10 hM
            rw [Mod_layRow_L15] at hM
            cases hM
          | succ n ih =>
            intro x3_6 t_queued_7 t_payed_8 t_state_9 t_queue_10 hM H locs hP hD hS ls hl
            rw [Mod_layRow_L15] at hM
            refine lv_iload_n hx hb dX9_layRow_15 rfl (lv_at hl 3 rfl) ?_
            refine lv_aload_n hx hb dX9_layRow_16 rfl (lv_at hl 0 rfl) ?_
            obtain ⟨o_11, hc, hM⟩ := bind_so hM
            refine mr_callVi (As := []) (rest := [.int x3_6]) (wr := []) ⟨hx, hb, hml, hown, hts⟩ (k_Mod_many l D cI cB cZ cS cT qt qt_state qt_readPage qt_tape qt_cuts qt_letters qt_queue qt_busyTo qt_servedIn qt_waysOn qt_costOn qt_aheads qt_seen qt_isKept qt_lanes qt_lengths qt_cells t_hasLaw t_hasCounters t_highest t_taped t_fault t_broken t_brokenAt t_spot t_here t_token t_value t_queued_7 t_payed_8 t_bestWait t_bestWhom t_bestCoins t_seenMany t_torn t_state_9 t_readPage t_tape t_cuts t_letters t_queue_10 t_busyTo t_servedIn t_waysOn t_costOn t_aheads t_seen t_isKept t_lanes t_lengths t_cells  _ hc) (cwV 0 hts gX9_layRow_X9_many rfl rfl rfl (by decide +kernel) ⟨Nat.le_of_ble_eq_true rfl, Nat.le_of_ble_eq_true rfl⟩) hK hP hD hS hA [0, 1, 2, 3, 4, 5, 6, 7, 8, 9, 10, 11, 12, 13, 14, 15, 16] [] [0, 1, 2, 3, 4, 5, 6, 7, 8, 9, 10, 11, 12, 13, 14, 15, 16] (w_Mod cI cB cZ cS cT qt qt_state qt_readPage qt_tape qt_cuts qt_letters qt_queue qt_busyTo qt_servedIn qt_waysOn qt_costOn qt_aheads qt_seen qt_isKept qt_lanes qt_lengths qt_cells t_hasLaw t_hasCounters t_highest t_taped t_fault t_broken t_brokenAt t_spot t_here t_token t_value t_queued_7 t_payed_8 t_bestWait t_bestWhom t_bestCoins t_seenMany t_torn t_state_9 t_readPage t_tape t_cuts t_letters t_queue_10 t_busyTo t_servedIn t_waysOn t_costOn t_aheads t_seen t_isKept t_lanes t_lengths t_cells) rfl rfl rfl rfl (by decide) rfl rfl 9 0 rfl rfl rfl rfl hl.1 rfl (Nat.le_of_ble_eq_true rfl) dX9_layRow_17 ⟨Nat.zero_le _, Nat.zero_le _⟩ (fun H locs hP hD hS => ?_)
            refine mr_icmp_ge (tgt := 60) hx hb hM dX9_layRow_20 (by decide) (fun hM => ?_) (fun hM => ?_)
            · exact hK60 t_queued_7 t_payed_8 t_state_9 t_queue_10 hM _ _ hP hD hS ls (lv_sub hl [0, 1, 2] rfl)
            · refine lv_iload_n hx hb dX9_layRow_23 rfl (lv_at hl 1 rfl) ?_
              refine lv_iload_n hx hb dX9_layRow_24 rfl (lv_at hl 3 rfl) ?_
              refine lv_ishr hx hb dX9_layRow_25 ?_
              refine lv_iconst (v := 1) hx hb dX9_layRow_26 (by decide) ?_
              refine lv_iand hx hb dX9_layRow_27 ?_
              refine lv_iconst (v := 1) hx hb dX9_layRow_28 (by decide) ?_
              refine mr_icmp_ne (tgt := 54) hx hb hM dX9_layRow_29 (by decide) (fun hM => ?_) (fun hM => ?_)
              · refine mr_iinc (k := 3) (d := 1) hx hb (fun x3_12 => [(3, .int x3_12), (0, .ref qt), (1, .int p1), (2, .int x2_1)]) hM (by decide) dX9_layRow_54 hl rfl (by decide) (fun _ => rfl) (fun x3_12 hM ls hl => ?_)
                refine lv_goto (tgt := 15) hx hb dX9_layRow_57 (by decide) ?_
                exact ih x3_12 t_queued_7 t_payed_8 t_state_9 t_queue_10 hM _ _ hP hD hS ls (lv_sub hl [1, 2, 3, 0] rfl)
              · refine lv_aload_n hx hb dX9_layRow_32 rfl (lv_at hl 0 rfl) ?_
                refine va_get (D := D) (ci := 9) (v := .ref qt_state) (C := RX9) (T := TX9) (N := 34) hx hb hts inX9w hown hK hP 0 rfl rfl 0 (by decide) hf7 (fun _ h9 => h9) rfl dX9_layRow_33 ?_
                refine lv_bipush (v := 6) hx hb dX9_layRow_36 (by decide) ?_
                refine lv_iload_n hx hb dX9_layRow_38 rfl (lv_at hl 3 rfl) ?_
                refine lv_imul hx hb dX9_layRow_39 ?_
                refine lv_iconst (v := 1) hx hb dX9_layRow_40 (by decide) ?_
                refine lv_iadd hx hb dX9_layRow_41 ?_
                refine mr_iald hx hb hK hP 1 0 rfl rfl hM dX9_layRow_42 (fun v_13 hM => ?_)
                refine lv_iload_n hx hb dX9_layRow_43 rfl (lv_at hl 2 rfl) ?_
                refine mr_icmp_ne (tgt := 54) hx hb hM dX9_layRow_44 (by decide) (fun hM => ?_) (fun hM => ?_)
                · refine mr_iinc (k := 3) (d := 1) hx hb (fun x3_14 => [(3, .int x3_14), (0, .ref qt), (1, .int p1), (2, .int x2_1)]) hM (by decide) dX9_layRow_54 hl rfl (by decide) (fun _ => rfl) (fun x3_14 hM ls hl => ?_)
                  refine lv_goto (tgt := 15) hx hb dX9_layRow_57 (by decide) ?_
                  exact ih x3_14 t_queued_7 t_payed_8 t_state_9 t_queue_10 hM _ _ hP hD hS ls (lv_sub hl [1, 2, 3, 0] rfl)
                · refine lv_aload_n hx hb dX9_layRow_47 rfl (lv_at hl 0 rfl) ?_
                  refine lv_iconst (v := 0) hx hb dX9_layRow_48 (by decide) ?_
                  refine lv_iload_n hx hb dX9_layRow_49 rfl (lv_at hl 3 rfl) ?_
                  refine lv_iconst (v := 0) hx hb dX9_layRow_50 (by decide) ?_
                  obtain ⟨o_15, hc, hM⟩ := bind_so hM
                  refine mr_callVv (As := [.int 0, .int x3_6, .int 0]) (rest := []) (wr := []) ⟨hx, hb, hml, hown, hts⟩ (k_Mod_comesTo l D cI cB cZ cS cT qt qt_state qt_readPage qt_tape qt_cuts qt_letters qt_queue qt_busyTo qt_servedIn qt_waysOn qt_costOn qt_aheads qt_seen qt_isKept qt_lanes qt_lengths qt_cells t_hasLaw t_hasCounters t_highest t_taped t_fault t_broken t_brokenAt t_spot t_here t_token t_value t_queued_7 t_payed_8 t_bestWait t_bestWhom t_bestCoins t_seenMany t_torn t_state_9 t_readPage t_tape t_cuts t_letters t_queue_10 t_busyTo t_servedIn t_waysOn t_costOn t_aheads t_seen t_isKept t_lanes t_lengths t_cells 0 x3_6 0 _ hc) (cwV 3 hts gX9_layRow_X9_comesTo rfl rfl rfl (by decide +kernel) ⟨Nat.le_of_ble_eq_true rfl, Nat.le_of_ble_eq_true rfl⟩) hK hP hD hS hA [0, 1, 2, 3, 4, 5, 6, 7, 8, 9, 10, 11, 12, 13, 14, 15, 16] [] [0, 1, 2, 3, 4, 5, 6, 7, 8, 9, 10, 11, 12, 13, 14, 15, 16] (w_Mod cI cB cZ cS cT qt qt_state qt_readPage qt_tape qt_cuts qt_letters qt_queue qt_busyTo qt_servedIn qt_waysOn qt_costOn qt_aheads qt_seen qt_isKept qt_lanes qt_lengths qt_cells t_hasLaw t_hasCounters t_highest t_taped t_fault t_broken t_brokenAt t_spot t_here t_token t_value o_15.1 o_15.2.1 t_bestWait t_bestWhom t_bestCoins t_seenMany t_torn o_15.2.2.1 t_readPage t_tape t_cuts t_letters o_15.2.2.2 t_busyTo t_servedIn t_waysOn t_costOn t_aheads t_seen t_isKept t_lanes t_lengths t_cells) rfl rfl rfl rfl (by decide) rfl rfl 9 0 rfl rfl rfl rfl hl.1 rfl (Nat.le_of_ble_eq_true rfl) dX9_layRow_51 ⟨Nat.zero_le _, Nat.zero_le _⟩ (fun H locs hP hD hS => ?_)
                  refine mr_iinc (k := 3) (d := 1) hx hb (fun x3_16 => [(3, .int x3_16), (0, .ref qt), (1, .int p1), (2, .int x2_1)]) hM (by decide) dX9_layRow_54 hl rfl (by decide) (fun _ => rfl) (fun x3_16 hM ls hl => ?_)
                  refine lv_goto (tgt := 15) hx hb dX9_layRow_57 (by decide) ?_
                  exact ih x3_16 o_15.1 o_15.2.1 o_15.2.2.1 o_15.2.2.2 hM _ _ hP hD hS ls (lv_sub hl [1, 2, 3, 0] rfl)
        refine hL15 _ (fun t_queued_17 t_payed_18 t_state_19 t_queue_20 hM H locs hP hD hS ls hl => ?_) _ 0 t_queued_2 t_payed_3 t_state_4 t_queue_5 hM _ _ hP hD hS ls (lv_sub hl [1, 2, 3, 0] rfl)
        refine mr_iinc (k := 2) (d := 1) hx hb (fun x2_21 => [(2, .int x2_21), (0, .ref qt), (1, .int p1)]) hM (by decide) dX9_layRow_60 hl rfl (by decide) (fun _ => rfl) (fun x2_21 hM ls hl => ?_)
        refine lv_goto (tgt := 7) hx hb dX9_layRow_63 (by decide) ?_
        exact ih x2_21 t_queued_17 t_payed_18 t_state_19 t_queue_20 hM _ _ hP hD hS ls (lv_sub hl [1, 2, 0] rfl)
  refine hL7 _ (fun t_queued_22 t_payed_23 t_state_24 t_queue_25 hM H locs hP hD hS ls hl => ?_) _ 0 0 t_payed t_state t_queue hM _ _ hP hD hS ls (lv_sub hl [1, 2, 0] rfl)
  have hM := Option.some.inj hM
  subst hM
  exact mr_vret hx hb hr hlocks hQ hP hD hS dX9_layRow_66

abbrev rmX9_stands : Room := { frames := 5, cells := 0, slots := 0, locals := 120 }
set_option maxHeartbeats 40000000 in
set_option maxRecDepth 100000 in
theorem k_Mod_stands (l : Launch) (D : va_G) (cI cB cZ cS cT : ClassId) (qt qt_state qt_readPage qt_tape qt_cuts qt_letters qt_queue qt_busyTo qt_servedIn qt_waysOn qt_costOn qt_aheads qt_seen qt_isKept qt_lanes qt_lengths qt_cells : Nat) (t_hasLaw t_hasCounters t_highest t_taped t_fault t_broken t_brokenAt t_spot t_here t_token t_value t_queued t_payed t_bestWait t_bestWhom t_bestCoins t_seenMany t_torn : Int32) (t_state t_readPage t_tape t_cuts t_letters t_queue t_busyTo t_servedIn t_waysOn t_costOn t_aheads t_seen t_isKept t_lanes t_lengths t_cells : Nat → Int32) (p1 : Int32) (o : Int32 × Int32 × Int32 × (Nat → Int32) × (Nat → Int32)) (hM : Mod_stands p1 t_queued t_payed t_state t_queue = some o) : mtI l yX9_stands wsX9_stands rmX9_stands D (tys5 cI cB cZ cS cT) [.ref qt, .int p1] (w_Mod cI cB cZ cS cT qt qt_state qt_readPage qt_tape qt_cuts qt_letters qt_queue qt_busyTo qt_servedIn qt_waysOn qt_costOn qt_aheads qt_seen qt_isKept qt_lanes qt_lengths qt_cells t_hasLaw t_hasCounters t_highest t_taped t_fault t_broken t_brokenAt t_spot t_here t_token t_value t_queued t_payed t_bestWait t_bestWhom t_bestCoins t_seenMany t_torn t_state t_readPage t_tape t_cuts t_letters t_queue t_busyTo t_servedIn t_waysOn t_costOn t_aheads t_seen t_isKept t_lanes t_lengths t_cells) (w_Mod cI cB cZ cS cT qt qt_state qt_readPage qt_tape qt_cuts qt_letters qt_queue qt_busyTo qt_servedIn qt_waysOn qt_costOn qt_aheads qt_seen qt_isKept qt_lanes qt_lengths qt_cells t_hasLaw t_hasCounters t_highest t_taped t_fault t_broken t_brokenAt t_spot t_here t_token t_value o.2.1 o.2.2.1 t_bestWait t_bestWhom t_bestCoins t_seenMany t_torn o.2.2.2.1 t_readPage t_tape t_cuts t_letters o.2.2.2.2 t_busyTo t_servedIn t_waysOn t_costOn t_aheads t_seen t_isKept t_lanes t_lengths t_cells) o.1 := by
  refine mtI.of (cc := cX9_stands) (maxL := 2) (ret := (some .int)) (by decide) rfl (Nat.le_of_ble_eq_true rfl) ?_
  intro p e s m below meth c A Q av hav hQ hx hb hr hml hown hts hlocks hK hP hD hA hS ls hl
  have hown : s.vm.findClass RX9 = some m.cls := hown
  have hl : lv_has ls 2 [(0, .ref qt), (1, .int p1)] := hl
  unfold Mod_stands at hM
  have inX9w : ∀ w ∈ u_ws RX9 TX9 34, w ∈ wsX9_stands := by decide +kernel
  have hf25 := hts (.fieldLink RX9 25 "LetsInModel" "queue" "[I") (by decide +kernel)
  refine lv_aload_n hx hb dX9_stands_0 rfl (lv_at hl 0 rfl) ?_
  refine lv_iload_n hx hb dX9_stands_1 rfl (lv_at hl 1 rfl) ?_
  obtain ⟨o_1, hc, hM⟩ := bind_so hM
  refine mr_callVi (As := [.int p1]) (rest := []) (wr := []) ⟨hx, hb, hml, hown, hts⟩ (k_Mod_isOne l D cI cB cZ cS cT qt qt_state qt_readPage qt_tape qt_cuts qt_letters qt_queue qt_busyTo qt_servedIn qt_waysOn qt_costOn qt_aheads qt_seen qt_isKept qt_lanes qt_lengths qt_cells t_hasLaw t_hasCounters t_highest t_taped t_fault t_broken t_brokenAt t_spot t_here t_token t_value t_queued t_payed t_bestWait t_bestWhom t_bestCoins t_seenMany t_torn t_state t_readPage t_tape t_cuts t_letters t_queue t_busyTo t_servedIn t_waysOn t_costOn t_aheads t_seen t_isKept t_lanes t_lengths t_cells p1 _ hc) (cwV 1 hts gX9_stands_X9_isOne rfl rfl rfl (by decide +kernel) ⟨Nat.le_of_ble_eq_true rfl, Nat.le_of_ble_eq_true rfl⟩) hK hP hD hS hA [0, 1, 2, 3, 4, 5, 6, 7, 8, 9, 10, 11, 12, 13, 14, 15, 16] [] [0, 1, 2, 3, 4, 5, 6, 7, 8, 9, 10, 11, 12, 13, 14, 15, 16] (w_Mod cI cB cZ cS cT qt qt_state qt_readPage qt_tape qt_cuts qt_letters qt_queue qt_busyTo qt_servedIn qt_waysOn qt_costOn qt_aheads qt_seen qt_isKept qt_lanes qt_lengths qt_cells t_hasLaw t_hasCounters t_highest t_taped t_fault t_broken t_brokenAt t_spot t_here t_token t_value t_queued t_payed t_bestWait t_bestWhom t_bestCoins t_seenMany t_torn t_state t_readPage t_tape t_cuts t_letters t_queue t_busyTo t_servedIn t_waysOn t_costOn t_aheads t_seen t_isKept t_lanes t_lengths t_cells) rfl rfl rfl rfl (by decide) rfl rfl 9 0 rfl rfl rfl rfl hl.1 rfl (Nat.le_of_ble_eq_true rfl) dX9_stands_2 ⟨Nat.zero_le _, Nat.zero_le _⟩ (fun H locs hP hD hS => ?_)
  refine mr_if_ne (tgt := 10) hx hb hM dX9_stands_5 (by decide) (fun hM => ?_) (fun hM => ?_)
  · refine lv_aload_n hx hb dX9_stands_10 rfl (lv_at hl 0 rfl) ?_
    refine lv_iconst (v := 1) hx hb dX9_stands_11 (by decide) ?_
    refine lv_aload_n hx hb dX9_stands_12 rfl (lv_at hl 0 rfl) ?_
    obtain ⟨o_2, hc, hM⟩ := bind_so hM
    refine mr_callVi (As := []) (rest := [.int 1, .ref qt]) (wr := []) ⟨hx, hb, hml, hown, hts⟩ (k_Mod_many l D cI cB cZ cS cT qt qt_state qt_readPage qt_tape qt_cuts qt_letters qt_queue qt_busyTo qt_servedIn qt_waysOn qt_costOn qt_aheads qt_seen qt_isKept qt_lanes qt_lengths qt_cells t_hasLaw t_hasCounters t_highest t_taped t_fault t_broken t_brokenAt t_spot t_here t_token t_value t_queued t_payed t_bestWait t_bestWhom t_bestCoins t_seenMany t_torn t_state t_readPage t_tape t_cuts t_letters t_queue t_busyTo t_servedIn t_waysOn t_costOn t_aheads t_seen t_isKept t_lanes t_lengths t_cells  _ hc) (cwV 0 hts gX9_stands_X9_many rfl rfl rfl (by decide +kernel) ⟨Nat.le_of_ble_eq_true rfl, Nat.le_of_ble_eq_true rfl⟩) hK hP hD hS hA [0, 1, 2, 3, 4, 5, 6, 7, 8, 9, 10, 11, 12, 13, 14, 15, 16] [] [0, 1, 2, 3, 4, 5, 6, 7, 8, 9, 10, 11, 12, 13, 14, 15, 16] (w_Mod cI cB cZ cS cT qt qt_state qt_readPage qt_tape qt_cuts qt_letters qt_queue qt_busyTo qt_servedIn qt_waysOn qt_costOn qt_aheads qt_seen qt_isKept qt_lanes qt_lengths qt_cells t_hasLaw t_hasCounters t_highest t_taped t_fault t_broken t_brokenAt t_spot t_here t_token t_value t_queued t_payed t_bestWait t_bestWhom t_bestCoins t_seenMany t_torn t_state t_readPage t_tape t_cuts t_letters t_queue t_busyTo t_servedIn t_waysOn t_costOn t_aheads t_seen t_isKept t_lanes t_lengths t_cells) rfl rfl rfl rfl (by decide) rfl rfl 9 0 rfl rfl rfl rfl hl.1 rfl (Nat.le_of_ble_eq_true rfl) dX9_stands_13 ⟨Nat.zero_le _, Nat.zero_le _⟩ (fun H locs hP hD hS => ?_)
    refine lv_ishl hx hb dX9_stands_16 ?_
    refine lv_iconst (v := 1) hx hb dX9_stands_17 (by decide) ?_
    refine lv_isub hx hb dX9_stands_18 ?_
    obtain ⟨o_3, hc, hM⟩ := bind_so hM
    refine mr_callVv (As := [.int (((1 : Int32) <<< (o_2 &&& 31)) - 1)]) (rest := []) (wr := []) ⟨hx, hb, hml, hown, hts⟩ (k_Mod_layRow l D cI cB cZ cS cT qt qt_state qt_readPage qt_tape qt_cuts qt_letters qt_queue qt_busyTo qt_servedIn qt_waysOn qt_costOn qt_aheads qt_seen qt_isKept qt_lanes qt_lengths qt_cells t_hasLaw t_hasCounters t_highest t_taped t_fault t_broken t_brokenAt t_spot t_here t_token t_value t_queued t_payed t_bestWait t_bestWhom t_bestCoins t_seenMany t_torn t_state t_readPage t_tape t_cuts t_letters t_queue t_busyTo t_servedIn t_waysOn t_costOn t_aheads t_seen t_isKept t_lanes t_lengths t_cells (((1 : Int32) <<< (o_2 &&& 31)) - 1) _ hc) (cwV 1 hts gX9_stands_X9_layRow rfl rfl rfl (by decide +kernel) ⟨Nat.le_of_ble_eq_true rfl, Nat.le_of_ble_eq_true rfl⟩) hK hP hD hS hA [0, 1, 2, 3, 4, 5, 6, 7, 8, 9, 10, 11, 12, 13, 14, 15, 16] [] [0, 1, 2, 3, 4, 5, 6, 7, 8, 9, 10, 11, 12, 13, 14, 15, 16] (w_Mod cI cB cZ cS cT qt qt_state qt_readPage qt_tape qt_cuts qt_letters qt_queue qt_busyTo qt_servedIn qt_waysOn qt_costOn qt_aheads qt_seen qt_isKept qt_lanes qt_lengths qt_cells t_hasLaw t_hasCounters t_highest t_taped t_fault t_broken t_brokenAt t_spot t_here t_token t_value o_3.1 o_3.2.1 t_bestWait t_bestWhom t_bestCoins t_seenMany t_torn o_3.2.2.1 t_readPage t_tape t_cuts t_letters o_3.2.2.2 t_busyTo t_servedIn t_waysOn t_costOn t_aheads t_seen t_isKept t_lanes t_lengths t_cells) rfl rfl rfl rfl (by decide) rfl rfl 9 0 rfl rfl rfl rfl hl.1 rfl (Nat.le_of_ble_eq_true rfl) dX9_stands_19 ⟨Nat.zero_le _, Nat.zero_le _⟩ (fun H locs hP hD hS => ?_)
    refine lv_aload_n hx hb dX9_stands_22 rfl (lv_at hl 0 rfl) ?_
    refine va_get (D := D) (ci := 9) (v := .ref qt_queue) (C := RX9) (T := TX9) (N := 34) hx hb hts inX9w hown hK hP 0 rfl rfl 16 (by decide) hf25 (fun _ h9 => h9) rfl dX9_stands_23 ?_
    refine lv_iload_n hx hb dX9_stands_26 rfl (lv_at hl 1 rfl) ?_
    refine mr_iald hx hb hK hP 6 0 rfl rfl hM dX9_stands_27 (fun v_4 hM => ?_)
    have hM := Option.some.inj hM
    subst hM
    exact mr_iret hx hb hr hlocks hQ hP hD hS rfl dX9_stands_28
  · refine lv_iconst (v := (-1)) hx hb dX9_stands_8 (by decide) ?_
    have hM := Option.some.inj hM
    subst hM
    exact mr_iret hx hb hr hlocks hQ hP hD hS rfl dX9_stands_9

abbrev rmX9_letsIn : Room := { frames := 3, cells := 0, slots := 0, locals := 70 }
set_option maxHeartbeats 40000000 in
set_option maxRecDepth 100000 in
theorem k_Mod_letsIn (l : Launch) (D : va_G) (cI cB cZ cS cT : ClassId) (qt qt_state qt_readPage qt_tape qt_cuts qt_letters qt_queue qt_busyTo qt_servedIn qt_waysOn qt_costOn qt_aheads qt_seen qt_isKept qt_lanes qt_lengths qt_cells : Nat) (t_hasLaw t_hasCounters t_highest t_taped t_fault t_broken t_brokenAt t_spot t_here t_token t_value t_queued t_payed t_bestWait t_bestWhom t_bestCoins t_seenMany t_torn : Int32) (t_state t_readPage t_tape t_cuts t_letters t_queue t_busyTo t_servedIn t_waysOn t_costOn t_aheads t_seen t_isKept t_lanes t_lengths t_cells : Nat → Int32) (p1 : Int32) (o : Int32) (hM : Mod_letsIn p1 t_state = some o) : mtI l yX9_letsIn wsX9_letsIn rmX9_letsIn D (tys5 cI cB cZ cS cT) [.ref qt, .int p1] (w_Mod cI cB cZ cS cT qt qt_state qt_readPage qt_tape qt_cuts qt_letters qt_queue qt_busyTo qt_servedIn qt_waysOn qt_costOn qt_aheads qt_seen qt_isKept qt_lanes qt_lengths qt_cells t_hasLaw t_hasCounters t_highest t_taped t_fault t_broken t_brokenAt t_spot t_here t_token t_value t_queued t_payed t_bestWait t_bestWhom t_bestCoins t_seenMany t_torn t_state t_readPage t_tape t_cuts t_letters t_queue t_busyTo t_servedIn t_waysOn t_costOn t_aheads t_seen t_isKept t_lanes t_lengths t_cells) (w_Mod cI cB cZ cS cT qt qt_state qt_readPage qt_tape qt_cuts qt_letters qt_queue qt_busyTo qt_servedIn qt_waysOn qt_costOn qt_aheads qt_seen qt_isKept qt_lanes qt_lengths qt_cells t_hasLaw t_hasCounters t_highest t_taped t_fault t_broken t_brokenAt t_spot t_here t_token t_value t_queued t_payed t_bestWait t_bestWhom t_bestCoins t_seenMany t_torn t_state t_readPage t_tape t_cuts t_letters t_queue t_busyTo t_servedIn t_waysOn t_costOn t_aheads t_seen t_isKept t_lanes t_lengths t_cells) o := by
  refine mtI.of (cc := cX9_letsIn) (maxL := 4) (ret := (some .int)) (by decide) rfl (Nat.le_of_ble_eq_true rfl) ?_
  intro p e s m below meth c A Q av hav hQ hx hb hr hml hown hts hlocks hK hP hD hA hS ls hl
  have hown : s.vm.findClass RX9 = some m.cls := hown
  have hl : lv_has ls 4 [(0, .ref qt), (1, .int p1)] := hl
  unfold Mod_letsIn at hM
  refine lv_iconst (v := 0) hx hb dX9_letsIn_0 (by decide) ?_
  refine lv_istore_n (lv' := [(2, .int 0), (0, .ref qt), (1, .int p1)]) hx hb dX9_letsIn_1 rfl hl (by decide) rfl (fun ls hl => ?_)
  refine lv_iconst (v := 0) hx hb dX9_letsIn_2 (by decide) ?_
  refine lv_istore_n (lv' := [(3, .int 0), (2, .int 0), (0, .ref qt), (1, .int p1)]) hx hb dX9_letsIn_3 rfl hl (by decide) rfl (fun ls hl => ?_)
  have hL4 : ∀ (K43 : Int32 → Option (Int32)), (∀ (x2_12 : Int32), K43 x2_12 = some o → ∀ (H : Heap) (locs : List Loc), va_P D vwCl (w_Mod cI cB cZ cS cT qt qt_state qt_readPage qt_tape qt_cuts qt_letters qt_queue qt_busyTo qt_servedIn qt_waysOn qt_costOn qt_aheads qt_seen qt_isKept qt_lanes qt_lengths qt_cells t_hasLaw t_hasCounters t_highest t_taped t_fault t_broken t_brokenAt t_spot t_here t_token t_value t_queued t_payed t_bestWait t_bestWhom t_bestCoins t_seenMany t_torn t_state t_readPage t_tape t_cuts t_letters t_queue t_busyTo t_servedIn t_waysOn t_costOn t_aheads t_seen t_isKept t_lanes t_lengths t_cells) H → va_D A (w_Mod cI cB cZ cS cT qt qt_state qt_readPage qt_tape qt_cuts qt_letters qt_queue qt_busyTo qt_servedIn qt_waysOn qt_costOn qt_aheads qt_seen qt_isKept qt_lanes qt_lengths qt_cells t_hasLaw t_hasCounters t_highest t_taped t_fault t_broken t_brokenAt t_spot t_here t_token t_value t_queued t_payed t_bestWait t_bestWhom t_bestCoins t_seenMany t_torn t_state t_readPage t_tape t_cuts t_letters t_queue t_busyTo t_servedIn t_waysOn t_costOn t_aheads t_seen t_isKept t_lanes t_lengths t_cells) → va_S A s.heap H locs → ∀ ls : Array Slot, lv_has ls 4 [(2, .int x2_12)] → W p l e rmX9_letsIn s m av below meth c H locs 0 0 Q (F0 m 43 ls [])) → ∀ (n : Nat) (x2_1 x3_2 : Int32), Mod_letsIn_L4 t_state p1 K43 n x2_1 x3_2 = some o → ∀ (H : Heap) (locs : List Loc), va_P D vwCl (w_Mod cI cB cZ cS cT qt qt_state qt_readPage qt_tape qt_cuts qt_letters qt_queue qt_busyTo qt_servedIn qt_waysOn qt_costOn qt_aheads qt_seen qt_isKept qt_lanes qt_lengths qt_cells t_hasLaw t_hasCounters t_highest t_taped t_fault t_broken t_brokenAt t_spot t_here t_token t_value t_queued t_payed t_bestWait t_bestWhom t_bestCoins t_seenMany t_torn t_state t_readPage t_tape t_cuts t_letters t_queue t_busyTo t_servedIn t_waysOn t_costOn t_aheads t_seen t_isKept t_lanes t_lengths t_cells) H → va_D A (w_Mod cI cB cZ cS cT qt qt_state qt_readPage qt_tape qt_cuts qt_letters qt_queue qt_busyTo qt_servedIn qt_waysOn qt_costOn qt_aheads qt_seen qt_isKept qt_lanes qt_lengths qt_cells t_hasLaw t_hasCounters t_highest t_taped t_fault t_broken t_brokenAt t_spot t_here t_token t_value t_queued t_payed t_bestWait t_bestWhom t_bestCoins t_seenMany t_torn t_state t_readPage t_tape t_cuts t_letters t_queue t_busyTo t_servedIn t_waysOn t_costOn t_aheads t_seen t_isKept t_lanes t_lengths t_cells) → va_S A s.heap H locs → ∀ ls : Array Slot, lv_has ls 4 [(0, .ref qt), (1, .int p1), (2, .int x2_1), (3, .int x3_2)] → W p l e rmX9_letsIn s m av below meth c H locs 0 0 Q (F0 m 4 ls []) := by
    intro K43 hK43 n
    induction n with
    | zero =>
      intro x2_1 x3_2 hM
      rw [Mod_letsIn_L4] at hM
      cases hM
    | succ n ih =>
      intro x2_1 x3_2 hM H locs hP hD hS ls hl
      rw [Mod_letsIn_L4] at hM
      refine lv_iload_n hx hb dX9_letsIn_4 rfl (lv_at hl 3 rfl) ?_
      refine lv_aload_n hx hb dX9_letsIn_5 rfl (lv_at hl 0 rfl) ?_
      obtain ⟨o_3, hc, hM⟩ := bind_so hM
      refine mr_callVi (As := []) (rest := [.int x3_2]) (wr := []) ⟨hx, hb, hml, hown, hts⟩ (k_Mod_many l D cI cB cZ cS cT qt qt_state qt_readPage qt_tape qt_cuts qt_letters qt_queue qt_busyTo qt_servedIn qt_waysOn qt_costOn qt_aheads qt_seen qt_isKept qt_lanes qt_lengths qt_cells t_hasLaw t_hasCounters t_highest t_taped t_fault t_broken t_brokenAt t_spot t_here t_token t_value t_queued t_payed t_bestWait t_bestWhom t_bestCoins t_seenMany t_torn t_state t_readPage t_tape t_cuts t_letters t_queue t_busyTo t_servedIn t_waysOn t_costOn t_aheads t_seen t_isKept t_lanes t_lengths t_cells  _ hc) (cwV 0 hts gX9_letsIn_X9_many rfl rfl rfl (by decide +kernel) ⟨Nat.le_of_ble_eq_true rfl, Nat.le_of_ble_eq_true rfl⟩) hK hP hD hS hA [0, 1, 2, 3, 4, 5, 6, 7, 8, 9, 10, 11, 12, 13, 14, 15, 16] [] [0, 1, 2, 3, 4, 5, 6, 7, 8, 9, 10, 11, 12, 13, 14, 15, 16] (w_Mod cI cB cZ cS cT qt qt_state qt_readPage qt_tape qt_cuts qt_letters qt_queue qt_busyTo qt_servedIn qt_waysOn qt_costOn qt_aheads qt_seen qt_isKept qt_lanes qt_lengths qt_cells t_hasLaw t_hasCounters t_highest t_taped t_fault t_broken t_brokenAt t_spot t_here t_token t_value t_queued t_payed t_bestWait t_bestWhom t_bestCoins t_seenMany t_torn t_state t_readPage t_tape t_cuts t_letters t_queue t_busyTo t_servedIn t_waysOn t_costOn t_aheads t_seen t_isKept t_lanes t_lengths t_cells) rfl rfl rfl rfl (by decide) rfl rfl 9 0 rfl rfl rfl rfl hl.1 rfl (Nat.le_of_ble_eq_true rfl) dX9_letsIn_6 ⟨Nat.zero_le _, Nat.zero_le _⟩ (fun H locs hP hD hS => ?_)
      refine mr_icmp_ge (tgt := 43) hx hb hM dX9_letsIn_9 (by decide) (fun hM => ?_) (fun hM => ?_)
      · exact hK43 x2_1 hM _ _ hP hD hS ls (lv_sub hl [2] rfl)
      · refine lv_iload_n hx hb dX9_letsIn_12 rfl (lv_at hl 2 rfl) ?_
        refine lv_iload_n hx hb dX9_letsIn_13 rfl (lv_at hl 3 rfl) ?_
        refine lv_iload_n hx hb dX9_letsIn_14 rfl (lv_at hl 1 rfl) ?_
        refine mr_jn hM (fun j35_4 => ∀ (y_5 y_6 : Int32), j35_4 y_5 y_6 = some o → ∀ (H : Heap) (locs : List Loc), va_P D vwCl (w_Mod cI cB cZ cS cT qt qt_state qt_readPage qt_tape qt_cuts qt_letters qt_queue qt_busyTo qt_servedIn qt_waysOn qt_costOn qt_aheads qt_seen qt_isKept qt_lanes qt_lengths qt_cells t_hasLaw t_hasCounters t_highest t_taped t_fault t_broken t_brokenAt t_spot t_here t_token t_value t_queued t_payed t_bestWait t_bestWhom t_bestCoins t_seenMany t_torn t_state t_readPage t_tape t_cuts t_letters t_queue t_busyTo t_servedIn t_waysOn t_costOn t_aheads t_seen t_isKept t_lanes t_lengths t_cells) H → va_D A (w_Mod cI cB cZ cS cT qt qt_state qt_readPage qt_tape qt_cuts qt_letters qt_queue qt_busyTo qt_servedIn qt_waysOn qt_costOn qt_aheads qt_seen qt_isKept qt_lanes qt_lengths qt_cells t_hasLaw t_hasCounters t_highest t_taped t_fault t_broken t_brokenAt t_spot t_here t_token t_value t_queued t_payed t_bestWait t_bestWhom t_bestCoins t_seenMany t_torn t_state t_readPage t_tape t_cuts t_letters t_queue t_busyTo t_servedIn t_waysOn t_costOn t_aheads t_seen t_isKept t_lanes t_lengths t_cells) → va_S A s.heap H locs → ∀ ls : Array Slot, lv_has ls 4 [(0, .ref qt), (1, .int p1), (3, .int x3_2)] → W p l e rmX9_letsIn s m av below meth c H locs 0 0 Q (F0 m 35 ls [.int y_6, .int y_5])) (fun y_5 y_6 hM H locs hP hD hS ls hl => ?_) (fun j35_4 hj35_4 hM => ?_)
        · refine lv_ior hx hb dX9_letsIn_35 ?_
          refine mr_nmI hM (fun x2_7 hM => ?_)
          refine lv_istore_n (lv' := [(2, .int x2_7), (0, .ref qt), (1, .int p1), (3, .int x3_2)]) hx hb dX9_letsIn_36 rfl hl (by decide) rfl (fun ls hl => ?_)
          refine mr_iinc (k := 3) (d := 1) hx hb (fun x3_8 => [(3, .int x3_8), (2, .int x2_7), (0, .ref qt), (1, .int p1)]) hM (by decide) dX9_letsIn_37 hl rfl (by decide) (fun _ => rfl) (fun x3_8 hM ls hl => ?_)
          refine lv_goto (tgt := 4) hx hb dX9_letsIn_40 (by decide) ?_
          exact ih x2_7 x3_8 hM _ _ hP hD hS ls (lv_sub hl [2, 3, 1, 0] rfl)
        · refine mr_jn hM (fun j34_9 => ∀ (y_10 : Int32), j34_9 y_10 = some o → ∀ (H : Heap) (locs : List Loc), va_P D vwCl (w_Mod cI cB cZ cS cT qt qt_state qt_readPage qt_tape qt_cuts qt_letters qt_queue qt_busyTo qt_servedIn qt_waysOn qt_costOn qt_aheads qt_seen qt_isKept qt_lanes qt_lengths qt_cells t_hasLaw t_hasCounters t_highest t_taped t_fault t_broken t_brokenAt t_spot t_here t_token t_value t_queued t_payed t_bestWait t_bestWhom t_bestCoins t_seenMany t_torn t_state t_readPage t_tape t_cuts t_letters t_queue t_busyTo t_servedIn t_waysOn t_costOn t_aheads t_seen t_isKept t_lanes t_lengths t_cells) H → va_D A (w_Mod cI cB cZ cS cT qt qt_state qt_readPage qt_tape qt_cuts qt_letters qt_queue qt_busyTo qt_servedIn qt_waysOn qt_costOn qt_aheads qt_seen qt_isKept qt_lanes qt_lengths qt_cells t_hasLaw t_hasCounters t_highest t_taped t_fault t_broken t_brokenAt t_spot t_here t_token t_value t_queued t_payed t_bestWait t_bestWhom t_bestCoins t_seenMany t_torn t_state t_readPage t_tape t_cuts t_letters t_queue t_busyTo t_servedIn t_waysOn t_costOn t_aheads t_seen t_isKept t_lanes t_lengths t_cells) → va_S A s.heap H locs → ∀ ls : Array Slot, lv_has ls 4 [(0, .ref qt), (1, .int p1), (3, .int x3_2)] → W p l e rmX9_letsIn s m av below meth c H locs 0 0 Q (F0 m 34 ls [.int y_10])) (fun y_10 hM H locs hP hD hS ls hl => ?_) (fun j34_9 hj34_9 hM => ?_)
          · refine lv_iconst (v := 0) hx hb dX9_letsIn_34 (by decide) ?_
            exact hj35_4 y_10 0 hM _ _ hP hD hS ls (lv_sub hl [0, 1, 2] rfl)
          · refine mr_icmp_eq (tgt := 34) hx hb hM dX9_letsIn_15 (by decide) (fun hM => ?_) (fun hM => ?_)
            · exact hj34_9 x2_1 hM _ _ hP hD hS ls (lv_sub hl [0, 1, 3] rfl)
            · refine lv_aload_n hx hb dX9_letsIn_18 rfl (lv_at hl 0 rfl) ?_
              refine lv_iconst (v := 0) hx hb dX9_letsIn_19 (by decide) ?_
              refine lv_iload_n hx hb dX9_letsIn_20 rfl (lv_at hl 1 rfl) ?_
              refine lv_iload_n hx hb dX9_letsIn_21 rfl (lv_at hl 3 rfl) ?_
              obtain ⟨o_11, hc, hM⟩ := bind_so hM
              refine mr_callVi (As := [.int 0, .int p1, .int x3_2]) (rest := [.int x2_1]) (wr := []) ⟨hx, hb, hml, hown, hts⟩ (k_Mod_mustLet l D cI cB cZ cS cT qt qt_state qt_readPage qt_tape qt_cuts qt_letters qt_queue qt_busyTo qt_servedIn qt_waysOn qt_costOn qt_aheads qt_seen qt_isKept qt_lanes qt_lengths qt_cells t_hasLaw t_hasCounters t_highest t_taped t_fault t_broken t_brokenAt t_spot t_here t_token t_value t_queued t_payed t_bestWait t_bestWhom t_bestCoins t_seenMany t_torn t_state t_readPage t_tape t_cuts t_letters t_queue t_busyTo t_servedIn t_waysOn t_costOn t_aheads t_seen t_isKept t_lanes t_lengths t_cells 0 p1 x3_2 _ hc) (cwV 3 hts gX9_letsIn_X9_mustLet rfl rfl rfl (by decide +kernel) ⟨Nat.le_of_ble_eq_true rfl, Nat.le_of_ble_eq_true rfl⟩) hK hP hD hS hA [0, 1, 2, 3, 4, 5, 6, 7, 8, 9, 10, 11, 12, 13, 14, 15, 16] [] [0, 1, 2, 3, 4, 5, 6, 7, 8, 9, 10, 11, 12, 13, 14, 15, 16] (w_Mod cI cB cZ cS cT qt qt_state qt_readPage qt_tape qt_cuts qt_letters qt_queue qt_busyTo qt_servedIn qt_waysOn qt_costOn qt_aheads qt_seen qt_isKept qt_lanes qt_lengths qt_cells t_hasLaw t_hasCounters t_highest t_taped t_fault t_broken t_brokenAt t_spot t_here t_token t_value t_queued t_payed t_bestWait t_bestWhom t_bestCoins t_seenMany t_torn t_state t_readPage t_tape t_cuts t_letters t_queue t_busyTo t_servedIn t_waysOn t_costOn t_aheads t_seen t_isKept t_lanes t_lengths t_cells) rfl rfl rfl rfl (by decide) rfl rfl 9 0 rfl rfl rfl rfl hl.1 rfl (Nat.le_of_ble_eq_true rfl) dX9_letsIn_22 ⟨Nat.zero_le _, Nat.zero_le _⟩ (fun H locs hP hD hS => ?_)
              refine mr_if_eq (tgt := 34) hx hb hM dX9_letsIn_25 (by decide) (fun hM => ?_) (fun hM => ?_)
              · exact hj34_9 x2_1 hM _ _ hP hD hS ls (lv_sub hl [0, 1, 3] rfl)
              · refine lv_iconst (v := 1) hx hb dX9_letsIn_28 (by decide) ?_
                refine lv_iload_n hx hb dX9_letsIn_29 rfl (lv_at hl 3 rfl) ?_
                refine lv_ishl hx hb dX9_letsIn_30 ?_
                refine lv_goto (tgt := 35) hx hb dX9_letsIn_31 (by decide) ?_
                exact hj35_4 x2_1 ((1 : Int32) <<< (x3_2 &&& 31)) hM _ _ hP hD hS ls (lv_sub hl [0, 1, 3] rfl)
  refine hL4 _ (fun x2_12 hM H locs hP hD hS ls hl => ?_) _ 0 0 hM _ _ hP hD hS ls (lv_sub hl [2, 3, 1, 0] rfl)
  refine lv_iload_n hx hb dX9_letsIn_43 rfl (lv_at hl 0 rfl) ?_
  have hM := Option.some.inj hM
  subst hM
  exact mr_iret hx hb hr hlocks hQ hP hD hS rfl dX9_letsIn_44

abbrev rmX9_canNext : Room := { frames := 0, cells := 0, slots := 0, locals := 0 }
set_option maxHeartbeats 40000000 in
set_option maxRecDepth 100000 in
theorem k_Mod_canNext (l : Launch) (D : va_G) (cI cB cZ cS cT : ClassId) (qt qt_state qt_readPage qt_tape qt_cuts qt_letters qt_queue qt_busyTo qt_servedIn qt_waysOn qt_costOn qt_aheads qt_seen qt_isKept qt_lanes qt_lengths qt_cells : Nat) (t_hasLaw t_hasCounters t_highest t_taped t_fault t_broken t_brokenAt t_spot t_here t_token t_value t_queued t_payed t_bestWait t_bestWhom t_bestCoins t_seenMany t_torn : Int32) (t_state t_readPage t_tape t_cuts t_letters t_queue t_busyTo t_servedIn t_waysOn t_costOn t_aheads t_seen t_isKept t_lanes t_lengths t_cells : Nat → Int32) (p1 p2 : Int32) (o : Int32) (hM : Mod_canNext p1 p2 t_aheads = some o) : mtI l yX9_canNext wsX9_canNext rmX9_canNext D (tys5 cI cB cZ cS cT) [.ref qt, .int p1, .int p2] (w_Mod cI cB cZ cS cT qt qt_state qt_readPage qt_tape qt_cuts qt_letters qt_queue qt_busyTo qt_servedIn qt_waysOn qt_costOn qt_aheads qt_seen qt_isKept qt_lanes qt_lengths qt_cells t_hasLaw t_hasCounters t_highest t_taped t_fault t_broken t_brokenAt t_spot t_here t_token t_value t_queued t_payed t_bestWait t_bestWhom t_bestCoins t_seenMany t_torn t_state t_readPage t_tape t_cuts t_letters t_queue t_busyTo t_servedIn t_waysOn t_costOn t_aheads t_seen t_isKept t_lanes t_lengths t_cells) (w_Mod cI cB cZ cS cT qt qt_state qt_readPage qt_tape qt_cuts qt_letters qt_queue qt_busyTo qt_servedIn qt_waysOn qt_costOn qt_aheads qt_seen qt_isKept qt_lanes qt_lengths qt_cells t_hasLaw t_hasCounters t_highest t_taped t_fault t_broken t_brokenAt t_spot t_here t_token t_value t_queued t_payed t_bestWait t_bestWhom t_bestCoins t_seenMany t_torn t_state t_readPage t_tape t_cuts t_letters t_queue t_busyTo t_servedIn t_waysOn t_costOn t_aheads t_seen t_isKept t_lanes t_lengths t_cells) o := by
  refine mtI.of (cc := cX9_canNext) (maxL := 3) (ret := (some .boolean)) (by decide) rfl (Nat.le_of_ble_eq_true rfl) ?_
  intro p e s m below meth c A Q av hav hQ hx hb hr hml hown hts hlocks hK hP hD hA hS ls hl
  have hown : s.vm.findClass RX9 = some m.cls := hown
  have hl : lv_has ls 3 [(0, .ref qt), (1, .int p1), (2, .int p2)] := hl
  unfold Mod_canNext at hM
  have inX9w : ∀ w ∈ u_ws RX9 TX9 34, w ∈ wsX9_canNext := by decide +kernel
  have hf40 := hts (.fieldLink RX9 40 "LetsInModel" "aheads" "[I") (by decide +kernel)
  refine lv_iload_n hx hb dX9_canNext_0 rfl (lv_at hl 2 rfl) ?_
  refine lv_iload_n hx hb dX9_canNext_1 rfl (lv_at hl 1 rfl) ?_
  refine lv_ishr hx hb dX9_canNext_2 ?_
  refine lv_iconst (v := 1) hx hb dX9_canNext_3 (by decide) ?_
  refine lv_iand hx hb dX9_canNext_4 ?_
  refine mr_if_ne (tgt := 25) hx hb hM dX9_canNext_5 (by decide) (fun hM => ?_) (fun hM => ?_)
  · refine lv_iconst (v := 0) hx hb dX9_canNext_25 (by decide) ?_
    have hM := Option.some.inj hM
    subst hM
    exact mr_zret hx hb hr (by decide) hlocks hQ hP hD hS rfl dX9_canNext_26
  · refine lv_aload_n hx hb dX9_canNext_8 rfl (lv_at hl 0 rfl) ?_
    refine va_get (D := D) (ci := 9) (v := .ref qt_aheads) (C := RX9) (T := TX9) (N := 34) hx hb hts inX9w hown hK hP 0 rfl rfl 23 (by decide) hf40 (fun _ h9 => h9) rfl dX9_canNext_9 ?_
    refine lv_iload_n hx hb dX9_canNext_12 rfl (lv_at hl 1 rfl) ?_
    refine mr_iald hx hb hK hP 11 0 rfl rfl hM dX9_canNext_13 (fun v_1 hM => ?_)
    refine lv_iload_n hx hb dX9_canNext_14 rfl (lv_at hl 2 rfl) ?_
    refine lv_iconst (v := (-1)) hx hb dX9_canNext_15 (by decide) ?_
    refine lv_ixor hx hb dX9_canNext_16 ?_
    refine lv_iand hx hb dX9_canNext_17 ?_
    refine mr_if_ne (tgt := 25) hx hb hM dX9_canNext_18 (by decide) (fun hM => ?_) (fun hM => ?_)
    · refine lv_iconst (v := 0) hx hb dX9_canNext_25 (by decide) ?_
      have hM := Option.some.inj hM
      subst hM
      exact mr_zret hx hb hr (by decide) hlocks hQ hP hD hS rfl dX9_canNext_26
    · refine lv_iconst (v := 1) hx hb dX9_canNext_21 (by decide) ?_
      refine lv_goto (tgt := 26) hx hb dX9_canNext_22 (by decide) ?_
      have hM := Option.some.inj hM
      subst hM
      exact mr_zret hx hb hr (by decide) hlocks hQ hP hD hS rfl dX9_canNext_26

abbrev rmX9_takenBy : Room := { frames := 1, cells := 0, slots := 0, locals := 20 }
set_option maxHeartbeats 40000000 in
set_option maxRecDepth 100000 in
theorem k_Mod_takenBy (l : Launch) (D : va_G) (cI cB cZ cS cT : ClassId) (qt qt_state qt_readPage qt_tape qt_cuts qt_letters qt_queue qt_busyTo qt_servedIn qt_waysOn qt_costOn qt_aheads qt_seen qt_isKept qt_lanes qt_lengths qt_cells : Nat) (t_hasLaw t_hasCounters t_highest t_taped t_fault t_broken t_brokenAt t_spot t_here t_token t_value t_queued t_payed t_bestWait t_bestWhom t_bestCoins t_seenMany t_torn : Int32) (t_state t_readPage t_tape t_cuts t_letters t_queue t_busyTo t_servedIn t_waysOn t_costOn t_aheads t_seen t_isKept t_lanes t_lengths t_cells : Nat → Int32) (p1 : Int32) (o : Int32) (hM : Mod_takenBy p1 t_state = some o) : mtI l yX9_takenBy wsX9_takenBy rmX9_takenBy D (tys5 cI cB cZ cS cT) [.ref qt, .int p1] (w_Mod cI cB cZ cS cT qt qt_state qt_readPage qt_tape qt_cuts qt_letters qt_queue qt_busyTo qt_servedIn qt_waysOn qt_costOn qt_aheads qt_seen qt_isKept qt_lanes qt_lengths qt_cells t_hasLaw t_hasCounters t_highest t_taped t_fault t_broken t_brokenAt t_spot t_here t_token t_value t_queued t_payed t_bestWait t_bestWhom t_bestCoins t_seenMany t_torn t_state t_readPage t_tape t_cuts t_letters t_queue t_busyTo t_servedIn t_waysOn t_costOn t_aheads t_seen t_isKept t_lanes t_lengths t_cells) (w_Mod cI cB cZ cS cT qt qt_state qt_readPage qt_tape qt_cuts qt_letters qt_queue qt_busyTo qt_servedIn qt_waysOn qt_costOn qt_aheads qt_seen qt_isKept qt_lanes qt_lengths qt_cells t_hasLaw t_hasCounters t_highest t_taped t_fault t_broken t_brokenAt t_spot t_here t_token t_value t_queued t_payed t_bestWait t_bestWhom t_bestCoins t_seenMany t_torn t_state t_readPage t_tape t_cuts t_letters t_queue t_busyTo t_servedIn t_waysOn t_costOn t_aheads t_seen t_isKept t_lanes t_lengths t_cells) o := by
  refine mtI.of (cc := cX9_takenBy) (maxL := 4) (ret := (some .int)) (by decide) rfl (Nat.le_of_ble_eq_true rfl) ?_
  intro p e s m below meth c A Q av hav hQ hx hb hr hml hown hts hlocks hK hP hD hA hS ls hl
  have hown : s.vm.findClass RX9 = some m.cls := hown
  have hl : lv_has ls 4 [(0, .ref qt), (1, .int p1)] := hl
  unfold Mod_takenBy at hM
  have inX9w : ∀ w ∈ u_ws RX9 TX9 34, w ∈ wsX9_takenBy := by decide +kernel
  have hf7 := hts (.fieldLink RX9 7 "LetsInModel" "state" "[I") (by decide +kernel)
  refine lv_iconst (v := 0) hx hb dX9_takenBy_0 (by decide) ?_
  refine lv_istore_n (lv' := [(2, .int 0), (0, .ref qt), (1, .int p1)]) hx hb dX9_takenBy_1 rfl hl (by decide) rfl (fun ls hl => ?_)
  refine lv_iconst (v := 0) hx hb dX9_takenBy_2 (by decide) ?_
  refine lv_istore_n (lv' := [(3, .int 0), (2, .int 0), (0, .ref qt), (1, .int p1)]) hx hb dX9_takenBy_3 rfl hl (by decide) rfl (fun ls hl => ?_)
  have hL4 : ∀ (K45 : Int32 → Option (Int32)), (∀ (x2_10 : Int32), K45 x2_10 = some o → ∀ (H : Heap) (locs : List Loc), va_P D vwCl (w_Mod cI cB cZ cS cT qt qt_state qt_readPage qt_tape qt_cuts qt_letters qt_queue qt_busyTo qt_servedIn qt_waysOn qt_costOn qt_aheads qt_seen qt_isKept qt_lanes qt_lengths qt_cells t_hasLaw t_hasCounters t_highest t_taped t_fault t_broken t_brokenAt t_spot t_here t_token t_value t_queued t_payed t_bestWait t_bestWhom t_bestCoins t_seenMany t_torn t_state t_readPage t_tape t_cuts t_letters t_queue t_busyTo t_servedIn t_waysOn t_costOn t_aheads t_seen t_isKept t_lanes t_lengths t_cells) H → va_D A (w_Mod cI cB cZ cS cT qt qt_state qt_readPage qt_tape qt_cuts qt_letters qt_queue qt_busyTo qt_servedIn qt_waysOn qt_costOn qt_aheads qt_seen qt_isKept qt_lanes qt_lengths qt_cells t_hasLaw t_hasCounters t_highest t_taped t_fault t_broken t_brokenAt t_spot t_here t_token t_value t_queued t_payed t_bestWait t_bestWhom t_bestCoins t_seenMany t_torn t_state t_readPage t_tape t_cuts t_letters t_queue t_busyTo t_servedIn t_waysOn t_costOn t_aheads t_seen t_isKept t_lanes t_lengths t_cells) → va_S A s.heap H locs → ∀ ls : Array Slot, lv_has ls 4 [(2, .int x2_10)] → W p l e rmX9_takenBy s m av below meth c H locs 0 0 Q (F0 m 45 ls [])) → ∀ (n : Nat) (x2_1 x3_2 : Int32), Mod_takenBy_L4 t_state p1 K45 n x2_1 x3_2 = some o → ∀ (H : Heap) (locs : List Loc), va_P D vwCl (w_Mod cI cB cZ cS cT qt qt_state qt_readPage qt_tape qt_cuts qt_letters qt_queue qt_busyTo qt_servedIn qt_waysOn qt_costOn qt_aheads qt_seen qt_isKept qt_lanes qt_lengths qt_cells t_hasLaw t_hasCounters t_highest t_taped t_fault t_broken t_brokenAt t_spot t_here t_token t_value t_queued t_payed t_bestWait t_bestWhom t_bestCoins t_seenMany t_torn t_state t_readPage t_tape t_cuts t_letters t_queue t_busyTo t_servedIn t_waysOn t_costOn t_aheads t_seen t_isKept t_lanes t_lengths t_cells) H → va_D A (w_Mod cI cB cZ cS cT qt qt_state qt_readPage qt_tape qt_cuts qt_letters qt_queue qt_busyTo qt_servedIn qt_waysOn qt_costOn qt_aheads qt_seen qt_isKept qt_lanes qt_lengths qt_cells t_hasLaw t_hasCounters t_highest t_taped t_fault t_broken t_brokenAt t_spot t_here t_token t_value t_queued t_payed t_bestWait t_bestWhom t_bestCoins t_seenMany t_torn t_state t_readPage t_tape t_cuts t_letters t_queue t_busyTo t_servedIn t_waysOn t_costOn t_aheads t_seen t_isKept t_lanes t_lengths t_cells) → va_S A s.heap H locs → ∀ ls : Array Slot, lv_has ls 4 [(0, .ref qt), (1, .int p1), (2, .int x2_1), (3, .int x3_2)] → W p l e rmX9_takenBy s m av below meth c H locs 0 0 Q (F0 m 4 ls []) := by
    intro K45 hK45 n
    induction n with
    | zero =>
      intro x2_1 x3_2 hM
      rw [Mod_takenBy_L4] at hM
      cases hM
    | succ n ih =>
      intro x2_1 x3_2 hM H locs hP hD hS ls hl
      rw [Mod_takenBy_L4] at hM
      refine lv_iload_n hx hb dX9_takenBy_4 rfl (lv_at hl 3 rfl) ?_
      refine lv_aload_n hx hb dX9_takenBy_5 rfl (lv_at hl 0 rfl) ?_
      obtain ⟨o_3, hc, hM⟩ := bind_so hM
      refine mr_callVi (As := []) (rest := [.int x3_2]) (wr := []) ⟨hx, hb, hml, hown, hts⟩ (k_Mod_many l D cI cB cZ cS cT qt qt_state qt_readPage qt_tape qt_cuts qt_letters qt_queue qt_busyTo qt_servedIn qt_waysOn qt_costOn qt_aheads qt_seen qt_isKept qt_lanes qt_lengths qt_cells t_hasLaw t_hasCounters t_highest t_taped t_fault t_broken t_brokenAt t_spot t_here t_token t_value t_queued t_payed t_bestWait t_bestWhom t_bestCoins t_seenMany t_torn t_state t_readPage t_tape t_cuts t_letters t_queue t_busyTo t_servedIn t_waysOn t_costOn t_aheads t_seen t_isKept t_lanes t_lengths t_cells  _ hc) (cwV 0 hts gX9_takenBy_X9_many rfl rfl rfl (by decide +kernel) ⟨Nat.le_of_ble_eq_true rfl, Nat.le_of_ble_eq_true rfl⟩) hK hP hD hS hA [0, 1, 2, 3, 4, 5, 6, 7, 8, 9, 10, 11, 12, 13, 14, 15, 16] [] [0, 1, 2, 3, 4, 5, 6, 7, 8, 9, 10, 11, 12, 13, 14, 15, 16] (w_Mod cI cB cZ cS cT qt qt_state qt_readPage qt_tape qt_cuts qt_letters qt_queue qt_busyTo qt_servedIn qt_waysOn qt_costOn qt_aheads qt_seen qt_isKept qt_lanes qt_lengths qt_cells t_hasLaw t_hasCounters t_highest t_taped t_fault t_broken t_brokenAt t_spot t_here t_token t_value t_queued t_payed t_bestWait t_bestWhom t_bestCoins t_seenMany t_torn t_state t_readPage t_tape t_cuts t_letters t_queue t_busyTo t_servedIn t_waysOn t_costOn t_aheads t_seen t_isKept t_lanes t_lengths t_cells) rfl rfl rfl rfl (by decide) rfl rfl 9 0 rfl rfl rfl rfl hl.1 rfl (Nat.le_of_ble_eq_true rfl) dX9_takenBy_6 ⟨Nat.zero_le _, Nat.zero_le _⟩ (fun H locs hP hD hS => ?_)
      refine mr_icmp_ge (tgt := 45) hx hb hM dX9_takenBy_9 (by decide) (fun hM => ?_) (fun hM => ?_)
      · exact hK45 x2_1 hM _ _ hP hD hS ls (lv_sub hl [2] rfl)
      · refine lv_iload_n hx hb dX9_takenBy_12 rfl (lv_at hl 2 rfl) ?_
        refine lv_iload_n hx hb dX9_takenBy_13 rfl (lv_at hl 1 rfl) ?_
        refine lv_iload_n hx hb dX9_takenBy_14 rfl (lv_at hl 3 rfl) ?_
        refine lv_ishr hx hb dX9_takenBy_15 ?_
        refine lv_iconst (v := 1) hx hb dX9_takenBy_16 (by decide) ?_
        refine lv_iand hx hb dX9_takenBy_17 ?_
        refine lv_iconst (v := 1) hx hb dX9_takenBy_18 (by decide) ?_
        refine mr_jn hM (fun j37_4 => ∀ (y_5 y_6 : Int32), j37_4 y_5 y_6 = some o → ∀ (H : Heap) (locs : List Loc), va_P D vwCl (w_Mod cI cB cZ cS cT qt qt_state qt_readPage qt_tape qt_cuts qt_letters qt_queue qt_busyTo qt_servedIn qt_waysOn qt_costOn qt_aheads qt_seen qt_isKept qt_lanes qt_lengths qt_cells t_hasLaw t_hasCounters t_highest t_taped t_fault t_broken t_brokenAt t_spot t_here t_token t_value t_queued t_payed t_bestWait t_bestWhom t_bestCoins t_seenMany t_torn t_state t_readPage t_tape t_cuts t_letters t_queue t_busyTo t_servedIn t_waysOn t_costOn t_aheads t_seen t_isKept t_lanes t_lengths t_cells) H → va_D A (w_Mod cI cB cZ cS cT qt qt_state qt_readPage qt_tape qt_cuts qt_letters qt_queue qt_busyTo qt_servedIn qt_waysOn qt_costOn qt_aheads qt_seen qt_isKept qt_lanes qt_lengths qt_cells t_hasLaw t_hasCounters t_highest t_taped t_fault t_broken t_brokenAt t_spot t_here t_token t_value t_queued t_payed t_bestWait t_bestWhom t_bestCoins t_seenMany t_torn t_state t_readPage t_tape t_cuts t_letters t_queue t_busyTo t_servedIn t_waysOn t_costOn t_aheads t_seen t_isKept t_lanes t_lengths t_cells) → va_S A s.heap H locs → ∀ ls : Array Slot, lv_has ls 4 [(0, .ref qt), (1, .int p1), (3, .int x3_2)] → W p l e rmX9_takenBy s m av below meth c H locs 0 0 Q (F0 m 37 ls [.int y_6, .int y_5])) (fun y_5 y_6 hM H locs hP hD hS ls hl => ?_) (fun j37_4 hj37_4 hM => ?_)
        · refine lv_iadd hx hb dX9_takenBy_37 ?_
          refine mr_nmI hM (fun x2_7 hM => ?_)
          refine lv_istore_n (lv' := [(2, .int x2_7), (0, .ref qt), (1, .int p1), (3, .int x3_2)]) hx hb dX9_takenBy_38 rfl hl (by decide) rfl (fun ls hl => ?_)
          refine mr_iinc (k := 3) (d := 1) hx hb (fun x3_8 => [(3, .int x3_8), (2, .int x2_7), (0, .ref qt), (1, .int p1)]) hM (by decide) dX9_takenBy_39 hl rfl (by decide) (fun _ => rfl) (fun x3_8 hM ls hl => ?_)
          refine lv_goto (tgt := 4) hx hb dX9_takenBy_42 (by decide) ?_
          exact ih x2_7 x3_8 hM _ _ hP hD hS ls (lv_sub hl [2, 3, 1, 0] rfl)
        · refine mr_icmp_ne (tgt := 36) hx hb hM dX9_takenBy_19 (by decide) (fun hM => ?_) (fun hM => ?_)
          · refine lv_iconst (v := 0) hx hb dX9_takenBy_36 (by decide) ?_
            exact hj37_4 x2_1 0 hM _ _ hP hD hS ls (lv_sub hl [0, 1, 3] rfl)
          · refine lv_aload_n hx hb dX9_takenBy_22 rfl (lv_at hl 0 rfl) ?_
            refine va_get (D := D) (ci := 9) (v := .ref qt_state) (C := RX9) (T := TX9) (N := 34) hx hb hts inX9w hown hK hP 0 rfl rfl 0 (by decide) hf7 (fun _ h9 => h9) rfl dX9_takenBy_23 ?_
            refine lv_bipush (v := 6) hx hb dX9_takenBy_26 (by decide) ?_
            refine lv_iload_n hx hb dX9_takenBy_28 rfl (lv_at hl 3 rfl) ?_
            refine lv_imul hx hb dX9_takenBy_29 ?_
            refine lv_iconst (v := 2) hx hb dX9_takenBy_30 (by decide) ?_
            refine lv_iadd hx hb dX9_takenBy_31 ?_
            refine mr_iald hx hb hK hP 1 0 rfl rfl hM dX9_takenBy_32 (fun v_9 hM => ?_)
            refine lv_goto (tgt := 37) hx hb dX9_takenBy_33 (by decide) ?_
            exact hj37_4 x2_1 v_9 hM _ _ hP hD hS ls (lv_sub hl [0, 1, 3] rfl)
  refine hL4 _ (fun x2_10 hM H locs hP hD hS ls hl => ?_) _ 0 0 hM _ _ hP hD hS ls (lv_sub hl [2, 3, 1, 0] rfl)
  refine lv_iload_n hx hb dX9_takenBy_45 rfl (lv_at hl 0 rfl) ?_
  have hM := Option.some.inj hM
  subst hM
  exact mr_iret hx hb hr hlocks hQ hP hD hS rfl dX9_takenBy_46

abbrev rmX9_layOrders : Room := { frames := 4, cells := 0, slots := 0, locals := 93 }
set_option maxHeartbeats 40000000 in
set_option maxRecDepth 100000 in
theorem k_Mod_layOrders (l : Launch) (D : va_G) (cI cB cZ cS cT : ClassId) (qt qt_state qt_readPage qt_tape qt_cuts qt_letters qt_queue qt_busyTo qt_servedIn qt_waysOn qt_costOn qt_aheads qt_seen qt_isKept qt_lanes qt_lengths qt_cells : Nat) (t_hasLaw t_hasCounters t_highest t_taped t_fault t_broken t_brokenAt t_spot t_here t_token t_value t_queued t_payed t_bestWait t_bestWhom t_bestCoins t_seenMany t_torn : Int32) (t_state t_readPage t_tape t_cuts t_letters t_queue t_busyTo t_servedIn t_waysOn t_costOn t_aheads t_seen t_isKept t_lanes t_lengths t_cells : Nat → Int32)  (o : (Nat → Int32) × (Nat → Int32) × (Nat → Int32)) (hM : Mod_layOrders t_state t_waysOn t_costOn t_aheads = some o) : mtV l yX9_layOrders wsX9_layOrders rmX9_layOrders D (tys5 cI cB cZ cS cT) [.ref qt] (w_Mod cI cB cZ cS cT qt qt_state qt_readPage qt_tape qt_cuts qt_letters qt_queue qt_busyTo qt_servedIn qt_waysOn qt_costOn qt_aheads qt_seen qt_isKept qt_lanes qt_lengths qt_cells t_hasLaw t_hasCounters t_highest t_taped t_fault t_broken t_brokenAt t_spot t_here t_token t_value t_queued t_payed t_bestWait t_bestWhom t_bestCoins t_seenMany t_torn t_state t_readPage t_tape t_cuts t_letters t_queue t_busyTo t_servedIn t_waysOn t_costOn t_aheads t_seen t_isKept t_lanes t_lengths t_cells) (w_Mod cI cB cZ cS cT qt qt_state qt_readPage qt_tape qt_cuts qt_letters qt_queue qt_busyTo qt_servedIn qt_waysOn qt_costOn qt_aheads qt_seen qt_isKept qt_lanes qt_lengths qt_cells t_hasLaw t_hasCounters t_highest t_taped t_fault t_broken t_brokenAt t_spot t_here t_token t_value t_queued t_payed t_bestWait t_bestWhom t_bestCoins t_seenMany t_torn t_state t_readPage t_tape t_cuts t_letters t_queue t_busyTo t_servedIn o.1 o.2.1 o.2.2 t_seen t_isKept t_lanes t_lengths t_cells) := by
  refine mtV.of (cc := cX9_layOrders) (maxL := 5) (ret := none) (by decide) rfl (Nat.le_of_ble_eq_true rfl) ?_
  intro p e s m below meth c A Q av hav hQ hx hb hr hml hown hts hlocks hK hP hD hA hS ls hl
  have hown : s.vm.findClass RX9 = some m.cls := hown
  have hl : lv_has ls 5 [(0, .ref qt)] := hl
  unfold Mod_layOrders at hM
  have inX9w : ∀ w ∈ u_ws RX9 TX9 34, w ∈ wsX9_layOrders := by decide +kernel
  have hf40 := hts (.fieldLink RX9 40 "LetsInModel" "aheads" "[I") (by decide +kernel)
  have hf34 := hts (.fieldLink RX9 34 "LetsInModel" "waysOn" "[I") (by decide +kernel)
  have hf37 := hts (.fieldLink RX9 37 "LetsInModel" "costOn" "[I") (by decide +kernel)
  have hfc226 := hts (.constant RX9 226 1000000) (by decide +kernel)
  have hf7 := hts (.fieldLink RX9 7 "LetsInModel" "state" "[I") (by decide +kernel)
  refine lv_iconst (v := 1) hx hb dX9_layOrders_0 (by decide) ?_
  refine lv_aload_n hx hb dX9_layOrders_1 rfl (lv_at hl 0 rfl) ?_
  obtain ⟨o_1, hc, hM⟩ := bind_so hM
  refine mr_callVi (As := []) (rest := [.int 1]) (wr := []) ⟨hx, hb, hml, hown, hts⟩ (k_Mod_many l D cI cB cZ cS cT qt qt_state qt_readPage qt_tape qt_cuts qt_letters qt_queue qt_busyTo qt_servedIn qt_waysOn qt_costOn qt_aheads qt_seen qt_isKept qt_lanes qt_lengths qt_cells t_hasLaw t_hasCounters t_highest t_taped t_fault t_broken t_brokenAt t_spot t_here t_token t_value t_queued t_payed t_bestWait t_bestWhom t_bestCoins t_seenMany t_torn t_state t_readPage t_tape t_cuts t_letters t_queue t_busyTo t_servedIn t_waysOn t_costOn t_aheads t_seen t_isKept t_lanes t_lengths t_cells  _ hc) (cwV 0 hts gX9_layOrders_X9_many rfl rfl rfl (by decide +kernel) ⟨Nat.le_of_ble_eq_true rfl, Nat.le_of_ble_eq_true rfl⟩) hK hP hD hS hA [0, 1, 2, 3, 4, 5, 6, 7, 8, 9, 10, 11, 12, 13, 14, 15, 16] [] [0, 1, 2, 3, 4, 5, 6, 7, 8, 9, 10, 11, 12, 13, 14, 15, 16] (w_Mod cI cB cZ cS cT qt qt_state qt_readPage qt_tape qt_cuts qt_letters qt_queue qt_busyTo qt_servedIn qt_waysOn qt_costOn qt_aheads qt_seen qt_isKept qt_lanes qt_lengths qt_cells t_hasLaw t_hasCounters t_highest t_taped t_fault t_broken t_brokenAt t_spot t_here t_token t_value t_queued t_payed t_bestWait t_bestWhom t_bestCoins t_seenMany t_torn t_state t_readPage t_tape t_cuts t_letters t_queue t_busyTo t_servedIn t_waysOn t_costOn t_aheads t_seen t_isKept t_lanes t_lengths t_cells) rfl rfl rfl rfl (by decide) rfl rfl 9 0 rfl rfl rfl rfl hl.1 rfl (Nat.le_of_ble_eq_true rfl) dX9_layOrders_2 ⟨Nat.zero_le _, Nat.zero_le _⟩ (fun H locs hP hD hS => ?_)
  refine lv_ishl hx hb dX9_layOrders_5 ?_
  refine lv_iconst (v := 1) hx hb dX9_layOrders_6 (by decide) ?_
  refine lv_isub hx hb dX9_layOrders_7 ?_
  refine mr_nmI hM (fun x1_2 hM => ?_)
  refine lv_istore_n (lv' := [(1, .int x1_2), (0, .ref qt)]) hx hb dX9_layOrders_8 rfl hl (by decide) rfl (fun ls hl => ?_)
  refine lv_iconst (v := 0) hx hb dX9_layOrders_9 (by decide) ?_
  refine lv_istore_n (lv' := [(2, .int 0), (1, .int x1_2), (0, .ref qt)]) hx hb dX9_layOrders_10 rfl hl (by decide) rfl (fun ls hl => ?_)
  have hL11 : ∀ (K36 : (Nat → Int32) → Option ((Nat → Int32) × (Nat → Int32) × (Nat → Int32))), (∀ (t_aheads_9 : Nat → Int32), K36 t_aheads_9 = some o → ∀ (H : Heap) (locs : List Loc), va_P D vwCl (w_Mod cI cB cZ cS cT qt qt_state qt_readPage qt_tape qt_cuts qt_letters qt_queue qt_busyTo qt_servedIn qt_waysOn qt_costOn qt_aheads qt_seen qt_isKept qt_lanes qt_lengths qt_cells t_hasLaw t_hasCounters t_highest t_taped t_fault t_broken t_brokenAt t_spot t_here t_token t_value t_queued t_payed t_bestWait t_bestWhom t_bestCoins t_seenMany t_torn t_state t_readPage t_tape t_cuts t_letters t_queue t_busyTo t_servedIn t_waysOn t_costOn t_aheads_9 t_seen t_isKept t_lanes t_lengths t_cells) H → va_D A (w_Mod cI cB cZ cS cT qt qt_state qt_readPage qt_tape qt_cuts qt_letters qt_queue qt_busyTo qt_servedIn qt_waysOn qt_costOn qt_aheads qt_seen qt_isKept qt_lanes qt_lengths qt_cells t_hasLaw t_hasCounters t_highest t_taped t_fault t_broken t_brokenAt t_spot t_here t_token t_value t_queued t_payed t_bestWait t_bestWhom t_bestCoins t_seenMany t_torn t_state t_readPage t_tape t_cuts t_letters t_queue t_busyTo t_servedIn t_waysOn t_costOn t_aheads_9 t_seen t_isKept t_lanes t_lengths t_cells) → va_S A s.heap H locs → ∀ ls : Array Slot, lv_has ls 5 [(0, .ref qt), (1, .int x1_2)] → W p l e rmX9_layOrders s m av below meth c H locs 0 0 Q (F0 m 36 ls [])) → ∀ (n : Nat) (x2_3 : Int32) (t_aheads_4 : Nat → Int32), Mod_layOrders_L11 t_state K36 n x2_3 t_aheads_4 = some o → ∀ (H : Heap) (locs : List Loc), va_P D vwCl (w_Mod cI cB cZ cS cT qt qt_state qt_readPage qt_tape qt_cuts qt_letters qt_queue qt_busyTo qt_servedIn qt_waysOn qt_costOn qt_aheads qt_seen qt_isKept qt_lanes qt_lengths qt_cells t_hasLaw t_hasCounters t_highest t_taped t_fault t_broken t_brokenAt t_spot t_here t_token t_value t_queued t_payed t_bestWait t_bestWhom t_bestCoins t_seenMany t_torn t_state t_readPage t_tape t_cuts t_letters t_queue t_busyTo t_servedIn t_waysOn t_costOn t_aheads_4 t_seen t_isKept t_lanes t_lengths t_cells) H → va_D A (w_Mod cI cB cZ cS cT qt qt_state qt_readPage qt_tape qt_cuts qt_letters qt_queue qt_busyTo qt_servedIn qt_waysOn qt_costOn qt_aheads qt_seen qt_isKept qt_lanes qt_lengths qt_cells t_hasLaw t_hasCounters t_highest t_taped t_fault t_broken t_brokenAt t_spot t_here t_token t_value t_queued t_payed t_bestWait t_bestWhom t_bestCoins t_seenMany t_torn t_state t_readPage t_tape t_cuts t_letters t_queue t_busyTo t_servedIn t_waysOn t_costOn t_aheads_4 t_seen t_isKept t_lanes t_lengths t_cells) → va_S A s.heap H locs → ∀ ls : Array Slot, lv_has ls 5 [(0, .ref qt), (1, .int x1_2), (2, .int x2_3)] → W p l e rmX9_layOrders s m av below meth c H locs 0 0 Q (F0 m 11 ls []) := by
    intro K36 hK36 n
    induction n with
    | zero =>
      intro x2_3 t_aheads_4 hM
      rw [Mod_layOrders_L11] at hM
      cases hM
    | succ n ih =>
      intro x2_3 t_aheads_4 hM H locs hP hD hS ls hl
      rw [Mod_layOrders_L11] at hM
      refine lv_iload_n hx hb dX9_layOrders_11 rfl (lv_at hl 2 rfl) ?_
      refine lv_aload_n hx hb dX9_layOrders_12 rfl (lv_at hl 0 rfl) ?_
      obtain ⟨o_5, hc, hM⟩ := bind_so hM
      refine mr_callVi (As := []) (rest := [.int x2_3]) (wr := []) ⟨hx, hb, hml, hown, hts⟩ (k_Mod_many l D cI cB cZ cS cT qt qt_state qt_readPage qt_tape qt_cuts qt_letters qt_queue qt_busyTo qt_servedIn qt_waysOn qt_costOn qt_aheads qt_seen qt_isKept qt_lanes qt_lengths qt_cells t_hasLaw t_hasCounters t_highest t_taped t_fault t_broken t_brokenAt t_spot t_here t_token t_value t_queued t_payed t_bestWait t_bestWhom t_bestCoins t_seenMany t_torn t_state t_readPage t_tape t_cuts t_letters t_queue t_busyTo t_servedIn t_waysOn t_costOn t_aheads_4 t_seen t_isKept t_lanes t_lengths t_cells  _ hc) (cwV 0 hts gX9_layOrders_X9_many rfl rfl rfl (by decide +kernel) ⟨Nat.le_of_ble_eq_true rfl, Nat.le_of_ble_eq_true rfl⟩) hK hP hD hS hA [0, 1, 2, 3, 4, 5, 6, 7, 8, 9, 10, 11, 12, 13, 14, 15, 16] [] [0, 1, 2, 3, 4, 5, 6, 7, 8, 9, 10, 11, 12, 13, 14, 15, 16] (w_Mod cI cB cZ cS cT qt qt_state qt_readPage qt_tape qt_cuts qt_letters qt_queue qt_busyTo qt_servedIn qt_waysOn qt_costOn qt_aheads qt_seen qt_isKept qt_lanes qt_lengths qt_cells t_hasLaw t_hasCounters t_highest t_taped t_fault t_broken t_brokenAt t_spot t_here t_token t_value t_queued t_payed t_bestWait t_bestWhom t_bestCoins t_seenMany t_torn t_state t_readPage t_tape t_cuts t_letters t_queue t_busyTo t_servedIn t_waysOn t_costOn t_aheads_4 t_seen t_isKept t_lanes t_lengths t_cells) rfl rfl rfl rfl (by decide) rfl rfl 9 0 rfl rfl rfl rfl hl.1 rfl (Nat.le_of_ble_eq_true rfl) dX9_layOrders_13 ⟨Nat.zero_le _, Nat.zero_le _⟩ (fun H locs hP hD hS => ?_)
      refine mr_icmp_ge (tgt := 36) hx hb hM dX9_layOrders_16 (by decide) (fun hM => ?_) (fun hM => ?_)
      · exact hK36 t_aheads_4 hM _ _ hP hD hS ls (lv_sub hl [0, 1] rfl)
      · refine lv_aload_n hx hb dX9_layOrders_19 rfl (lv_at hl 0 rfl) ?_
        refine va_get (D := D) (ci := 9) (v := .ref qt_aheads) (C := RX9) (T := TX9) (N := 34) hx hb hts inX9w hown hK hP 0 rfl rfl 23 (by decide) hf40 (fun _ h9 => h9) rfl dX9_layOrders_20 ?_
        refine lv_iload_n hx hb dX9_layOrders_23 rfl (lv_at hl 2 rfl) ?_
        refine lv_aload_n hx hb dX9_layOrders_24 rfl (lv_at hl 0 rfl) ?_
        refine lv_iload_n hx hb dX9_layOrders_25 rfl (lv_at hl 2 rfl) ?_
        obtain ⟨o_6, hc, hM⟩ := bind_so hM
        refine mr_callVi (As := [.int x2_3]) (rest := [.int x2_3, .ref qt_aheads]) (wr := []) ⟨hx, hb, hml, hown, hts⟩ (k_Mod_letsIn l D cI cB cZ cS cT qt qt_state qt_readPage qt_tape qt_cuts qt_letters qt_queue qt_busyTo qt_servedIn qt_waysOn qt_costOn qt_aheads qt_seen qt_isKept qt_lanes qt_lengths qt_cells t_hasLaw t_hasCounters t_highest t_taped t_fault t_broken t_brokenAt t_spot t_here t_token t_value t_queued t_payed t_bestWait t_bestWhom t_bestCoins t_seenMany t_torn t_state t_readPage t_tape t_cuts t_letters t_queue t_busyTo t_servedIn t_waysOn t_costOn t_aheads_4 t_seen t_isKept t_lanes t_lengths t_cells x2_3 _ hc) (cwV 1 hts gX9_layOrders_X9_letsIn rfl rfl rfl (by decide +kernel) ⟨Nat.le_of_ble_eq_true rfl, Nat.le_of_ble_eq_true rfl⟩) hK hP hD hS hA [0, 1, 2, 3, 4, 5, 6, 7, 8, 9, 10, 11, 12, 13, 14, 15, 16] [] [0, 1, 2, 3, 4, 5, 6, 7, 8, 9, 10, 11, 12, 13, 14, 15, 16] (w_Mod cI cB cZ cS cT qt qt_state qt_readPage qt_tape qt_cuts qt_letters qt_queue qt_busyTo qt_servedIn qt_waysOn qt_costOn qt_aheads qt_seen qt_isKept qt_lanes qt_lengths qt_cells t_hasLaw t_hasCounters t_highest t_taped t_fault t_broken t_brokenAt t_spot t_here t_token t_value t_queued t_payed t_bestWait t_bestWhom t_bestCoins t_seenMany t_torn t_state t_readPage t_tape t_cuts t_letters t_queue t_busyTo t_servedIn t_waysOn t_costOn t_aheads_4 t_seen t_isKept t_lanes t_lengths t_cells) rfl rfl rfl rfl (by decide) rfl rfl 9 0 rfl rfl rfl rfl hl.1 rfl (Nat.le_of_ble_eq_true rfl) dX9_layOrders_26 ⟨Nat.zero_le _, Nat.zero_le _⟩ (fun H locs hP hD hS => ?_)
        refine mr_iast hx hb hK hP hD hS 11 0 (fun t_aheads_7 => (w_Mod cI cB cZ cS cT qt qt_state qt_readPage qt_tape qt_cuts qt_letters qt_queue qt_busyTo qt_servedIn qt_waysOn qt_costOn qt_aheads qt_seen qt_isKept qt_lanes qt_lengths qt_cells t_hasLaw t_hasCounters t_highest t_taped t_fault t_broken t_brokenAt t_spot t_here t_token t_value t_queued t_payed t_bestWait t_bestWhom t_bestCoins t_seenMany t_torn t_state t_readPage t_tape t_cuts t_letters t_queue t_busyTo t_servedIn t_waysOn t_costOn t_aheads_7 t_seen t_isKept t_lanes t_lengths t_cells)) rfl rfl (fun _ => rfl) hM dX9_layOrders_29 (fun t_aheads_7 hM H locs hP hD hS => ?_)
        refine mr_iinc (k := 2) (d := 1) hx hb (fun x2_8 => [(2, .int x2_8), (0, .ref qt), (1, .int x1_2)]) hM (by decide) dX9_layOrders_30 hl rfl (by decide) (fun _ => rfl) (fun x2_8 hM ls hl => ?_)
        refine lv_goto (tgt := 11) hx hb dX9_layOrders_33 (by decide) ?_
        exact ih x2_8 t_aheads_7 hM _ _ hP hD hS ls (lv_sub hl [1, 2, 0] rfl)
  refine hL11 _ (fun t_aheads_9 hM H locs hP hD hS ls hl => ?_) _ 0 t_aheads hM _ _ hP hD hS ls (lv_sub hl [2, 1, 0] rfl)
  refine lv_iload_n hx hb dX9_layOrders_36 rfl (lv_at hl 1 rfl) ?_
  refine lv_istore_n (lv' := [(2, .int x1_2), (0, .ref qt), (1, .int x1_2)]) hx hb dX9_layOrders_37 rfl hl (by decide) rfl (fun ls hl => ?_)
  have hL38 : ∀ (K183 : (Nat → Int32) → (Nat → Int32) → Option ((Nat → Int32) × (Nat → Int32) × (Nat → Int32))), (∀ (t_waysOn_63 t_costOn_64 : Nat → Int32), K183 t_waysOn_63 t_costOn_64 = some o → ∀ (H : Heap) (locs : List Loc), va_P D vwCl (w_Mod cI cB cZ cS cT qt qt_state qt_readPage qt_tape qt_cuts qt_letters qt_queue qt_busyTo qt_servedIn qt_waysOn qt_costOn qt_aheads qt_seen qt_isKept qt_lanes qt_lengths qt_cells t_hasLaw t_hasCounters t_highest t_taped t_fault t_broken t_brokenAt t_spot t_here t_token t_value t_queued t_payed t_bestWait t_bestWhom t_bestCoins t_seenMany t_torn t_state t_readPage t_tape t_cuts t_letters t_queue t_busyTo t_servedIn t_waysOn_63 t_costOn_64 t_aheads_9 t_seen t_isKept t_lanes t_lengths t_cells) H → va_D A (w_Mod cI cB cZ cS cT qt qt_state qt_readPage qt_tape qt_cuts qt_letters qt_queue qt_busyTo qt_servedIn qt_waysOn qt_costOn qt_aheads qt_seen qt_isKept qt_lanes qt_lengths qt_cells t_hasLaw t_hasCounters t_highest t_taped t_fault t_broken t_brokenAt t_spot t_here t_token t_value t_queued t_payed t_bestWait t_bestWhom t_bestCoins t_seenMany t_torn t_state t_readPage t_tape t_cuts t_letters t_queue t_busyTo t_servedIn t_waysOn_63 t_costOn_64 t_aheads_9 t_seen t_isKept t_lanes t_lengths t_cells) → va_S A s.heap H locs → ∀ ls : Array Slot, lv_has ls 5 [] → W p l e rmX9_layOrders s m av below meth c H locs 0 0 Q (F0 m 183 ls [])) → ∀ (n : Nat) (x2_10 : Int32) (t_waysOn_11 t_costOn_12 : Nat → Int32), Mod_layOrders_L38 t_state x1_2 t_aheads_9 K183 n x2_10 t_waysOn_11 t_costOn_12 = some o → ∀ (H : Heap) (locs : List Loc), va_P D vwCl (w_Mod cI cB cZ cS cT qt qt_state qt_readPage qt_tape qt_cuts qt_letters qt_queue qt_busyTo qt_servedIn qt_waysOn qt_costOn qt_aheads qt_seen qt_isKept qt_lanes qt_lengths qt_cells t_hasLaw t_hasCounters t_highest t_taped t_fault t_broken t_brokenAt t_spot t_here t_token t_value t_queued t_payed t_bestWait t_bestWhom t_bestCoins t_seenMany t_torn t_state t_readPage t_tape t_cuts t_letters t_queue t_busyTo t_servedIn t_waysOn_11 t_costOn_12 t_aheads_9 t_seen t_isKept t_lanes t_lengths t_cells) H → va_D A (w_Mod cI cB cZ cS cT qt qt_state qt_readPage qt_tape qt_cuts qt_letters qt_queue qt_busyTo qt_servedIn qt_waysOn qt_costOn qt_aheads qt_seen qt_isKept qt_lanes qt_lengths qt_cells t_hasLaw t_hasCounters t_highest t_taped t_fault t_broken t_brokenAt t_spot t_here t_token t_value t_queued t_payed t_bestWait t_bestWhom t_bestCoins t_seenMany t_torn t_state t_readPage t_tape t_cuts t_letters t_queue t_busyTo t_servedIn t_waysOn_11 t_costOn_12 t_aheads_9 t_seen t_isKept t_lanes t_lengths t_cells) → va_S A s.heap H locs → ∀ ls : Array Slot, lv_has ls 5 [(0, .ref qt), (1, .int x1_2), (2, .int x2_10)] → W p l e rmX9_layOrders s m av below meth c H locs 0 0 Q (F0 m 38 ls []) := by
    intro K183 hK183 n
    induction n with
    | zero =>
      intro x2_10 t_waysOn_11 t_costOn_12 hM
      rw [Mod_layOrders_L38] at hM
      cases hM
    | succ n ih =>
      intro x2_10 t_waysOn_11 t_costOn_12 hM H locs hP hD hS ls hl
      rw [Mod_layOrders_L38] at hM
      refine lv_iload_n hx hb dX9_layOrders_38 rfl (lv_at hl 2 rfl) ?_
      refine mr_if_lt (tgt := 183) hx hb hM dX9_layOrders_39 (by decide) (fun hM => ?_) (fun hM => ?_)
      · exact hK183 t_waysOn_11 t_costOn_12 hM _ _ hP hD hS ls (lv_sub hl [] rfl)
      · refine lv_aload_n hx hb dX9_layOrders_42 rfl (lv_at hl 0 rfl) ?_
        refine va_get (D := D) (ci := 9) (v := .ref qt_waysOn) (C := RX9) (T := TX9) (N := 34) hx hb hts inX9w hown hK hP 0 rfl rfl 21 (by decide) hf34 (fun _ h9 => h9) rfl dX9_layOrders_43 ?_
        refine lv_iload_n hx hb dX9_layOrders_46 rfl (lv_at hl 2 rfl) ?_
        refine lv_iload_n hx hb dX9_layOrders_47 rfl (lv_at hl 2 rfl) ?_
        refine lv_iload_n hx hb dX9_layOrders_48 rfl (lv_at hl 1 rfl) ?_
        refine mr_jn hM (fun j57_13 => ∀ (y_14 y_15 : Int32), j57_13 y_14 y_15 = some o → ∀ (H : Heap) (locs : List Loc), va_P D vwCl (w_Mod cI cB cZ cS cT qt qt_state qt_readPage qt_tape qt_cuts qt_letters qt_queue qt_busyTo qt_servedIn qt_waysOn qt_costOn qt_aheads qt_seen qt_isKept qt_lanes qt_lengths qt_cells t_hasLaw t_hasCounters t_highest t_taped t_fault t_broken t_brokenAt t_spot t_here t_token t_value t_queued t_payed t_bestWait t_bestWhom t_bestCoins t_seenMany t_torn t_state t_readPage t_tape t_cuts t_letters t_queue t_busyTo t_servedIn t_waysOn_11 t_costOn_12 t_aheads_9 t_seen t_isKept t_lanes t_lengths t_cells) H → va_D A (w_Mod cI cB cZ cS cT qt qt_state qt_readPage qt_tape qt_cuts qt_letters qt_queue qt_busyTo qt_servedIn qt_waysOn qt_costOn qt_aheads qt_seen qt_isKept qt_lanes qt_lengths qt_cells t_hasLaw t_hasCounters t_highest t_taped t_fault t_broken t_brokenAt t_spot t_here t_token t_value t_queued t_payed t_bestWait t_bestWhom t_bestCoins t_seenMany t_torn t_state t_readPage t_tape t_cuts t_letters t_queue t_busyTo t_servedIn t_waysOn_11 t_costOn_12 t_aheads_9 t_seen t_isKept t_lanes t_lengths t_cells) → va_S A s.heap H locs → ∀ ls : Array Slot, lv_has ls 5 [(0, .ref qt), (1, .int x1_2), (2, .int x2_10)] → W p l e rmX9_layOrders s m av below meth c H locs 0 0 Q (F0 m 57 ls [.int y_15, .int y_14, .ref qt_waysOn])) (fun y_14 y_15 hM H locs hP hD hS ls hl => ?_) (fun j57_13 hj57_13 hM => ?_)
        · refine mr_iast hx hb hK hP hD hS 9 0 (fun t_waysOn_16 => (w_Mod cI cB cZ cS cT qt qt_state qt_readPage qt_tape qt_cuts qt_letters qt_queue qt_busyTo qt_servedIn qt_waysOn qt_costOn qt_aheads qt_seen qt_isKept qt_lanes qt_lengths qt_cells t_hasLaw t_hasCounters t_highest t_taped t_fault t_broken t_brokenAt t_spot t_here t_token t_value t_queued t_payed t_bestWait t_bestWhom t_bestCoins t_seenMany t_torn t_state t_readPage t_tape t_cuts t_letters t_queue t_busyTo t_servedIn t_waysOn_16 t_costOn_12 t_aheads_9 t_seen t_isKept t_lanes t_lengths t_cells)) rfl rfl (fun _ => rfl) hM dX9_layOrders_57 (fun t_waysOn_16 hM H locs hP hD hS => ?_)
          refine lv_aload_n hx hb dX9_layOrders_58 rfl (lv_at hl 0 rfl) ?_
          refine va_get (D := D) (ci := 9) (v := .ref qt_costOn) (C := RX9) (T := TX9) (N := 34) hx hb hts inX9w hown hK hP 0 rfl rfl 22 (by decide) hf37 (fun _ h9 => h9) rfl dX9_layOrders_59 ?_
          refine lv_iload_n hx hb dX9_layOrders_62 rfl (lv_at hl 2 rfl) ?_
          refine lv_iload_n hx hb dX9_layOrders_63 rfl (lv_at hl 2 rfl) ?_
          refine lv_iload_n hx hb dX9_layOrders_64 rfl (lv_at hl 1 rfl) ?_
          refine mr_icmp_ne (tgt := 72) hx hb hM dX9_layOrders_65 (by decide) (fun hM => ?_) (fun hM => ?_)
          · refine lv_ldc (v := 1000000) hx hb hown hfc226 dX9_layOrders_72 ?_
            refine mr_iast hx hb hK hP hD hS 10 0 (fun t_costOn_17 => (w_Mod cI cB cZ cS cT qt qt_state qt_readPage qt_tape qt_cuts qt_letters qt_queue qt_busyTo qt_servedIn qt_waysOn qt_costOn qt_aheads qt_seen qt_isKept qt_lanes qt_lengths qt_cells t_hasLaw t_hasCounters t_highest t_taped t_fault t_broken t_brokenAt t_spot t_here t_token t_value t_queued t_payed t_bestWait t_bestWhom t_bestCoins t_seenMany t_torn t_state t_readPage t_tape t_cuts t_letters t_queue t_busyTo t_servedIn t_waysOn_16 t_costOn_17 t_aheads_9 t_seen t_isKept t_lanes t_lengths t_cells)) rfl rfl (fun _ => rfl) hM dX9_layOrders_74 (fun t_costOn_17 hM H locs hP hD hS => ?_)
            refine lv_iconst (v := 0) hx hb dX9_layOrders_75 (by decide) ?_
            refine lv_istore_n (lv' := [(3, .int 0), (0, .ref qt), (1, .int x1_2), (2, .int x2_10)]) hx hb dX9_layOrders_76 rfl hl (by decide) rfl (fun ls hl => ?_)
            have hL77 : ∀ (K177 : (Nat → Int32) → (Nat → Int32) → Option ((Nat → Int32) × (Nat → Int32) × (Nat → Int32))), (∀ (t_waysOn_37 t_costOn_38 : Nat → Int32), K177 t_waysOn_37 t_costOn_38 = some o → ∀ (H : Heap) (locs : List Loc), va_P D vwCl (w_Mod cI cB cZ cS cT qt qt_state qt_readPage qt_tape qt_cuts qt_letters qt_queue qt_busyTo qt_servedIn qt_waysOn qt_costOn qt_aheads qt_seen qt_isKept qt_lanes qt_lengths qt_cells t_hasLaw t_hasCounters t_highest t_taped t_fault t_broken t_brokenAt t_spot t_here t_token t_value t_queued t_payed t_bestWait t_bestWhom t_bestCoins t_seenMany t_torn t_state t_readPage t_tape t_cuts t_letters t_queue t_busyTo t_servedIn t_waysOn_37 t_costOn_38 t_aheads_9 t_seen t_isKept t_lanes t_lengths t_cells) H → va_D A (w_Mod cI cB cZ cS cT qt qt_state qt_readPage qt_tape qt_cuts qt_letters qt_queue qt_busyTo qt_servedIn qt_waysOn qt_costOn qt_aheads qt_seen qt_isKept qt_lanes qt_lengths qt_cells t_hasLaw t_hasCounters t_highest t_taped t_fault t_broken t_brokenAt t_spot t_here t_token t_value t_queued t_payed t_bestWait t_bestWhom t_bestCoins t_seenMany t_torn t_state t_readPage t_tape t_cuts t_letters t_queue t_busyTo t_servedIn t_waysOn_37 t_costOn_38 t_aheads_9 t_seen t_isKept t_lanes t_lengths t_cells) → va_S A s.heap H locs → ∀ ls : Array Slot, lv_has ls 5 [(0, .ref qt), (1, .int x1_2), (2, .int x2_10)] → W p l e rmX9_layOrders s m av below meth c H locs 0 0 Q (F0 m 177 ls [])) → ∀ (n : Nat) (x3_18 : Int32) (t_waysOn_19 t_costOn_20 : Nat → Int32), Mod_layOrders_L77 t_state t_aheads_9 x2_10 K177 n x3_18 t_waysOn_19 t_costOn_20 = some o → ∀ (H : Heap) (locs : List Loc), va_P D vwCl (w_Mod cI cB cZ cS cT qt qt_state qt_readPage qt_tape qt_cuts qt_letters qt_queue qt_busyTo qt_servedIn qt_waysOn qt_costOn qt_aheads qt_seen qt_isKept qt_lanes qt_lengths qt_cells t_hasLaw t_hasCounters t_highest t_taped t_fault t_broken t_brokenAt t_spot t_here t_token t_value t_queued t_payed t_bestWait t_bestWhom t_bestCoins t_seenMany t_torn t_state t_readPage t_tape t_cuts t_letters t_queue t_busyTo t_servedIn t_waysOn_19 t_costOn_20 t_aheads_9 t_seen t_isKept t_lanes t_lengths t_cells) H → va_D A (w_Mod cI cB cZ cS cT qt qt_state qt_readPage qt_tape qt_cuts qt_letters qt_queue qt_busyTo qt_servedIn qt_waysOn qt_costOn qt_aheads qt_seen qt_isKept qt_lanes qt_lengths qt_cells t_hasLaw t_hasCounters t_highest t_taped t_fault t_broken t_brokenAt t_spot t_here t_token t_value t_queued t_payed t_bestWait t_bestWhom t_bestCoins t_seenMany t_torn t_state t_readPage t_tape t_cuts t_letters t_queue t_busyTo t_servedIn t_waysOn_19 t_costOn_20 t_aheads_9 t_seen t_isKept t_lanes t_lengths t_cells) → va_S A s.heap H locs → ∀ ls : Array Slot, lv_has ls 5 [(0, .ref qt), (1, .int x1_2), (2, .int x2_10), (3, .int x3_18)] → W p l e rmX9_layOrders s m av below meth c H locs 0 0 Q (F0 m 77 ls []) := by
              intro K177 hK177 n
              induction n with
              | zero =>
                intro x3_18 t_waysOn_19 t_costOn_20 hM
                rw [Mod_layOrders_L77] at hM
                cases hM
              | succ n ih =>
                intro x3_18 t_waysOn_19 t_costOn_20 hM H locs hP hD hS ls hl
                rw [Mod_layOrders_L77] at hM
                refine lv_iload_n hx hb dX9_layOrders_77 rfl (lv_at hl 3 rfl) ?_
                refine lv_aload_n hx hb dX9_layOrders_78 rfl (lv_at hl 0 rfl) ?_
                obtain ⟨o_21, hc, hM⟩ := bind_so hM
                refine mr_callVi (As := []) (rest := [.int x3_18]) (wr := []) ⟨hx, hb, hml, hown, hts⟩ (k_Mod_many l D cI cB cZ cS cT qt qt_state qt_readPage qt_tape qt_cuts qt_letters qt_queue qt_busyTo qt_servedIn qt_waysOn qt_costOn qt_aheads qt_seen qt_isKept qt_lanes qt_lengths qt_cells t_hasLaw t_hasCounters t_highest t_taped t_fault t_broken t_brokenAt t_spot t_here t_token t_value t_queued t_payed t_bestWait t_bestWhom t_bestCoins t_seenMany t_torn t_state t_readPage t_tape t_cuts t_letters t_queue t_busyTo t_servedIn t_waysOn_19 t_costOn_20 t_aheads_9 t_seen t_isKept t_lanes t_lengths t_cells  _ hc) (cwV 0 hts gX9_layOrders_X9_many rfl rfl rfl (by decide +kernel) ⟨Nat.le_of_ble_eq_true rfl, Nat.le_of_ble_eq_true rfl⟩) hK hP hD hS hA [0, 1, 2, 3, 4, 5, 6, 7, 8, 9, 10, 11, 12, 13, 14, 15, 16] [] [0, 1, 2, 3, 4, 5, 6, 7, 8, 9, 10, 11, 12, 13, 14, 15, 16] (w_Mod cI cB cZ cS cT qt qt_state qt_readPage qt_tape qt_cuts qt_letters qt_queue qt_busyTo qt_servedIn qt_waysOn qt_costOn qt_aheads qt_seen qt_isKept qt_lanes qt_lengths qt_cells t_hasLaw t_hasCounters t_highest t_taped t_fault t_broken t_brokenAt t_spot t_here t_token t_value t_queued t_payed t_bestWait t_bestWhom t_bestCoins t_seenMany t_torn t_state t_readPage t_tape t_cuts t_letters t_queue t_busyTo t_servedIn t_waysOn_19 t_costOn_20 t_aheads_9 t_seen t_isKept t_lanes t_lengths t_cells) rfl rfl rfl rfl (by decide) rfl rfl 9 0 rfl rfl rfl rfl hl.1 rfl (Nat.le_of_ble_eq_true rfl) dX9_layOrders_79 ⟨Nat.zero_le _, Nat.zero_le _⟩ (fun H locs hP hD hS => ?_)
                refine mr_icmp_ge (tgt := 177) hx hb hM dX9_layOrders_82 (by decide) (fun hM => ?_) (fun hM => ?_)
                · exact hK177 t_waysOn_19 t_costOn_20 hM _ _ hP hD hS ls (lv_sub hl [0, 1, 2] rfl)
                · refine lv_aload_n hx hb dX9_layOrders_85 rfl (lv_at hl 0 rfl) ?_
                  refine lv_iload_n hx hb dX9_layOrders_86 rfl (lv_at hl 3 rfl) ?_
                  refine lv_iload_n hx hb dX9_layOrders_87 rfl (lv_at hl 2 rfl) ?_
                  obtain ⟨o_22, hc, hM⟩ := bind_so hM
                  refine mr_callVi (As := [.int x3_18, .int x2_10]) (rest := []) (wr := []) ⟨hx, hb, hml, hown, hts⟩ (k_Mod_canNext l D cI cB cZ cS cT qt qt_state qt_readPage qt_tape qt_cuts qt_letters qt_queue qt_busyTo qt_servedIn qt_waysOn qt_costOn qt_aheads qt_seen qt_isKept qt_lanes qt_lengths qt_cells t_hasLaw t_hasCounters t_highest t_taped t_fault t_broken t_brokenAt t_spot t_here t_token t_value t_queued t_payed t_bestWait t_bestWhom t_bestCoins t_seenMany t_torn t_state t_readPage t_tape t_cuts t_letters t_queue t_busyTo t_servedIn t_waysOn_19 t_costOn_20 t_aheads_9 t_seen t_isKept t_lanes t_lengths t_cells x3_18 x2_10 _ hc) (cwV 2 hts gX9_layOrders_X9_canNext rfl rfl rfl (by decide +kernel) ⟨Nat.le_of_ble_eq_true rfl, Nat.le_of_ble_eq_true rfl⟩) hK hP hD hS hA [0, 1, 2, 3, 4, 5, 6, 7, 8, 9, 10, 11, 12, 13, 14, 15, 16] [] [0, 1, 2, 3, 4, 5, 6, 7, 8, 9, 10, 11, 12, 13, 14, 15, 16] (w_Mod cI cB cZ cS cT qt qt_state qt_readPage qt_tape qt_cuts qt_letters qt_queue qt_busyTo qt_servedIn qt_waysOn qt_costOn qt_aheads qt_seen qt_isKept qt_lanes qt_lengths qt_cells t_hasLaw t_hasCounters t_highest t_taped t_fault t_broken t_brokenAt t_spot t_here t_token t_value t_queued t_payed t_bestWait t_bestWhom t_bestCoins t_seenMany t_torn t_state t_readPage t_tape t_cuts t_letters t_queue t_busyTo t_servedIn t_waysOn_19 t_costOn_20 t_aheads_9 t_seen t_isKept t_lanes t_lengths t_cells) rfl rfl rfl rfl (by decide) rfl rfl 9 0 rfl rfl rfl rfl hl.1 rfl (Nat.le_of_ble_eq_true rfl) dX9_layOrders_88 ⟨Nat.zero_le _, Nat.zero_le _⟩ (fun H locs hP hD hS => ?_)
                  refine mr_if_eq (tgt := 171) hx hb hM dX9_layOrders_91 (by decide) (fun hM => ?_) (fun hM => ?_)
                  · refine mr_iinc (k := 3) (d := 1) hx hb (fun x3_23 => [(3, .int x3_23), (0, .ref qt), (1, .int x1_2), (2, .int x2_10)]) hM (by decide) dX9_layOrders_171 hl rfl (by decide) (fun _ => rfl) (fun x3_23 hM ls hl => ?_)
                    refine lv_goto (tgt := 77) hx hb dX9_layOrders_174 (by decide) ?_
                    exact ih x3_23 t_waysOn_19 t_costOn_20 hM _ _ hP hD hS ls (lv_sub hl [1, 2, 3, 0] rfl)
                  · refine lv_aload_n hx hb dX9_layOrders_94 rfl (lv_at hl 0 rfl) ?_
                    refine va_get (D := D) (ci := 9) (v := .ref qt_state) (C := RX9) (T := TX9) (N := 34) hx hb hts inX9w hown hK hP 0 rfl rfl 0 (by decide) hf7 (fun _ h9 => h9) rfl dX9_layOrders_95 ?_
                    refine lv_bipush (v := 6) hx hb dX9_layOrders_98 (by decide) ?_
                    refine lv_iload_n hx hb dX9_layOrders_100 rfl (lv_at hl 3 rfl) ?_
                    refine lv_imul hx hb dX9_layOrders_101 ?_
                    refine lv_iconst (v := 3) hx hb dX9_layOrders_102 (by decide) ?_
                    refine lv_iadd hx hb dX9_layOrders_103 ?_
                    refine mr_iald hx hb hK hP 1 0 rfl rfl hM dX9_layOrders_104 (fun v_24 hM => ?_)
                    refine lv_aload_n hx hb dX9_layOrders_105 rfl (lv_at hl 0 rfl) ?_
                    refine lv_iload_n hx hb dX9_layOrders_106 rfl (lv_at hl 2 rfl) ?_
                    obtain ⟨o_25, hc, hM⟩ := bind_so hM
                    refine mr_callVi (As := [.int x2_10]) (rest := [.int v_24]) (wr := []) ⟨hx, hb, hml, hown, hts⟩ (k_Mod_takenBy l D cI cB cZ cS cT qt qt_state qt_readPage qt_tape qt_cuts qt_letters qt_queue qt_busyTo qt_servedIn qt_waysOn qt_costOn qt_aheads qt_seen qt_isKept qt_lanes qt_lengths qt_cells t_hasLaw t_hasCounters t_highest t_taped t_fault t_broken t_brokenAt t_spot t_here t_token t_value t_queued t_payed t_bestWait t_bestWhom t_bestCoins t_seenMany t_torn t_state t_readPage t_tape t_cuts t_letters t_queue t_busyTo t_servedIn t_waysOn_19 t_costOn_20 t_aheads_9 t_seen t_isKept t_lanes t_lengths t_cells x2_10 _ hc) (cwV 1 hts gX9_layOrders_X9_takenBy rfl rfl rfl (by decide +kernel) ⟨Nat.le_of_ble_eq_true rfl, Nat.le_of_ble_eq_true rfl⟩) hK hP hD hS hA [0, 1, 2, 3, 4, 5, 6, 7, 8, 9, 10, 11, 12, 13, 14, 15, 16] [] [0, 1, 2, 3, 4, 5, 6, 7, 8, 9, 10, 11, 12, 13, 14, 15, 16] (w_Mod cI cB cZ cS cT qt qt_state qt_readPage qt_tape qt_cuts qt_letters qt_queue qt_busyTo qt_servedIn qt_waysOn qt_costOn qt_aheads qt_seen qt_isKept qt_lanes qt_lengths qt_cells t_hasLaw t_hasCounters t_highest t_taped t_fault t_broken t_brokenAt t_spot t_here t_token t_value t_queued t_payed t_bestWait t_bestWhom t_bestCoins t_seenMany t_torn t_state t_readPage t_tape t_cuts t_letters t_queue t_busyTo t_servedIn t_waysOn_19 t_costOn_20 t_aheads_9 t_seen t_isKept t_lanes t_lengths t_cells) rfl rfl rfl rfl (by decide) rfl rfl 9 0 rfl rfl rfl rfl hl.1 rfl (Nat.le_of_ble_eq_true rfl) dX9_layOrders_107 ⟨Nat.zero_le _, Nat.zero_le _⟩ (fun H locs hP hD hS => ?_)
                    refine lv_imul hx hb dX9_layOrders_110 ?_
                    refine lv_aload_n hx hb dX9_layOrders_111 rfl (lv_at hl 0 rfl) ?_
                    refine va_get (D := D) (ci := 9) (v := .ref qt_costOn) (C := RX9) (T := TX9) (N := 34) hx hb hts inX9w hown hK hP 0 rfl rfl 22 (by decide) hf37 (fun _ h9 => h9) rfl dX9_layOrders_112 ?_
                    refine lv_iload_n hx hb dX9_layOrders_115 rfl (lv_at hl 2 rfl) ?_
                    refine lv_iconst (v := 1) hx hb dX9_layOrders_116 (by decide) ?_
                    refine lv_iload_n hx hb dX9_layOrders_117 rfl (lv_at hl 3 rfl) ?_
                    refine lv_ishl hx hb dX9_layOrders_118 ?_
                    refine lv_ior hx hb dX9_layOrders_119 ?_
                    refine mr_iald hx hb hK hP 10 0 rfl rfl hM dX9_layOrders_120 (fun v_26 hM => ?_)
                    refine lv_iadd hx hb dX9_layOrders_121 ?_
                    refine mr_nmI hM (fun x4_27 hM => ?_)
                    refine lv_istore (lv' := [(4, .int x4_27), (0, .ref qt), (1, .int x1_2), (2, .int x2_10), (3, .int x3_18)]) hx hb dX9_layOrders_122 hl (by decide) rfl (fun ls hl => ?_)
                    refine lv_aload_n hx hb dX9_layOrders_124 rfl (lv_at hl 1 rfl) ?_
                    refine va_get (D := D) (ci := 9) (v := .ref qt_waysOn) (C := RX9) (T := TX9) (N := 34) hx hb hts inX9w hown hK hP 0 rfl rfl 21 (by decide) hf34 (fun _ h9 => h9) rfl dX9_layOrders_125 ?_
                    refine lv_iload_n hx hb dX9_layOrders_128 rfl (lv_at hl 3 rfl) ?_
                    refine lv_dup2_11 hx hb dX9_layOrders_129 rfl rfl ?_
                    refine mr_iald hx hb hK hP 9 0 rfl rfl hM dX9_layOrders_130 (fun v_28 hM => ?_)
                    refine lv_aload_n hx hb dX9_layOrders_131 rfl (lv_at hl 1 rfl) ?_
                    refine va_get (D := D) (ci := 9) (v := .ref qt_waysOn) (C := RX9) (T := TX9) (N := 34) hx hb hts inX9w hown hK hP 0 rfl rfl 21 (by decide) hf34 (fun _ h9 => h9) rfl dX9_layOrders_132 ?_
                    refine lv_iload_n hx hb dX9_layOrders_135 rfl (lv_at hl 3 rfl) ?_
                    refine lv_iconst (v := 1) hx hb dX9_layOrders_136 (by decide) ?_
                    refine lv_iload_n hx hb dX9_layOrders_137 rfl (lv_at hl 4 rfl) ?_
                    refine lv_ishl hx hb dX9_layOrders_138 ?_
                    refine lv_ior hx hb dX9_layOrders_139 ?_
                    refine mr_iald hx hb hK hP 9 0 rfl rfl hM dX9_layOrders_140 (fun v_29 hM => ?_)
                    refine lv_iadd hx hb dX9_layOrders_141 ?_
                    refine mr_iast hx hb hK hP hD hS 9 0 (fun t_waysOn_30 => (w_Mod cI cB cZ cS cT qt qt_state qt_readPage qt_tape qt_cuts qt_letters qt_queue qt_busyTo qt_servedIn qt_waysOn qt_costOn qt_aheads qt_seen qt_isKept qt_lanes qt_lengths qt_cells t_hasLaw t_hasCounters t_highest t_taped t_fault t_broken t_brokenAt t_spot t_here t_token t_value t_queued t_payed t_bestWait t_bestWhom t_bestCoins t_seenMany t_torn t_state t_readPage t_tape t_cuts t_letters t_queue t_busyTo t_servedIn t_waysOn_30 t_costOn_20 t_aheads_9 t_seen t_isKept t_lanes t_lengths t_cells)) rfl rfl (fun _ => rfl) hM dX9_layOrders_142 (fun t_waysOn_30 hM H locs hP hD hS => ?_)
                    refine lv_aload_n hx hb dX9_layOrders_143 rfl (lv_at hl 1 rfl) ?_
                    refine va_get (D := D) (ci := 9) (v := .ref qt_costOn) (C := RX9) (T := TX9) (N := 34) hx hb hts inX9w hown hK hP 0 rfl rfl 22 (by decide) hf37 (fun _ h9 => h9) rfl dX9_layOrders_144 ?_
                    refine lv_iload_n hx hb dX9_layOrders_147 rfl (lv_at hl 3 rfl) ?_
                    refine lv_iload hx hb dX9_layOrders_148 (lv_at hl 0 rfl) ?_
                    refine lv_aload_n hx hb dX9_layOrders_150 rfl (lv_at hl 1 rfl) ?_
                    refine va_get (D := D) (ci := 9) (v := .ref qt_costOn) (C := RX9) (T := TX9) (N := 34) hx hb hts inX9w hown hK hP 0 rfl rfl 22 (by decide) hf37 (fun _ h9 => h9) rfl dX9_layOrders_151 ?_
                    refine lv_iload_n hx hb dX9_layOrders_154 rfl (lv_at hl 3 rfl) ?_
                    refine mr_iald hx hb hK hP 10 0 rfl rfl hM dX9_layOrders_155 (fun v_31 hM => ?_)
                    refine mr_icmp_ge (tgt := 164) hx hb hM dX9_layOrders_156 (by decide) (fun hM => ?_) (fun hM => ?_)
                    · refine lv_aload_n hx hb dX9_layOrders_164 rfl (lv_at hl 1 rfl) ?_
                      refine va_get (D := D) (ci := 9) (v := .ref qt_costOn) (C := RX9) (T := TX9) (N := 34) hx hb hts inX9w hown hK hP 0 rfl rfl 22 (by decide) hf37 (fun _ h9 => h9) rfl dX9_layOrders_165 ?_
                      refine lv_iload_n hx hb dX9_layOrders_168 rfl (lv_at hl 3 rfl) ?_
                      refine mr_iald hx hb hK hP 10 0 rfl rfl hM dX9_layOrders_169 (fun v_32 hM => ?_)
                      refine mr_iast hx hb hK hP hD hS 10 0 (fun t_costOn_33 => (w_Mod cI cB cZ cS cT qt qt_state qt_readPage qt_tape qt_cuts qt_letters qt_queue qt_busyTo qt_servedIn qt_waysOn qt_costOn qt_aheads qt_seen qt_isKept qt_lanes qt_lengths qt_cells t_hasLaw t_hasCounters t_highest t_taped t_fault t_broken t_brokenAt t_spot t_here t_token t_value t_queued t_payed t_bestWait t_bestWhom t_bestCoins t_seenMany t_torn t_state t_readPage t_tape t_cuts t_letters t_queue t_busyTo t_servedIn t_waysOn_30 t_costOn_33 t_aheads_9 t_seen t_isKept t_lanes t_lengths t_cells)) rfl rfl (fun _ => rfl) hM dX9_layOrders_170 (fun t_costOn_33 hM H locs hP hD hS => ?_)
                      refine mr_iinc (k := 4) (d := 1) hx hb (fun x3_34 => [(3, .int x3_34), (4, .int x4_27), (0, .ref qt), (1, .int x1_2), (2, .int x2_10)]) hM (by decide) dX9_layOrders_171 hl rfl (by decide) (fun _ => rfl) (fun x3_34 hM ls hl => ?_)
                      refine lv_goto (tgt := 77) hx hb dX9_layOrders_174 (by decide) ?_
                      exact ih x3_34 t_waysOn_30 t_costOn_33 hM _ _ hP hD hS ls (lv_sub hl [2, 3, 4, 0] rfl)
                    · refine lv_iload hx hb dX9_layOrders_159 (lv_at hl 0 rfl) ?_
                      refine lv_goto (tgt := 170) hx hb dX9_layOrders_161 (by decide) ?_
                      refine mr_iast hx hb hK hP hD hS 10 0 (fun t_costOn_35 => (w_Mod cI cB cZ cS cT qt qt_state qt_readPage qt_tape qt_cuts qt_letters qt_queue qt_busyTo qt_servedIn qt_waysOn qt_costOn qt_aheads qt_seen qt_isKept qt_lanes qt_lengths qt_cells t_hasLaw t_hasCounters t_highest t_taped t_fault t_broken t_brokenAt t_spot t_here t_token t_value t_queued t_payed t_bestWait t_bestWhom t_bestCoins t_seenMany t_torn t_state t_readPage t_tape t_cuts t_letters t_queue t_busyTo t_servedIn t_waysOn_30 t_costOn_35 t_aheads_9 t_seen t_isKept t_lanes t_lengths t_cells)) rfl rfl (fun _ => rfl) hM dX9_layOrders_170 (fun t_costOn_35 hM H locs hP hD hS => ?_)
                      refine mr_iinc (k := 4) (d := 1) hx hb (fun x3_36 => [(3, .int x3_36), (4, .int x4_27), (0, .ref qt), (1, .int x1_2), (2, .int x2_10)]) hM (by decide) dX9_layOrders_171 hl rfl (by decide) (fun _ => rfl) (fun x3_36 hM ls hl => ?_)
                      refine lv_goto (tgt := 77) hx hb dX9_layOrders_174 (by decide) ?_
                      exact ih x3_36 t_waysOn_30 t_costOn_35 hM _ _ hP hD hS ls (lv_sub hl [2, 3, 4, 0] rfl)
            refine hL77 _ (fun t_waysOn_37 t_costOn_38 hM H locs hP hD hS ls hl => ?_) _ 0 t_waysOn_16 t_costOn_17 hM _ _ hP hD hS ls (lv_sub hl [1, 2, 3, 0] rfl)
            refine mr_iinc (k := 2) (d := (-1)) hx hb (fun x2_39 => [(2, .int x2_39), (0, .ref qt), (1, .int x1_2)]) hM (by decide) dX9_layOrders_177 hl rfl (by decide) (fun _ => rfl) (fun x2_39 hM ls hl => ?_)
            refine lv_goto (tgt := 38) hx hb dX9_layOrders_180 (by decide) ?_
            exact ih x2_39 t_waysOn_37 t_costOn_38 hM _ _ hP hD hS ls (lv_sub hl [1, 2, 0] rfl)
          · refine lv_iconst (v := 0) hx hb dX9_layOrders_68 (by decide) ?_
            refine lv_goto (tgt := 74) hx hb dX9_layOrders_69 (by decide) ?_
            refine mr_iast hx hb hK hP hD hS 10 0 (fun t_costOn_40 => (w_Mod cI cB cZ cS cT qt qt_state qt_readPage qt_tape qt_cuts qt_letters qt_queue qt_busyTo qt_servedIn qt_waysOn qt_costOn qt_aheads qt_seen qt_isKept qt_lanes qt_lengths qt_cells t_hasLaw t_hasCounters t_highest t_taped t_fault t_broken t_brokenAt t_spot t_here t_token t_value t_queued t_payed t_bestWait t_bestWhom t_bestCoins t_seenMany t_torn t_state t_readPage t_tape t_cuts t_letters t_queue t_busyTo t_servedIn t_waysOn_16 t_costOn_40 t_aheads_9 t_seen t_isKept t_lanes t_lengths t_cells)) rfl rfl (fun _ => rfl) hM dX9_layOrders_74 (fun t_costOn_40 hM H locs hP hD hS => ?_)
            refine lv_iconst (v := 0) hx hb dX9_layOrders_75 (by decide) ?_
            refine lv_istore_n (lv' := [(3, .int 0), (0, .ref qt), (1, .int x1_2), (2, .int x2_10)]) hx hb dX9_layOrders_76 rfl hl (by decide) rfl (fun ls hl => ?_)
            have hL77 : ∀ (K177 : (Nat → Int32) → (Nat → Int32) → Option ((Nat → Int32) × (Nat → Int32) × (Nat → Int32))), (∀ (t_waysOn_60 t_costOn_61 : Nat → Int32), K177 t_waysOn_60 t_costOn_61 = some o → ∀ (H : Heap) (locs : List Loc), va_P D vwCl (w_Mod cI cB cZ cS cT qt qt_state qt_readPage qt_tape qt_cuts qt_letters qt_queue qt_busyTo qt_servedIn qt_waysOn qt_costOn qt_aheads qt_seen qt_isKept qt_lanes qt_lengths qt_cells t_hasLaw t_hasCounters t_highest t_taped t_fault t_broken t_brokenAt t_spot t_here t_token t_value t_queued t_payed t_bestWait t_bestWhom t_bestCoins t_seenMany t_torn t_state t_readPage t_tape t_cuts t_letters t_queue t_busyTo t_servedIn t_waysOn_60 t_costOn_61 t_aheads_9 t_seen t_isKept t_lanes t_lengths t_cells) H → va_D A (w_Mod cI cB cZ cS cT qt qt_state qt_readPage qt_tape qt_cuts qt_letters qt_queue qt_busyTo qt_servedIn qt_waysOn qt_costOn qt_aheads qt_seen qt_isKept qt_lanes qt_lengths qt_cells t_hasLaw t_hasCounters t_highest t_taped t_fault t_broken t_brokenAt t_spot t_here t_token t_value t_queued t_payed t_bestWait t_bestWhom t_bestCoins t_seenMany t_torn t_state t_readPage t_tape t_cuts t_letters t_queue t_busyTo t_servedIn t_waysOn_60 t_costOn_61 t_aheads_9 t_seen t_isKept t_lanes t_lengths t_cells) → va_S A s.heap H locs → ∀ ls : Array Slot, lv_has ls 5 [(0, .ref qt), (1, .int x1_2), (2, .int x2_10)] → W p l e rmX9_layOrders s m av below meth c H locs 0 0 Q (F0 m 177 ls [])) → ∀ (n : Nat) (x3_41 : Int32) (t_waysOn_42 t_costOn_43 : Nat → Int32), Mod_layOrders_L77' t_state t_aheads_9 x2_10 K177 n x3_41 t_waysOn_42 t_costOn_43 = some o → ∀ (H : Heap) (locs : List Loc), va_P D vwCl (w_Mod cI cB cZ cS cT qt qt_state qt_readPage qt_tape qt_cuts qt_letters qt_queue qt_busyTo qt_servedIn qt_waysOn qt_costOn qt_aheads qt_seen qt_isKept qt_lanes qt_lengths qt_cells t_hasLaw t_hasCounters t_highest t_taped t_fault t_broken t_brokenAt t_spot t_here t_token t_value t_queued t_payed t_bestWait t_bestWhom t_bestCoins t_seenMany t_torn t_state t_readPage t_tape t_cuts t_letters t_queue t_busyTo t_servedIn t_waysOn_42 t_costOn_43 t_aheads_9 t_seen t_isKept t_lanes t_lengths t_cells) H → va_D A (w_Mod cI cB cZ cS cT qt qt_state qt_readPage qt_tape qt_cuts qt_letters qt_queue qt_busyTo qt_servedIn qt_waysOn qt_costOn qt_aheads qt_seen qt_isKept qt_lanes qt_lengths qt_cells t_hasLaw t_hasCounters t_highest t_taped t_fault t_broken t_brokenAt t_spot t_here t_token t_value t_queued t_payed t_bestWait t_bestWhom t_bestCoins t_seenMany t_torn t_state t_readPage t_tape t_cuts t_letters t_queue t_busyTo t_servedIn t_waysOn_42 t_costOn_43 t_aheads_9 t_seen t_isKept t_lanes t_lengths t_cells) → va_S A s.heap H locs → ∀ ls : Array Slot, lv_has ls 5 [(0, .ref qt), (1, .int x1_2), (2, .int x2_10), (3, .int x3_41)] → W p l e rmX9_layOrders s m av below meth c H locs 0 0 Q (F0 m 77 ls []) := by
              intro K177 hK177 n
              induction n with
              | zero =>
                intro x3_41 t_waysOn_42 t_costOn_43 hM
                rw [Mod_layOrders_L77'] at hM
                cases hM
              | succ n ih =>
                intro x3_41 t_waysOn_42 t_costOn_43 hM H locs hP hD hS ls hl
                rw [Mod_layOrders_L77'] at hM
                refine lv_iload_n hx hb dX9_layOrders_77 rfl (lv_at hl 3 rfl) ?_
                refine lv_aload_n hx hb dX9_layOrders_78 rfl (lv_at hl 0 rfl) ?_
                obtain ⟨o_44, hc, hM⟩ := bind_so hM
                refine mr_callVi (As := []) (rest := [.int x3_41]) (wr := []) ⟨hx, hb, hml, hown, hts⟩ (k_Mod_many l D cI cB cZ cS cT qt qt_state qt_readPage qt_tape qt_cuts qt_letters qt_queue qt_busyTo qt_servedIn qt_waysOn qt_costOn qt_aheads qt_seen qt_isKept qt_lanes qt_lengths qt_cells t_hasLaw t_hasCounters t_highest t_taped t_fault t_broken t_brokenAt t_spot t_here t_token t_value t_queued t_payed t_bestWait t_bestWhom t_bestCoins t_seenMany t_torn t_state t_readPage t_tape t_cuts t_letters t_queue t_busyTo t_servedIn t_waysOn_42 t_costOn_43 t_aheads_9 t_seen t_isKept t_lanes t_lengths t_cells  _ hc) (cwV 0 hts gX9_layOrders_X9_many rfl rfl rfl (by decide +kernel) ⟨Nat.le_of_ble_eq_true rfl, Nat.le_of_ble_eq_true rfl⟩) hK hP hD hS hA [0, 1, 2, 3, 4, 5, 6, 7, 8, 9, 10, 11, 12, 13, 14, 15, 16] [] [0, 1, 2, 3, 4, 5, 6, 7, 8, 9, 10, 11, 12, 13, 14, 15, 16] (w_Mod cI cB cZ cS cT qt qt_state qt_readPage qt_tape qt_cuts qt_letters qt_queue qt_busyTo qt_servedIn qt_waysOn qt_costOn qt_aheads qt_seen qt_isKept qt_lanes qt_lengths qt_cells t_hasLaw t_hasCounters t_highest t_taped t_fault t_broken t_brokenAt t_spot t_here t_token t_value t_queued t_payed t_bestWait t_bestWhom t_bestCoins t_seenMany t_torn t_state t_readPage t_tape t_cuts t_letters t_queue t_busyTo t_servedIn t_waysOn_42 t_costOn_43 t_aheads_9 t_seen t_isKept t_lanes t_lengths t_cells) rfl rfl rfl rfl (by decide) rfl rfl 9 0 rfl rfl rfl rfl hl.1 rfl (Nat.le_of_ble_eq_true rfl) dX9_layOrders_79 ⟨Nat.zero_le _, Nat.zero_le _⟩ (fun H locs hP hD hS => ?_)
                refine mr_icmp_ge (tgt := 177) hx hb hM dX9_layOrders_82 (by decide) (fun hM => ?_) (fun hM => ?_)
                · exact hK177 t_waysOn_42 t_costOn_43 hM _ _ hP hD hS ls (lv_sub hl [0, 1, 2] rfl)
                · refine lv_aload_n hx hb dX9_layOrders_85 rfl (lv_at hl 0 rfl) ?_
                  refine lv_iload_n hx hb dX9_layOrders_86 rfl (lv_at hl 3 rfl) ?_
                  refine lv_iload_n hx hb dX9_layOrders_87 rfl (lv_at hl 2 rfl) ?_
                  obtain ⟨o_45, hc, hM⟩ := bind_so hM
                  refine mr_callVi (As := [.int x3_41, .int x2_10]) (rest := []) (wr := []) ⟨hx, hb, hml, hown, hts⟩ (k_Mod_canNext l D cI cB cZ cS cT qt qt_state qt_readPage qt_tape qt_cuts qt_letters qt_queue qt_busyTo qt_servedIn qt_waysOn qt_costOn qt_aheads qt_seen qt_isKept qt_lanes qt_lengths qt_cells t_hasLaw t_hasCounters t_highest t_taped t_fault t_broken t_brokenAt t_spot t_here t_token t_value t_queued t_payed t_bestWait t_bestWhom t_bestCoins t_seenMany t_torn t_state t_readPage t_tape t_cuts t_letters t_queue t_busyTo t_servedIn t_waysOn_42 t_costOn_43 t_aheads_9 t_seen t_isKept t_lanes t_lengths t_cells x3_41 x2_10 _ hc) (cwV 2 hts gX9_layOrders_X9_canNext rfl rfl rfl (by decide +kernel) ⟨Nat.le_of_ble_eq_true rfl, Nat.le_of_ble_eq_true rfl⟩) hK hP hD hS hA [0, 1, 2, 3, 4, 5, 6, 7, 8, 9, 10, 11, 12, 13, 14, 15, 16] [] [0, 1, 2, 3, 4, 5, 6, 7, 8, 9, 10, 11, 12, 13, 14, 15, 16] (w_Mod cI cB cZ cS cT qt qt_state qt_readPage qt_tape qt_cuts qt_letters qt_queue qt_busyTo qt_servedIn qt_waysOn qt_costOn qt_aheads qt_seen qt_isKept qt_lanes qt_lengths qt_cells t_hasLaw t_hasCounters t_highest t_taped t_fault t_broken t_brokenAt t_spot t_here t_token t_value t_queued t_payed t_bestWait t_bestWhom t_bestCoins t_seenMany t_torn t_state t_readPage t_tape t_cuts t_letters t_queue t_busyTo t_servedIn t_waysOn_42 t_costOn_43 t_aheads_9 t_seen t_isKept t_lanes t_lengths t_cells) rfl rfl rfl rfl (by decide) rfl rfl 9 0 rfl rfl rfl rfl hl.1 rfl (Nat.le_of_ble_eq_true rfl) dX9_layOrders_88 ⟨Nat.zero_le _, Nat.zero_le _⟩ (fun H locs hP hD hS => ?_)
                  refine mr_if_eq (tgt := 171) hx hb hM dX9_layOrders_91 (by decide) (fun hM => ?_) (fun hM => ?_)
                  · refine mr_iinc (k := 3) (d := 1) hx hb (fun x3_46 => [(3, .int x3_46), (0, .ref qt), (1, .int x1_2), (2, .int x2_10)]) hM (by decide) dX9_layOrders_171 hl rfl (by decide) (fun _ => rfl) (fun x3_46 hM ls hl => ?_)
                    refine lv_goto (tgt := 77) hx hb dX9_layOrders_174 (by decide) ?_
                    exact ih x3_46 t_waysOn_42 t_costOn_43 hM _ _ hP hD hS ls (lv_sub hl [1, 2, 3, 0] rfl)
                  · refine lv_aload_n hx hb dX9_layOrders_94 rfl (lv_at hl 0 rfl) ?_
                    refine va_get (D := D) (ci := 9) (v := .ref qt_state) (C := RX9) (T := TX9) (N := 34) hx hb hts inX9w hown hK hP 0 rfl rfl 0 (by decide) hf7 (fun _ h9 => h9) rfl dX9_layOrders_95 ?_
                    refine lv_bipush (v := 6) hx hb dX9_layOrders_98 (by decide) ?_
                    refine lv_iload_n hx hb dX9_layOrders_100 rfl (lv_at hl 3 rfl) ?_
                    refine lv_imul hx hb dX9_layOrders_101 ?_
                    refine lv_iconst (v := 3) hx hb dX9_layOrders_102 (by decide) ?_
                    refine lv_iadd hx hb dX9_layOrders_103 ?_
                    refine mr_iald hx hb hK hP 1 0 rfl rfl hM dX9_layOrders_104 (fun v_47 hM => ?_)
                    refine lv_aload_n hx hb dX9_layOrders_105 rfl (lv_at hl 0 rfl) ?_
                    refine lv_iload_n hx hb dX9_layOrders_106 rfl (lv_at hl 2 rfl) ?_
                    obtain ⟨o_48, hc, hM⟩ := bind_so hM
                    refine mr_callVi (As := [.int x2_10]) (rest := [.int v_47]) (wr := []) ⟨hx, hb, hml, hown, hts⟩ (k_Mod_takenBy l D cI cB cZ cS cT qt qt_state qt_readPage qt_tape qt_cuts qt_letters qt_queue qt_busyTo qt_servedIn qt_waysOn qt_costOn qt_aheads qt_seen qt_isKept qt_lanes qt_lengths qt_cells t_hasLaw t_hasCounters t_highest t_taped t_fault t_broken t_brokenAt t_spot t_here t_token t_value t_queued t_payed t_bestWait t_bestWhom t_bestCoins t_seenMany t_torn t_state t_readPage t_tape t_cuts t_letters t_queue t_busyTo t_servedIn t_waysOn_42 t_costOn_43 t_aheads_9 t_seen t_isKept t_lanes t_lengths t_cells x2_10 _ hc) (cwV 1 hts gX9_layOrders_X9_takenBy rfl rfl rfl (by decide +kernel) ⟨Nat.le_of_ble_eq_true rfl, Nat.le_of_ble_eq_true rfl⟩) hK hP hD hS hA [0, 1, 2, 3, 4, 5, 6, 7, 8, 9, 10, 11, 12, 13, 14, 15, 16] [] [0, 1, 2, 3, 4, 5, 6, 7, 8, 9, 10, 11, 12, 13, 14, 15, 16] (w_Mod cI cB cZ cS cT qt qt_state qt_readPage qt_tape qt_cuts qt_letters qt_queue qt_busyTo qt_servedIn qt_waysOn qt_costOn qt_aheads qt_seen qt_isKept qt_lanes qt_lengths qt_cells t_hasLaw t_hasCounters t_highest t_taped t_fault t_broken t_brokenAt t_spot t_here t_token t_value t_queued t_payed t_bestWait t_bestWhom t_bestCoins t_seenMany t_torn t_state t_readPage t_tape t_cuts t_letters t_queue t_busyTo t_servedIn t_waysOn_42 t_costOn_43 t_aheads_9 t_seen t_isKept t_lanes t_lengths t_cells) rfl rfl rfl rfl (by decide) rfl rfl 9 0 rfl rfl rfl rfl hl.1 rfl (Nat.le_of_ble_eq_true rfl) dX9_layOrders_107 ⟨Nat.zero_le _, Nat.zero_le _⟩ (fun H locs hP hD hS => ?_)
                    refine lv_imul hx hb dX9_layOrders_110 ?_
                    refine lv_aload_n hx hb dX9_layOrders_111 rfl (lv_at hl 0 rfl) ?_
                    refine va_get (D := D) (ci := 9) (v := .ref qt_costOn) (C := RX9) (T := TX9) (N := 34) hx hb hts inX9w hown hK hP 0 rfl rfl 22 (by decide) hf37 (fun _ h9 => h9) rfl dX9_layOrders_112 ?_
                    refine lv_iload_n hx hb dX9_layOrders_115 rfl (lv_at hl 2 rfl) ?_
                    refine lv_iconst (v := 1) hx hb dX9_layOrders_116 (by decide) ?_
                    refine lv_iload_n hx hb dX9_layOrders_117 rfl (lv_at hl 3 rfl) ?_
                    refine lv_ishl hx hb dX9_layOrders_118 ?_
                    refine lv_ior hx hb dX9_layOrders_119 ?_
                    refine mr_iald hx hb hK hP 10 0 rfl rfl hM dX9_layOrders_120 (fun v_49 hM => ?_)
                    refine lv_iadd hx hb dX9_layOrders_121 ?_
                    refine mr_nmI hM (fun x4_50 hM => ?_)
                    refine lv_istore (lv' := [(4, .int x4_50), (0, .ref qt), (1, .int x1_2), (2, .int x2_10), (3, .int x3_41)]) hx hb dX9_layOrders_122 hl (by decide) rfl (fun ls hl => ?_)
                    refine lv_aload_n hx hb dX9_layOrders_124 rfl (lv_at hl 1 rfl) ?_
                    refine va_get (D := D) (ci := 9) (v := .ref qt_waysOn) (C := RX9) (T := TX9) (N := 34) hx hb hts inX9w hown hK hP 0 rfl rfl 21 (by decide) hf34 (fun _ h9 => h9) rfl dX9_layOrders_125 ?_
                    refine lv_iload_n hx hb dX9_layOrders_128 rfl (lv_at hl 3 rfl) ?_
                    refine lv_dup2_11 hx hb dX9_layOrders_129 rfl rfl ?_
                    refine mr_iald hx hb hK hP 9 0 rfl rfl hM dX9_layOrders_130 (fun v_51 hM => ?_)
                    refine lv_aload_n hx hb dX9_layOrders_131 rfl (lv_at hl 1 rfl) ?_
                    refine va_get (D := D) (ci := 9) (v := .ref qt_waysOn) (C := RX9) (T := TX9) (N := 34) hx hb hts inX9w hown hK hP 0 rfl rfl 21 (by decide) hf34 (fun _ h9 => h9) rfl dX9_layOrders_132 ?_
                    refine lv_iload_n hx hb dX9_layOrders_135 rfl (lv_at hl 3 rfl) ?_
                    refine lv_iconst (v := 1) hx hb dX9_layOrders_136 (by decide) ?_
                    refine lv_iload_n hx hb dX9_layOrders_137 rfl (lv_at hl 4 rfl) ?_
                    refine lv_ishl hx hb dX9_layOrders_138 ?_
                    refine lv_ior hx hb dX9_layOrders_139 ?_
                    refine mr_iald hx hb hK hP 9 0 rfl rfl hM dX9_layOrders_140 (fun v_52 hM => ?_)
                    refine lv_iadd hx hb dX9_layOrders_141 ?_
                    refine mr_iast hx hb hK hP hD hS 9 0 (fun t_waysOn_53 => (w_Mod cI cB cZ cS cT qt qt_state qt_readPage qt_tape qt_cuts qt_letters qt_queue qt_busyTo qt_servedIn qt_waysOn qt_costOn qt_aheads qt_seen qt_isKept qt_lanes qt_lengths qt_cells t_hasLaw t_hasCounters t_highest t_taped t_fault t_broken t_brokenAt t_spot t_here t_token t_value t_queued t_payed t_bestWait t_bestWhom t_bestCoins t_seenMany t_torn t_state t_readPage t_tape t_cuts t_letters t_queue t_busyTo t_servedIn t_waysOn_53 t_costOn_43 t_aheads_9 t_seen t_isKept t_lanes t_lengths t_cells)) rfl rfl (fun _ => rfl) hM dX9_layOrders_142 (fun t_waysOn_53 hM H locs hP hD hS => ?_)
                    refine lv_aload_n hx hb dX9_layOrders_143 rfl (lv_at hl 1 rfl) ?_
                    refine va_get (D := D) (ci := 9) (v := .ref qt_costOn) (C := RX9) (T := TX9) (N := 34) hx hb hts inX9w hown hK hP 0 rfl rfl 22 (by decide) hf37 (fun _ h9 => h9) rfl dX9_layOrders_144 ?_
                    refine lv_iload_n hx hb dX9_layOrders_147 rfl (lv_at hl 3 rfl) ?_
                    refine lv_iload hx hb dX9_layOrders_148 (lv_at hl 0 rfl) ?_
                    refine lv_aload_n hx hb dX9_layOrders_150 rfl (lv_at hl 1 rfl) ?_
                    refine va_get (D := D) (ci := 9) (v := .ref qt_costOn) (C := RX9) (T := TX9) (N := 34) hx hb hts inX9w hown hK hP 0 rfl rfl 22 (by decide) hf37 (fun _ h9 => h9) rfl dX9_layOrders_151 ?_
                    refine lv_iload_n hx hb dX9_layOrders_154 rfl (lv_at hl 3 rfl) ?_
                    refine mr_iald hx hb hK hP 10 0 rfl rfl hM dX9_layOrders_155 (fun v_54 hM => ?_)
                    refine mr_icmp_ge (tgt := 164) hx hb hM dX9_layOrders_156 (by decide) (fun hM => ?_) (fun hM => ?_)
                    · refine lv_aload_n hx hb dX9_layOrders_164 rfl (lv_at hl 1 rfl) ?_
                      refine va_get (D := D) (ci := 9) (v := .ref qt_costOn) (C := RX9) (T := TX9) (N := 34) hx hb hts inX9w hown hK hP 0 rfl rfl 22 (by decide) hf37 (fun _ h9 => h9) rfl dX9_layOrders_165 ?_
                      refine lv_iload_n hx hb dX9_layOrders_168 rfl (lv_at hl 3 rfl) ?_
                      refine mr_iald hx hb hK hP 10 0 rfl rfl hM dX9_layOrders_169 (fun v_55 hM => ?_)
                      refine mr_iast hx hb hK hP hD hS 10 0 (fun t_costOn_56 => (w_Mod cI cB cZ cS cT qt qt_state qt_readPage qt_tape qt_cuts qt_letters qt_queue qt_busyTo qt_servedIn qt_waysOn qt_costOn qt_aheads qt_seen qt_isKept qt_lanes qt_lengths qt_cells t_hasLaw t_hasCounters t_highest t_taped t_fault t_broken t_brokenAt t_spot t_here t_token t_value t_queued t_payed t_bestWait t_bestWhom t_bestCoins t_seenMany t_torn t_state t_readPage t_tape t_cuts t_letters t_queue t_busyTo t_servedIn t_waysOn_53 t_costOn_56 t_aheads_9 t_seen t_isKept t_lanes t_lengths t_cells)) rfl rfl (fun _ => rfl) hM dX9_layOrders_170 (fun t_costOn_56 hM H locs hP hD hS => ?_)
                      refine mr_iinc (k := 4) (d := 1) hx hb (fun x3_57 => [(3, .int x3_57), (4, .int x4_50), (0, .ref qt), (1, .int x1_2), (2, .int x2_10)]) hM (by decide) dX9_layOrders_171 hl rfl (by decide) (fun _ => rfl) (fun x3_57 hM ls hl => ?_)
                      refine lv_goto (tgt := 77) hx hb dX9_layOrders_174 (by decide) ?_
                      exact ih x3_57 t_waysOn_53 t_costOn_56 hM _ _ hP hD hS ls (lv_sub hl [2, 3, 4, 0] rfl)
                    · refine lv_iload hx hb dX9_layOrders_159 (lv_at hl 0 rfl) ?_
                      refine lv_goto (tgt := 170) hx hb dX9_layOrders_161 (by decide) ?_
                      refine mr_iast hx hb hK hP hD hS 10 0 (fun t_costOn_58 => (w_Mod cI cB cZ cS cT qt qt_state qt_readPage qt_tape qt_cuts qt_letters qt_queue qt_busyTo qt_servedIn qt_waysOn qt_costOn qt_aheads qt_seen qt_isKept qt_lanes qt_lengths qt_cells t_hasLaw t_hasCounters t_highest t_taped t_fault t_broken t_brokenAt t_spot t_here t_token t_value t_queued t_payed t_bestWait t_bestWhom t_bestCoins t_seenMany t_torn t_state t_readPage t_tape t_cuts t_letters t_queue t_busyTo t_servedIn t_waysOn_53 t_costOn_58 t_aheads_9 t_seen t_isKept t_lanes t_lengths t_cells)) rfl rfl (fun _ => rfl) hM dX9_layOrders_170 (fun t_costOn_58 hM H locs hP hD hS => ?_)
                      refine mr_iinc (k := 4) (d := 1) hx hb (fun x3_59 => [(3, .int x3_59), (4, .int x4_50), (0, .ref qt), (1, .int x1_2), (2, .int x2_10)]) hM (by decide) dX9_layOrders_171 hl rfl (by decide) (fun _ => rfl) (fun x3_59 hM ls hl => ?_)
                      refine lv_goto (tgt := 77) hx hb dX9_layOrders_174 (by decide) ?_
                      exact ih x3_59 t_waysOn_53 t_costOn_58 hM _ _ hP hD hS ls (lv_sub hl [2, 3, 4, 0] rfl)
            refine hL77 _ (fun t_waysOn_60 t_costOn_61 hM H locs hP hD hS ls hl => ?_) _ 0 t_waysOn_16 t_costOn_40 hM _ _ hP hD hS ls (lv_sub hl [1, 2, 3, 0] rfl)
            refine mr_iinc (k := 2) (d := (-1)) hx hb (fun x2_62 => [(2, .int x2_62), (0, .ref qt), (1, .int x1_2)]) hM (by decide) dX9_layOrders_177 hl rfl (by decide) (fun _ => rfl) (fun x2_62 hM ls hl => ?_)
            refine lv_goto (tgt := 38) hx hb dX9_layOrders_180 (by decide) ?_
            exact ih x2_62 t_waysOn_60 t_costOn_61 hM _ _ hP hD hS ls (lv_sub hl [1, 2, 0] rfl)
        · refine mr_icmp_ne (tgt := 56) hx hb hM dX9_layOrders_49 (by decide) (fun hM => ?_) (fun hM => ?_)
          · refine lv_iconst (v := 0) hx hb dX9_layOrders_56 (by decide) ?_
            exact hj57_13 x2_10 0 hM _ _ hP hD hS ls (lv_sub hl [0, 1, 2] rfl)
          · refine lv_iconst (v := 1) hx hb dX9_layOrders_52 (by decide) ?_
            refine lv_goto (tgt := 57) hx hb dX9_layOrders_53 (by decide) ?_
            exact hj57_13 x2_10 1 hM _ _ hP hD hS ls (lv_sub hl [0, 1, 2] rfl)
  refine hL38 _ (fun t_waysOn_63 t_costOn_64 hM H locs hP hD hS ls hl => ?_) _ x1_2 t_waysOn t_costOn hM _ _ hP hD hS ls (lv_sub hl [1, 2, 0] rfl)
  have hM := Option.some.inj hM
  subst hM
  exact mr_vret hx hb hr hlocks hQ hP hD hS dX9_layOrders_183

abbrev rmX9_inOrder : Room := { frames := 2, cells := 0, slots := 0, locals := 43 }
set_option maxHeartbeats 40000000 in
set_option maxRecDepth 100000 in
theorem k_Mod_inOrder (l : Launch) (D : va_G) (cI cB cZ cS cT : ClassId) (qt qt_state qt_readPage qt_tape qt_cuts qt_letters qt_queue qt_busyTo qt_servedIn qt_waysOn qt_costOn qt_aheads qt_seen qt_isKept qt_lanes qt_lengths qt_cells : Nat) (t_hasLaw t_hasCounters t_highest t_taped t_fault t_broken t_brokenAt t_spot t_here t_token t_value t_queued t_payed t_bestWait t_bestWhom t_bestCoins t_seenMany t_torn : Int32) (t_state t_readPage t_tape t_cuts t_letters t_queue t_busyTo t_servedIn t_waysOn t_costOn t_aheads t_seen t_isKept t_lanes t_lengths t_cells : Nat → Int32) (p1 p2 : Int32) (o : Int32) (hM : Mod_inOrder p1 p2 t_state t_waysOn t_costOn t_aheads = some o) : mtI l yX9_inOrder wsX9_inOrder rmX9_inOrder D (tys5 cI cB cZ cS cT) [.ref qt, .int p1, .int p2] (w_Mod cI cB cZ cS cT qt qt_state qt_readPage qt_tape qt_cuts qt_letters qt_queue qt_busyTo qt_servedIn qt_waysOn qt_costOn qt_aheads qt_seen qt_isKept qt_lanes qt_lengths qt_cells t_hasLaw t_hasCounters t_highest t_taped t_fault t_broken t_brokenAt t_spot t_here t_token t_value t_queued t_payed t_bestWait t_bestWhom t_bestCoins t_seenMany t_torn t_state t_readPage t_tape t_cuts t_letters t_queue t_busyTo t_servedIn t_waysOn t_costOn t_aheads t_seen t_isKept t_lanes t_lengths t_cells) (w_Mod cI cB cZ cS cT qt qt_state qt_readPage qt_tape qt_cuts qt_letters qt_queue qt_busyTo qt_servedIn qt_waysOn qt_costOn qt_aheads qt_seen qt_isKept qt_lanes qt_lengths qt_cells t_hasLaw t_hasCounters t_highest t_taped t_fault t_broken t_brokenAt t_spot t_here t_token t_value t_queued t_payed t_bestWait t_bestWhom t_bestCoins t_seenMany t_torn t_state t_readPage t_tape t_cuts t_letters t_queue t_busyTo t_servedIn t_waysOn t_costOn t_aheads t_seen t_isKept t_lanes t_lengths t_cells) o := by
  refine mtI.of (cc := cX9_inOrder) (maxL := 6) (ret := (some .int)) (by decide) rfl (Nat.le_of_ble_eq_true rfl) ?_
  intro p e s m below meth c A Q av hav hQ hx hb hr hml hown hts hlocks hK hP hD hA hS ls hl
  have hown : s.vm.findClass RX9 = some m.cls := hown
  have hl : lv_has ls 6 [(0, .ref qt), (1, .int p1), (2, .int p2)] := hl
  unfold Mod_inOrder at hM
  have inX9w : ∀ w ∈ u_ws RX9 TX9 34, w ∈ wsX9_inOrder := by decide +kernel
  have hf34 := hts (.fieldLink RX9 34 "LetsInModel" "waysOn" "[I") (by decide +kernel)
  have hf7 := hts (.fieldLink RX9 7 "LetsInModel" "state" "[I") (by decide +kernel)
  have hf37 := hts (.fieldLink RX9 37 "LetsInModel" "costOn" "[I") (by decide +kernel)
  refine lv_iconst (v := 0) hx hb dX9_inOrder_0 (by decide) ?_
  refine lv_istore_n (lv' := [(3, .int 0), (0, .ref qt), (1, .int p1), (2, .int p2)]) hx hb dX9_inOrder_1 rfl hl (by decide) rfl (fun ls hl => ?_)
  refine lv_iconst (v := 0) hx hb dX9_inOrder_2 (by decide) ?_
  refine lv_istore (lv' := [(4, .int 0), (3, .int 0), (0, .ref qt), (1, .int p1), (2, .int p2)]) hx hb dX9_inOrder_3 hl (by decide) rfl (fun ls hl => ?_)
  refine lv_iconst (v := 0) hx hb dX9_inOrder_5 (by decide) ?_
  refine lv_istore (lv' := [(5, .int 0), (4, .int 0), (3, .int 0), (0, .ref qt), (1, .int p1), (2, .int p2)]) hx hb dX9_inOrder_6 hl (by decide) rfl (fun ls hl => ?_)
  have hL8 : ∀ (K103 : Int32 → Option (Int32)), (∀ (x4_17 : Int32), K103 x4_17 = some o → ∀ (H : Heap) (locs : List Loc), va_P D vwCl (w_Mod cI cB cZ cS cT qt qt_state qt_readPage qt_tape qt_cuts qt_letters qt_queue qt_busyTo qt_servedIn qt_waysOn qt_costOn qt_aheads qt_seen qt_isKept qt_lanes qt_lengths qt_cells t_hasLaw t_hasCounters t_highest t_taped t_fault t_broken t_brokenAt t_spot t_here t_token t_value t_queued t_payed t_bestWait t_bestWhom t_bestCoins t_seenMany t_torn t_state t_readPage t_tape t_cuts t_letters t_queue t_busyTo t_servedIn t_waysOn t_costOn t_aheads t_seen t_isKept t_lanes t_lengths t_cells) H → va_D A (w_Mod cI cB cZ cS cT qt qt_state qt_readPage qt_tape qt_cuts qt_letters qt_queue qt_busyTo qt_servedIn qt_waysOn qt_costOn qt_aheads qt_seen qt_isKept qt_lanes qt_lengths qt_cells t_hasLaw t_hasCounters t_highest t_taped t_fault t_broken t_brokenAt t_spot t_here t_token t_value t_queued t_payed t_bestWait t_bestWhom t_bestCoins t_seenMany t_torn t_state t_readPage t_tape t_cuts t_letters t_queue t_busyTo t_servedIn t_waysOn t_costOn t_aheads t_seen t_isKept t_lanes t_lengths t_cells) → va_S A s.heap H locs → ∀ ls : Array Slot, lv_has ls 6 [(4, .int x4_17)] → W p l e rmX9_inOrder s m av below meth c H locs 0 0 Q (F0 m 103 ls [])) → ∀ (n : Nat) (x3_1 x4_2 x5_3 : Int32), Mod_inOrder_L8 t_state t_waysOn t_costOn t_aheads p1 p2 K103 n x3_1 x4_2 x5_3 = some o → ∀ (H : Heap) (locs : List Loc), va_P D vwCl (w_Mod cI cB cZ cS cT qt qt_state qt_readPage qt_tape qt_cuts qt_letters qt_queue qt_busyTo qt_servedIn qt_waysOn qt_costOn qt_aheads qt_seen qt_isKept qt_lanes qt_lengths qt_cells t_hasLaw t_hasCounters t_highest t_taped t_fault t_broken t_brokenAt t_spot t_here t_token t_value t_queued t_payed t_bestWait t_bestWhom t_bestCoins t_seenMany t_torn t_state t_readPage t_tape t_cuts t_letters t_queue t_busyTo t_servedIn t_waysOn t_costOn t_aheads t_seen t_isKept t_lanes t_lengths t_cells) H → va_D A (w_Mod cI cB cZ cS cT qt qt_state qt_readPage qt_tape qt_cuts qt_letters qt_queue qt_busyTo qt_servedIn qt_waysOn qt_costOn qt_aheads qt_seen qt_isKept qt_lanes qt_lengths qt_cells t_hasLaw t_hasCounters t_highest t_taped t_fault t_broken t_brokenAt t_spot t_here t_token t_value t_queued t_payed t_bestWait t_bestWhom t_bestCoins t_seenMany t_torn t_state t_readPage t_tape t_cuts t_letters t_queue t_busyTo t_servedIn t_waysOn t_costOn t_aheads t_seen t_isKept t_lanes t_lengths t_cells) → va_S A s.heap H locs → ∀ ls : Array Slot, lv_has ls 6 [(0, .ref qt), (1, .int p1), (2, .int p2), (3, .int x3_1), (4, .int x4_2), (5, .int x5_3)] → W p l e rmX9_inOrder s m av below meth c H locs 0 0 Q (F0 m 8 ls []) := by
    intro K103 hK103 n
    induction n with
    | zero =>
      intro x3_1 x4_2 x5_3 hM
      rw [Mod_inOrder_L8] at hM
      cases hM
    | succ n ih =>
      intro x3_1 x4_2 x5_3 hM H locs hP hD hS ls hl
      rw [Mod_inOrder_L8] at hM
      refine lv_iload hx hb dX9_inOrder_8 (lv_at hl 5 rfl) ?_
      refine lv_iload_n hx hb dX9_inOrder_10 rfl (lv_at hl 1 rfl) ?_
      refine mr_icmp_gt (tgt := 103) hx hb hM dX9_inOrder_11 (by decide) (fun hM => ?_) (fun hM => ?_)
      · exact hK103 x4_2 hM _ _ hP hD hS ls (lv_sub hl [4] rfl)
      · refine lv_iconst (v := 0) hx hb dX9_inOrder_14 (by decide) ?_
        refine lv_istore (lv' := [(4, .int 0), (0, .ref qt), (1, .int p1), (2, .int p2), (3, .int x3_1), (5, .int x5_3)]) hx hb dX9_inOrder_15 hl (by decide) rfl (fun ls hl => ?_)
        have hL17 : ∀ (K90 : Int32 → Option (Int32)), (∀ (x4_14 : Int32), K90 x4_14 = some o → ∀ (H : Heap) (locs : List Loc), va_P D vwCl (w_Mod cI cB cZ cS cT qt qt_state qt_readPage qt_tape qt_cuts qt_letters qt_queue qt_busyTo qt_servedIn qt_waysOn qt_costOn qt_aheads qt_seen qt_isKept qt_lanes qt_lengths qt_cells t_hasLaw t_hasCounters t_highest t_taped t_fault t_broken t_brokenAt t_spot t_here t_token t_value t_queued t_payed t_bestWait t_bestWhom t_bestCoins t_seenMany t_torn t_state t_readPage t_tape t_cuts t_letters t_queue t_busyTo t_servedIn t_waysOn t_costOn t_aheads t_seen t_isKept t_lanes t_lengths t_cells) H → va_D A (w_Mod cI cB cZ cS cT qt qt_state qt_readPage qt_tape qt_cuts qt_letters qt_queue qt_busyTo qt_servedIn qt_waysOn qt_costOn qt_aheads qt_seen qt_isKept qt_lanes qt_lengths qt_cells t_hasLaw t_hasCounters t_highest t_taped t_fault t_broken t_brokenAt t_spot t_here t_token t_value t_queued t_payed t_bestWait t_bestWhom t_bestCoins t_seenMany t_torn t_state t_readPage t_tape t_cuts t_letters t_queue t_busyTo t_servedIn t_waysOn t_costOn t_aheads t_seen t_isKept t_lanes t_lengths t_cells) → va_S A s.heap H locs → ∀ ls : Array Slot, lv_has ls 6 [(0, .ref qt), (1, .int p1), (2, .int p2), (3, .int x3_1), (4, .int x4_14), (5, .int x5_3)] → W p l e rmX9_inOrder s m av below meth c H locs 0 0 Q (F0 m 90 ls [])) → ∀ (n : Nat) (x4_4 : Int32), Mod_inOrder_L17 t_state t_waysOn t_costOn t_aheads p2 x3_1 K90 n x4_4 = some o → ∀ (H : Heap) (locs : List Loc), va_P D vwCl (w_Mod cI cB cZ cS cT qt qt_state qt_readPage qt_tape qt_cuts qt_letters qt_queue qt_busyTo qt_servedIn qt_waysOn qt_costOn qt_aheads qt_seen qt_isKept qt_lanes qt_lengths qt_cells t_hasLaw t_hasCounters t_highest t_taped t_fault t_broken t_brokenAt t_spot t_here t_token t_value t_queued t_payed t_bestWait t_bestWhom t_bestCoins t_seenMany t_torn t_state t_readPage t_tape t_cuts t_letters t_queue t_busyTo t_servedIn t_waysOn t_costOn t_aheads t_seen t_isKept t_lanes t_lengths t_cells) H → va_D A (w_Mod cI cB cZ cS cT qt qt_state qt_readPage qt_tape qt_cuts qt_letters qt_queue qt_busyTo qt_servedIn qt_waysOn qt_costOn qt_aheads qt_seen qt_isKept qt_lanes qt_lengths qt_cells t_hasLaw t_hasCounters t_highest t_taped t_fault t_broken t_brokenAt t_spot t_here t_token t_value t_queued t_payed t_bestWait t_bestWhom t_bestCoins t_seenMany t_torn t_state t_readPage t_tape t_cuts t_letters t_queue t_busyTo t_servedIn t_waysOn t_costOn t_aheads t_seen t_isKept t_lanes t_lengths t_cells) → va_S A s.heap H locs → ∀ ls : Array Slot, lv_has ls 6 [(0, .ref qt), (1, .int p1), (2, .int p2), (3, .int x3_1), (4, .int x4_4), (5, .int x5_3)] → W p l e rmX9_inOrder s m av below meth c H locs 0 0 Q (F0 m 17 ls []) := by
          intro K90 hK90 n
          induction n with
          | zero =>
            intro x4_4 hM
            rw [Mod_inOrder_L17] at hM
            cases hM
          | succ n ih =>
            intro x4_4 hM H locs hP hD hS ls hl
            rw [Mod_inOrder_L17] at hM
            refine lv_aload_n hx hb dX9_inOrder_17 rfl (lv_at hl 0 rfl) ?_
            refine lv_iload hx hb dX9_inOrder_18 (lv_at hl 4 rfl) ?_
            refine lv_iload_n hx hb dX9_inOrder_20 rfl (lv_at hl 3 rfl) ?_
            obtain ⟨o_5, hc, hM⟩ := bind_so hM
            refine mr_callVi (As := [.int x4_4, .int x3_1]) (rest := []) (wr := []) ⟨hx, hb, hml, hown, hts⟩ (k_Mod_canNext l D cI cB cZ cS cT qt qt_state qt_readPage qt_tape qt_cuts qt_letters qt_queue qt_busyTo qt_servedIn qt_waysOn qt_costOn qt_aheads qt_seen qt_isKept qt_lanes qt_lengths qt_cells t_hasLaw t_hasCounters t_highest t_taped t_fault t_broken t_brokenAt t_spot t_here t_token t_value t_queued t_payed t_bestWait t_bestWhom t_bestCoins t_seenMany t_torn t_state t_readPage t_tape t_cuts t_letters t_queue t_busyTo t_servedIn t_waysOn t_costOn t_aheads t_seen t_isKept t_lanes t_lengths t_cells x4_4 x3_1 _ hc) (cwV 2 hts gX9_inOrder_X9_canNext rfl rfl rfl (by decide +kernel) ⟨Nat.le_of_ble_eq_true rfl, Nat.le_of_ble_eq_true rfl⟩) hK hP hD hS hA [0, 1, 2, 3, 4, 5, 6, 7, 8, 9, 10, 11, 12, 13, 14, 15, 16] [] [0, 1, 2, 3, 4, 5, 6, 7, 8, 9, 10, 11, 12, 13, 14, 15, 16] (w_Mod cI cB cZ cS cT qt qt_state qt_readPage qt_tape qt_cuts qt_letters qt_queue qt_busyTo qt_servedIn qt_waysOn qt_costOn qt_aheads qt_seen qt_isKept qt_lanes qt_lengths qt_cells t_hasLaw t_hasCounters t_highest t_taped t_fault t_broken t_brokenAt t_spot t_here t_token t_value t_queued t_payed t_bestWait t_bestWhom t_bestCoins t_seenMany t_torn t_state t_readPage t_tape t_cuts t_letters t_queue t_busyTo t_servedIn t_waysOn t_costOn t_aheads t_seen t_isKept t_lanes t_lengths t_cells) rfl rfl rfl rfl (by decide) rfl rfl 9 0 rfl rfl rfl rfl hl.1 rfl (Nat.le_of_ble_eq_true rfl) dX9_inOrder_21 ⟨Nat.zero_le _, Nat.zero_le _⟩ (fun H locs hP hD hS => ?_)
            refine mr_if_eq (tgt := 84) hx hb hM dX9_inOrder_24 (by decide) (fun hM => ?_) (fun hM => ?_)
            · refine mr_iinc (k := 4) (d := 1) hx hb (fun x4_6 => [(4, .int x4_6), (0, .ref qt), (1, .int p1), (2, .int p2), (3, .int x3_1), (5, .int x5_3)]) hM (by decide) dX9_inOrder_84 hl rfl (by decide) (fun _ => rfl) (fun x4_6 hM ls hl => ?_)
              refine lv_goto (tgt := 17) hx hb dX9_inOrder_87 (by decide) ?_
              exact ih x4_6 hM _ _ hP hD hS ls (lv_sub hl [1, 2, 3, 4, 0, 5] rfl)
            · refine lv_aload_n hx hb dX9_inOrder_27 rfl (lv_at hl 0 rfl) ?_
              refine va_get (D := D) (ci := 9) (v := .ref qt_waysOn) (C := RX9) (T := TX9) (N := 34) hx hb hts inX9w hown hK hP 0 rfl rfl 21 (by decide) hf34 (fun _ h9 => h9) rfl dX9_inOrder_28 ?_
              refine lv_iload_n hx hb dX9_inOrder_31 rfl (lv_at hl 3 rfl) ?_
              refine lv_iconst (v := 1) hx hb dX9_inOrder_32 (by decide) ?_
              refine lv_iload hx hb dX9_inOrder_33 (lv_at hl 4 rfl) ?_
              refine lv_ishl hx hb dX9_inOrder_35 ?_
              refine lv_ior hx hb dX9_inOrder_36 ?_
              refine mr_iald hx hb hK hP 9 0 rfl rfl hM dX9_inOrder_37 (fun v_7 hM => ?_)
              refine mr_if_eq (tgt := 84) hx hb hM dX9_inOrder_38 (by decide) (fun hM => ?_) (fun hM => ?_)
              · refine mr_iinc (k := 4) (d := 1) hx hb (fun x4_8 => [(4, .int x4_8), (0, .ref qt), (1, .int p1), (2, .int p2), (3, .int x3_1), (5, .int x5_3)]) hM (by decide) dX9_inOrder_84 hl rfl (by decide) (fun _ => rfl) (fun x4_8 hM ls hl => ?_)
                refine lv_goto (tgt := 17) hx hb dX9_inOrder_87 (by decide) ?_
                exact ih x4_8 hM _ _ hP hD hS ls (lv_sub hl [1, 2, 3, 4, 0, 5] rfl)
              · refine lv_iload_n hx hb dX9_inOrder_41 rfl (lv_at hl 2 rfl) ?_
                refine mr_if_eq (tgt := 90) hx hb hM dX9_inOrder_42 (by decide) (fun hM => ?_) (fun hM => ?_)
                · exact hK90 x4_4 hM _ _ hP hD hS ls (lv_sub hl [0, 1, 2, 3, 4, 5] rfl)
                · refine lv_aload_n hx hb dX9_inOrder_45 rfl (lv_at hl 0 rfl) ?_
                  refine va_get (D := D) (ci := 9) (v := .ref qt_state) (C := RX9) (T := TX9) (N := 34) hx hb hts inX9w hown hK hP 0 rfl rfl 0 (by decide) hf7 (fun _ h9 => h9) rfl dX9_inOrder_46 ?_
                  refine lv_bipush (v := 6) hx hb dX9_inOrder_49 (by decide) ?_
                  refine lv_iload hx hb dX9_inOrder_51 (lv_at hl 4 rfl) ?_
                  refine lv_imul hx hb dX9_inOrder_53 ?_
                  refine lv_iconst (v := 3) hx hb dX9_inOrder_54 (by decide) ?_
                  refine lv_iadd hx hb dX9_inOrder_55 ?_
                  refine mr_iald hx hb hK hP 1 0 rfl rfl hM dX9_inOrder_56 (fun v_9 hM => ?_)
                  refine lv_aload_n hx hb dX9_inOrder_57 rfl (lv_at hl 0 rfl) ?_
                  refine lv_iload_n hx hb dX9_inOrder_58 rfl (lv_at hl 3 rfl) ?_
                  obtain ⟨o_10, hc, hM⟩ := bind_so hM
                  refine mr_callVi (As := [.int x3_1]) (rest := [.int v_9]) (wr := []) ⟨hx, hb, hml, hown, hts⟩ (k_Mod_takenBy l D cI cB cZ cS cT qt qt_state qt_readPage qt_tape qt_cuts qt_letters qt_queue qt_busyTo qt_servedIn qt_waysOn qt_costOn qt_aheads qt_seen qt_isKept qt_lanes qt_lengths qt_cells t_hasLaw t_hasCounters t_highest t_taped t_fault t_broken t_brokenAt t_spot t_here t_token t_value t_queued t_payed t_bestWait t_bestWhom t_bestCoins t_seenMany t_torn t_state t_readPage t_tape t_cuts t_letters t_queue t_busyTo t_servedIn t_waysOn t_costOn t_aheads t_seen t_isKept t_lanes t_lengths t_cells x3_1 _ hc) (cwV 1 hts gX9_inOrder_X9_takenBy rfl rfl rfl (by decide +kernel) ⟨Nat.le_of_ble_eq_true rfl, Nat.le_of_ble_eq_true rfl⟩) hK hP hD hS hA [0, 1, 2, 3, 4, 5, 6, 7, 8, 9, 10, 11, 12, 13, 14, 15, 16] [] [0, 1, 2, 3, 4, 5, 6, 7, 8, 9, 10, 11, 12, 13, 14, 15, 16] (w_Mod cI cB cZ cS cT qt qt_state qt_readPage qt_tape qt_cuts qt_letters qt_queue qt_busyTo qt_servedIn qt_waysOn qt_costOn qt_aheads qt_seen qt_isKept qt_lanes qt_lengths qt_cells t_hasLaw t_hasCounters t_highest t_taped t_fault t_broken t_brokenAt t_spot t_here t_token t_value t_queued t_payed t_bestWait t_bestWhom t_bestCoins t_seenMany t_torn t_state t_readPage t_tape t_cuts t_letters t_queue t_busyTo t_servedIn t_waysOn t_costOn t_aheads t_seen t_isKept t_lanes t_lengths t_cells) rfl rfl rfl rfl (by decide) rfl rfl 9 0 rfl rfl rfl rfl hl.1 rfl (Nat.le_of_ble_eq_true rfl) dX9_inOrder_59 ⟨Nat.zero_le _, Nat.zero_le _⟩ (fun H locs hP hD hS => ?_)
                  refine lv_imul hx hb dX9_inOrder_62 ?_
                  refine lv_aload_n hx hb dX9_inOrder_63 rfl (lv_at hl 0 rfl) ?_
                  refine va_get (D := D) (ci := 9) (v := .ref qt_costOn) (C := RX9) (T := TX9) (N := 34) hx hb hts inX9w hown hK hP 0 rfl rfl 22 (by decide) hf37 (fun _ h9 => h9) rfl dX9_inOrder_64 ?_
                  refine lv_iload_n hx hb dX9_inOrder_67 rfl (lv_at hl 3 rfl) ?_
                  refine lv_iconst (v := 1) hx hb dX9_inOrder_68 (by decide) ?_
                  refine lv_iload hx hb dX9_inOrder_69 (lv_at hl 4 rfl) ?_
                  refine lv_ishl hx hb dX9_inOrder_71 ?_
                  refine lv_ior hx hb dX9_inOrder_72 ?_
                  refine mr_iald hx hb hK hP 10 0 rfl rfl hM dX9_inOrder_73 (fun v_11 hM => ?_)
                  refine lv_iadd hx hb dX9_inOrder_74 ?_
                  refine lv_aload_n hx hb dX9_inOrder_75 rfl (lv_at hl 0 rfl) ?_
                  refine va_get (D := D) (ci := 9) (v := .ref qt_costOn) (C := RX9) (T := TX9) (N := 34) hx hb hts inX9w hown hK hP 0 rfl rfl 22 (by decide) hf37 (fun _ h9 => h9) rfl dX9_inOrder_76 ?_
                  refine lv_iload_n hx hb dX9_inOrder_79 rfl (lv_at hl 3 rfl) ?_
                  refine mr_iald hx hb hK hP 10 0 rfl rfl hM dX9_inOrder_80 (fun v_12 hM => ?_)
                  refine mr_icmp_eq (tgt := 90) hx hb hM dX9_inOrder_81 (by decide) (fun hM => ?_) (fun hM => ?_)
                  · exact hK90 x4_4 hM _ _ hP hD hS ls (lv_sub hl [0, 1, 2, 3, 4, 5] rfl)
                  · refine mr_iinc (k := 4) (d := 1) hx hb (fun x4_13 => [(4, .int x4_13), (0, .ref qt), (1, .int p1), (2, .int p2), (3, .int x3_1), (5, .int x5_3)]) hM (by decide) dX9_inOrder_84 hl rfl (by decide) (fun _ => rfl) (fun x4_13 hM ls hl => ?_)
                    refine lv_goto (tgt := 17) hx hb dX9_inOrder_87 (by decide) ?_
                    exact ih x4_13 hM _ _ hP hD hS ls (lv_sub hl [1, 2, 3, 4, 0, 5] rfl)
        refine hL17 _ (fun x4_14 hM H locs hP hD hS ls hl => ?_) _ 0 hM _ _ hP hD hS ls (lv_sub hl [1, 2, 3, 4, 0, 5] rfl)
        refine lv_iload_n hx hb dX9_inOrder_90 rfl (lv_at hl 3 rfl) ?_
        refine lv_iconst (v := 1) hx hb dX9_inOrder_91 (by decide) ?_
        refine lv_iload hx hb dX9_inOrder_92 (lv_at hl 4 rfl) ?_
        refine lv_ishl hx hb dX9_inOrder_94 ?_
        refine lv_ior hx hb dX9_inOrder_95 ?_
        refine mr_nmI hM (fun x3_15 hM => ?_)
        refine lv_istore_n (lv' := [(3, .int x3_15), (0, .ref qt), (1, .int p1), (2, .int p2), (4, .int x4_14), (5, .int x5_3)]) hx hb dX9_inOrder_96 rfl hl (by decide) rfl (fun ls hl => ?_)
        refine mr_iinc (k := 5) (d := 1) hx hb (fun x5_16 => [(5, .int x5_16), (3, .int x3_15), (0, .ref qt), (1, .int p1), (2, .int p2), (4, .int x4_14)]) hM (by decide) dX9_inOrder_97 hl rfl (by decide) (fun _ => rfl) (fun x5_16 hM ls hl => ?_)
        refine lv_goto (tgt := 8) hx hb dX9_inOrder_100 (by decide) ?_
        exact ih x3_15 x4_14 x5_16 hM _ _ hP hD hS ls (lv_sub hl [2, 3, 4, 1, 5, 0] rfl)
  refine hL8 _ (fun x4_17 hM H locs hP hD hS ls hl => ?_) _ 0 0 0 hM _ _ hP hD hS ls (lv_sub hl [3, 4, 5, 2, 1, 0] rfl)
  refine lv_iload hx hb dX9_inOrder_103 (lv_at hl 0 rfl) ?_
  have hM := Option.some.inj hM
  subst hM
  exact mr_iret hx hb hr hlocks hQ hP hD hS rfl dX9_inOrder_105

abbrev rmX9_order : Room := { frames := 5, cells := 0, slots := 0, locals := 117 }
set_option maxHeartbeats 40000000 in
set_option maxRecDepth 100000 in
theorem k_Mod_order (l : Launch) (D : va_G) (cI cB cZ cS cT : ClassId) (qt qt_state qt_readPage qt_tape qt_cuts qt_letters qt_queue qt_busyTo qt_servedIn qt_waysOn qt_costOn qt_aheads qt_seen qt_isKept qt_lanes qt_lengths qt_cells : Nat) (t_hasLaw t_hasCounters t_highest t_taped t_fault t_broken t_brokenAt t_spot t_here t_token t_value t_queued t_payed t_bestWait t_bestWhom t_bestCoins t_seenMany t_torn : Int32) (t_state t_readPage t_tape t_cuts t_letters t_queue t_busyTo t_servedIn t_waysOn t_costOn t_aheads t_seen t_isKept t_lanes t_lengths t_cells : Nat → Int32) (p1 : Int32) (o : Int32 × (Nat → Int32) × (Nat → Int32) × (Nat → Int32)) (hM : Mod_order p1 t_state t_waysOn t_costOn t_aheads = some o) : mtI l yX9_order wsX9_order rmX9_order D (tys5 cI cB cZ cS cT) [.ref qt, .int p1] (w_Mod cI cB cZ cS cT qt qt_state qt_readPage qt_tape qt_cuts qt_letters qt_queue qt_busyTo qt_servedIn qt_waysOn qt_costOn qt_aheads qt_seen qt_isKept qt_lanes qt_lengths qt_cells t_hasLaw t_hasCounters t_highest t_taped t_fault t_broken t_brokenAt t_spot t_here t_token t_value t_queued t_payed t_bestWait t_bestWhom t_bestCoins t_seenMany t_torn t_state t_readPage t_tape t_cuts t_letters t_queue t_busyTo t_servedIn t_waysOn t_costOn t_aheads t_seen t_isKept t_lanes t_lengths t_cells) (w_Mod cI cB cZ cS cT qt qt_state qt_readPage qt_tape qt_cuts qt_letters qt_queue qt_busyTo qt_servedIn qt_waysOn qt_costOn qt_aheads qt_seen qt_isKept qt_lanes qt_lengths qt_cells t_hasLaw t_hasCounters t_highest t_taped t_fault t_broken t_brokenAt t_spot t_here t_token t_value t_queued t_payed t_bestWait t_bestWhom t_bestCoins t_seenMany t_torn t_state t_readPage t_tape t_cuts t_letters t_queue t_busyTo t_servedIn o.2.1 o.2.2.1 o.2.2.2 t_seen t_isKept t_lanes t_lengths t_cells) o.1 := by
  refine mtI.of (cc := cX9_order) (maxL := 2) (ret := (some .int)) (by decide) rfl (Nat.le_of_ble_eq_true rfl) ?_
  intro p e s m below meth c A Q av hav hQ hx hb hr hml hown hts hlocks hK hP hD hA hS ls hl
  have hown : s.vm.findClass RX9 = some m.cls := hown
  have hl : lv_has ls 2 [(0, .ref qt), (1, .int p1)] := hl
  unfold Mod_order at hM
  have inX9w : ∀ w ∈ u_ws RX9 TX9 34, w ∈ wsX9_order := by decide +kernel
  have hf34 := hts (.fieldLink RX9 34 "LetsInModel" "waysOn" "[I") (by decide +kernel)
  have hfc233 := hts (.constantLong RX9 233 10) (by decide +kernel)
  refine lv_iload_n hx hb dX9_order_0 rfl (lv_at hl 1 rfl) ?_
  refine mr_jn hM (fun j25_1 => ∀ _u : Unit, j25_1 _u = some o → ∀ (H : Heap) (locs : List Loc), va_P D vwCl (w_Mod cI cB cZ cS cT qt qt_state qt_readPage qt_tape qt_cuts qt_letters qt_queue qt_busyTo qt_servedIn qt_waysOn qt_costOn qt_aheads qt_seen qt_isKept qt_lanes qt_lengths qt_cells t_hasLaw t_hasCounters t_highest t_taped t_fault t_broken t_brokenAt t_spot t_here t_token t_value t_queued t_payed t_bestWait t_bestWhom t_bestCoins t_seenMany t_torn t_state t_readPage t_tape t_cuts t_letters t_queue t_busyTo t_servedIn t_waysOn t_costOn t_aheads t_seen t_isKept t_lanes t_lengths t_cells) H → va_D A (w_Mod cI cB cZ cS cT qt qt_state qt_readPage qt_tape qt_cuts qt_letters qt_queue qt_busyTo qt_servedIn qt_waysOn qt_costOn qt_aheads qt_seen qt_isKept qt_lanes qt_lengths qt_cells t_hasLaw t_hasCounters t_highest t_taped t_fault t_broken t_brokenAt t_spot t_here t_token t_value t_queued t_payed t_bestWait t_bestWhom t_bestCoins t_seenMany t_torn t_state t_readPage t_tape t_cuts t_letters t_queue t_busyTo t_servedIn t_waysOn t_costOn t_aheads t_seen t_isKept t_lanes t_lengths t_cells) → va_S A s.heap H locs → ∀ ls : Array Slot, lv_has ls 2 [(0, .ref qt), (1, .int p1)] → W p l e rmX9_order s m av below meth c H locs 0 0 Q (F0 m 25 ls [])) (fun _u hM H locs hP hD hS ls hl => ?_) (fun j25_1 hj25_1 hM => ?_)
  · refine lv_aload_n hx hb dX9_order_25 rfl (lv_at hl 0 rfl) ?_
    obtain ⟨o_2, hc, hM⟩ := bind_so hM
    refine mr_callVv (As := []) (rest := []) (wr := []) ⟨hx, hb, hml, hown, hts⟩ (k_Mod_layOrders l D cI cB cZ cS cT qt qt_state qt_readPage qt_tape qt_cuts qt_letters qt_queue qt_busyTo qt_servedIn qt_waysOn qt_costOn qt_aheads qt_seen qt_isKept qt_lanes qt_lengths qt_cells t_hasLaw t_hasCounters t_highest t_taped t_fault t_broken t_brokenAt t_spot t_here t_token t_value t_queued t_payed t_bestWait t_bestWhom t_bestCoins t_seenMany t_torn t_state t_readPage t_tape t_cuts t_letters t_queue t_busyTo t_servedIn t_waysOn t_costOn t_aheads t_seen t_isKept t_lanes t_lengths t_cells  _ hc) (cwV 0 hts gX9_order_X9_layOrders rfl rfl rfl (by decide +kernel) ⟨Nat.le_of_ble_eq_true rfl, Nat.le_of_ble_eq_true rfl⟩) hK hP hD hS hA [0, 1, 2, 3, 4, 5, 6, 7, 8, 9, 10, 11, 12, 13, 14, 15, 16] [] [0, 1, 2, 3, 4, 5, 6, 7, 8, 9, 10, 11, 12, 13, 14, 15, 16] (w_Mod cI cB cZ cS cT qt qt_state qt_readPage qt_tape qt_cuts qt_letters qt_queue qt_busyTo qt_servedIn qt_waysOn qt_costOn qt_aheads qt_seen qt_isKept qt_lanes qt_lengths qt_cells t_hasLaw t_hasCounters t_highest t_taped t_fault t_broken t_brokenAt t_spot t_here t_token t_value t_queued t_payed t_bestWait t_bestWhom t_bestCoins t_seenMany t_torn t_state t_readPage t_tape t_cuts t_letters t_queue t_busyTo t_servedIn o_2.1 o_2.2.1 o_2.2.2 t_seen t_isKept t_lanes t_lengths t_cells) rfl rfl rfl rfl (by decide) rfl rfl 9 0 rfl rfl rfl rfl hl.1 rfl (Nat.le_of_ble_eq_true rfl) dX9_order_26 ⟨Nat.zero_le _, Nat.zero_le _⟩ (fun H locs hP hD hS => ?_)
    refine lv_iload_n hx hb dX9_order_29 rfl (lv_at hl 1 rfl) ?_
    refine mr_if_ne (tgt := 42) hx hb hM dX9_order_30 (by decide) (fun hM => ?_) (fun hM => ?_)
    · refine lv_aload_n hx hb dX9_order_42 rfl (lv_at hl 0 rfl) ?_
      refine va_get (D := D) (ci := 9) (v := .ref qt_waysOn) (C := RX9) (T := TX9) (N := 34) hx hb hts inX9w hown hK hP 0 rfl rfl 21 (by decide) hf34 (fun _ h9 => h9) rfl dX9_order_43 ?_
      refine lv_iconst (v := 0) hx hb dX9_order_46 (by decide) ?_
      refine mr_iald hx hb hK hP 9 0 rfl rfl hM dX9_order_47 (fun v_3 hM => ?_)
      refine mr_if_ne (tgt := 56) hx hb hM dX9_order_48 (by decide) (fun hM => ?_) (fun hM => ?_)
      · refine lv_aload_n hx hb dX9_order_56 rfl (lv_at hl 0 rfl) ?_
        refine lv_iload_n hx hb dX9_order_57 rfl (lv_at hl 1 rfl) ?_
        refine lv_bipush (v := 10) hx hb dX9_order_58 (by decide) ?_
        refine lv_isub hx hb dX9_order_60 ?_
        refine lv_iconst (v := 0) hx hb dX9_order_61 (by decide) ?_
        obtain ⟨o_4, hc, hM⟩ := bind_so hM
        refine mr_callVi (As := [.int (p1 - 10), .int 0]) (rest := []) (wr := []) ⟨hx, hb, hml, hown, hts⟩ (k_Mod_inOrder l D cI cB cZ cS cT qt qt_state qt_readPage qt_tape qt_cuts qt_letters qt_queue qt_busyTo qt_servedIn qt_waysOn qt_costOn qt_aheads qt_seen qt_isKept qt_lanes qt_lengths qt_cells t_hasLaw t_hasCounters t_highest t_taped t_fault t_broken t_brokenAt t_spot t_here t_token t_value t_queued t_payed t_bestWait t_bestWhom t_bestCoins t_seenMany t_torn t_state t_readPage t_tape t_cuts t_letters t_queue t_busyTo t_servedIn o_2.1 o_2.2.1 o_2.2.2 t_seen t_isKept t_lanes t_lengths t_cells (p1 - 10) 0 _ hc) (cwV 2 hts gX9_order_X9_inOrder rfl rfl rfl (by decide +kernel) ⟨Nat.le_of_ble_eq_true rfl, Nat.le_of_ble_eq_true rfl⟩) hK hP hD hS hA [0, 1, 2, 3, 4, 5, 6, 7, 8, 9, 10, 11, 12, 13, 14, 15, 16] [] [0, 1, 2, 3, 4, 5, 6, 7, 8, 9, 10, 11, 12, 13, 14, 15, 16] (w_Mod cI cB cZ cS cT qt qt_state qt_readPage qt_tape qt_cuts qt_letters qt_queue qt_busyTo qt_servedIn qt_waysOn qt_costOn qt_aheads qt_seen qt_isKept qt_lanes qt_lengths qt_cells t_hasLaw t_hasCounters t_highest t_taped t_fault t_broken t_brokenAt t_spot t_here t_token t_value t_queued t_payed t_bestWait t_bestWhom t_bestCoins t_seenMany t_torn t_state t_readPage t_tape t_cuts t_letters t_queue t_busyTo t_servedIn o_2.1 o_2.2.1 o_2.2.2 t_seen t_isKept t_lanes t_lengths t_cells) rfl rfl rfl rfl (by decide) rfl rfl 9 0 rfl rfl rfl rfl hl.1 rfl (Nat.le_of_ble_eq_true rfl) dX9_order_62 ⟨Nat.zero_le _, Nat.zero_le _⟩ (fun H locs hP hD hS => ?_)
        have hM := Option.some.inj hM
        subst hM
        exact mr_iret hx hb hr hlocks hQ hP hD hS rfl dX9_order_65
      · refine lv_bipush (v := (-4)) hx hb dX9_order_51 (by decide) ?_
        refine lv_goto (tgt := 65) hx hb dX9_order_53 (by decide) ?_
        have hM := Option.some.inj hM
        subst hM
        exact mr_iret hx hb hr hlocks hQ hP hD hS rfl dX9_order_65
    · refine lv_aload_n hx hb dX9_order_33 rfl (lv_at hl 0 rfl) ?_
      refine va_get (D := D) (ci := 9) (v := .ref qt_waysOn) (C := RX9) (T := TX9) (N := 34) hx hb hts inX9w hown hK hP 0 rfl rfl 21 (by decide) hf34 (fun _ h9 => h9) rfl dX9_order_34 ?_
      refine lv_iconst (v := 0) hx hb dX9_order_37 (by decide) ?_
      refine mr_iald hx hb hK hP 9 0 rfl rfl hM dX9_order_38 (fun v_5 hM => ?_)
      refine lv_goto (tgt := 65) hx hb dX9_order_39 (by decide) ?_
      have hM := Option.some.inj hM
      subst hM
      exact mr_iret hx hb hr hlocks hQ hP hD hS rfl dX9_order_65
  · refine mr_if_eq (tgt := 25) hx hb hM dX9_order_1 (by decide) (fun hM => ?_) (fun hM => ?_)
    · exact hj25_1 () hM _ _ hP hD hS ls (lv_sub hl [0, 1] rfl)
    · refine lv_iload_n hx hb dX9_order_4 rfl (lv_at hl 1 rfl) ?_
      refine lv_i2l hx hb dX9_order_5 rfl ?_
      refine lv_ldc2 (v := 10) hx hb hown hfc233 dX9_order_6 ?_
      refine lv_bipush (v := 9) hx hb dX9_order_9 (by decide) ?_
      refine lv_aload_n hx hb dX9_order_11 rfl (lv_at hl 0 rfl) ?_
      obtain ⟨o_6, hc, hM⟩ := bind_so hM
      refine mr_callVi (As := []) (rest := [.int 9, .long 10, .long p1.toInt64]) (wr := []) ⟨hx, hb, hml, hown, hts⟩ (k_Mod_many l D cI cB cZ cS cT qt qt_state qt_readPage qt_tape qt_cuts qt_letters qt_queue qt_busyTo qt_servedIn qt_waysOn qt_costOn qt_aheads qt_seen qt_isKept qt_lanes qt_lengths qt_cells t_hasLaw t_hasCounters t_highest t_taped t_fault t_broken t_brokenAt t_spot t_here t_token t_value t_queued t_payed t_bestWait t_bestWhom t_bestCoins t_seenMany t_torn t_state t_readPage t_tape t_cuts t_letters t_queue t_busyTo t_servedIn t_waysOn t_costOn t_aheads t_seen t_isKept t_lanes t_lengths t_cells  _ hc) (cwV 0 hts gX9_order_X9_many rfl rfl rfl (by decide +kernel) ⟨Nat.le_of_ble_eq_true rfl, Nat.le_of_ble_eq_true rfl⟩) hK hP hD hS hA [0, 1, 2, 3, 4, 5, 6, 7, 8, 9, 10, 11, 12, 13, 14, 15, 16] [] [0, 1, 2, 3, 4, 5, 6, 7, 8, 9, 10, 11, 12, 13, 14, 15, 16] (w_Mod cI cB cZ cS cT qt qt_state qt_readPage qt_tape qt_cuts qt_letters qt_queue qt_busyTo qt_servedIn qt_waysOn qt_costOn qt_aheads qt_seen qt_isKept qt_lanes qt_lengths qt_cells t_hasLaw t_hasCounters t_highest t_taped t_fault t_broken t_brokenAt t_spot t_here t_token t_value t_queued t_payed t_bestWait t_bestWhom t_bestCoins t_seenMany t_torn t_state t_readPage t_tape t_cuts t_letters t_queue t_busyTo t_servedIn t_waysOn t_costOn t_aheads t_seen t_isKept t_lanes t_lengths t_cells) rfl rfl rfl rfl (by decide) rfl rfl 9 0 rfl rfl rfl rfl hl.1 rfl (Nat.le_of_ble_eq_true rfl) dX9_order_12 ⟨Nat.zero_le _, Nat.zero_le _⟩ (fun H locs hP hD hS => ?_)
      refine lv_iadd hx hb dX9_order_15 ?_
      refine lv_i2l hx hb dX9_order_16 rfl ?_
      obtain ⟨o_7, hc, hM⟩ := bind_so hM
      refine mr_callSi (As := [.long p1.toInt64, .long 10, .long ((9 + o_6).toInt64)]) (rest := []) ⟨hx, hb, hml, hown, hts⟩ (k_Mod_in l D cI cB cZ cS cT   p1.toInt64 10 ((9 + o_6).toInt64) _ hc) (cwS 3 hts gX9_order_X9_in rfl rfl rfl (by decide +kernel) ⟨Nat.le_of_ble_eq_true rfl, Nat.le_of_ble_eq_true rfl⟩) hK hP hD hS hA rfl hl.1 rfl (Nat.le_of_ble_eq_true rfl) dX9_order_17 ⟨Nat.zero_le _, Nat.zero_le _⟩ (fun H locs hP hS => ?_)
      refine mr_if_ne (tgt := 25) hx hb hM dX9_order_20 (by decide) (fun hM => ?_) (fun hM => ?_)
      · exact hj25_1 () hM _ _ hP hD hS ls (lv_sub hl [0, 1] rfl)
      · refine lv_iconst (v := (-1)) hx hb dX9_order_23 (by decide) ?_
        have hM := Option.some.inj hM
        subst hM
        exact mr_iret hx hb hr hlocks hQ hP hD hS rfl dX9_order_24

abbrev rmX9_rings : Room := { frames := 4, cells := 0, slots := 0, locals := 93 }
set_option maxHeartbeats 40000000 in
set_option maxRecDepth 100000 in
theorem k_Mod_rings (l : Launch) (D : va_G) (cI cB cZ cS cT : ClassId) (qt qt_state qt_readPage qt_tape qt_cuts qt_letters qt_queue qt_busyTo qt_servedIn qt_waysOn qt_costOn qt_aheads qt_seen qt_isKept qt_lanes qt_lengths qt_cells : Nat) (t_hasLaw t_hasCounters t_highest t_taped t_fault t_broken t_brokenAt t_spot t_here t_token t_value t_queued t_payed t_bestWait t_bestWhom t_bestCoins t_seenMany t_torn : Int32) (t_state t_readPage t_tape t_cuts t_letters t_queue t_busyTo t_servedIn t_waysOn t_costOn t_aheads t_seen t_isKept t_lanes t_lengths t_cells : Nat → Int32)  (o : Int32) (hM : Mod_rings t_state = some o) : mtI l yX9_rings wsX9_rings rmX9_rings D (tys5 cI cB cZ cS cT) [.ref qt] (w_Mod cI cB cZ cS cT qt qt_state qt_readPage qt_tape qt_cuts qt_letters qt_queue qt_busyTo qt_servedIn qt_waysOn qt_costOn qt_aheads qt_seen qt_isKept qt_lanes qt_lengths qt_cells t_hasLaw t_hasCounters t_highest t_taped t_fault t_broken t_brokenAt t_spot t_here t_token t_value t_queued t_payed t_bestWait t_bestWhom t_bestCoins t_seenMany t_torn t_state t_readPage t_tape t_cuts t_letters t_queue t_busyTo t_servedIn t_waysOn t_costOn t_aheads t_seen t_isKept t_lanes t_lengths t_cells) (w_Mod cI cB cZ cS cT qt qt_state qt_readPage qt_tape qt_cuts qt_letters qt_queue qt_busyTo qt_servedIn qt_waysOn qt_costOn qt_aheads qt_seen qt_isKept qt_lanes qt_lengths qt_cells t_hasLaw t_hasCounters t_highest t_taped t_fault t_broken t_brokenAt t_spot t_here t_token t_value t_queued t_payed t_bestWait t_bestWhom t_bestCoins t_seenMany t_torn t_state t_readPage t_tape t_cuts t_letters t_queue t_busyTo t_servedIn t_waysOn t_costOn t_aheads t_seen t_isKept t_lanes t_lengths t_cells) o := by
  refine mtI.of (cc := cX9_rings) (maxL := 5) (ret := (some .int)) (by decide) rfl (Nat.le_of_ble_eq_true rfl) ?_
  intro p e s m below meth c A Q av hav hQ hx hb hr hml hown hts hlocks hK hP hD hA hS ls hl
  have hown : s.vm.findClass RX9 = some m.cls := hown
  have hl : lv_has ls 5 [(0, .ref qt)] := hl
  unfold Mod_rings at hM
  refine lv_iconst (v := 0) hx hb dX9_rings_0 (by decide) ?_
  refine lv_istore_n (lv' := [(1, .int 0), (0, .ref qt)]) hx hb dX9_rings_1 rfl hl (by decide) rfl (fun ls hl => ?_)
  refine lv_iconst (v := 0) hx hb dX9_rings_2 (by decide) ?_
  refine lv_istore_n (lv' := [(2, .int 0), (1, .int 0), (0, .ref qt)]) hx hb dX9_rings_3 rfl hl (by decide) rfl (fun ls hl => ?_)
  have hL4 : ∀ (K77 : Int32 → Option (Int32)), (∀ (x1_16 : Int32), K77 x1_16 = some o → ∀ (H : Heap) (locs : List Loc), va_P D vwCl (w_Mod cI cB cZ cS cT qt qt_state qt_readPage qt_tape qt_cuts qt_letters qt_queue qt_busyTo qt_servedIn qt_waysOn qt_costOn qt_aheads qt_seen qt_isKept qt_lanes qt_lengths qt_cells t_hasLaw t_hasCounters t_highest t_taped t_fault t_broken t_brokenAt t_spot t_here t_token t_value t_queued t_payed t_bestWait t_bestWhom t_bestCoins t_seenMany t_torn t_state t_readPage t_tape t_cuts t_letters t_queue t_busyTo t_servedIn t_waysOn t_costOn t_aheads t_seen t_isKept t_lanes t_lengths t_cells) H → va_D A (w_Mod cI cB cZ cS cT qt qt_state qt_readPage qt_tape qt_cuts qt_letters qt_queue qt_busyTo qt_servedIn qt_waysOn qt_costOn qt_aheads qt_seen qt_isKept qt_lanes qt_lengths qt_cells t_hasLaw t_hasCounters t_highest t_taped t_fault t_broken t_brokenAt t_spot t_here t_token t_value t_queued t_payed t_bestWait t_bestWhom t_bestCoins t_seenMany t_torn t_state t_readPage t_tape t_cuts t_letters t_queue t_busyTo t_servedIn t_waysOn t_costOn t_aheads t_seen t_isKept t_lanes t_lengths t_cells) → va_S A s.heap H locs → ∀ ls : Array Slot, lv_has ls 5 [(1, .int x1_16)] → W p l e rmX9_rings s m av below meth c H locs 0 0 Q (F0 m 77 ls [])) → ∀ (n : Nat) (x1_1 x2_2 : Int32), Mod_rings_L4 t_state K77 n x1_1 x2_2 = some o → ∀ (H : Heap) (locs : List Loc), va_P D vwCl (w_Mod cI cB cZ cS cT qt qt_state qt_readPage qt_tape qt_cuts qt_letters qt_queue qt_busyTo qt_servedIn qt_waysOn qt_costOn qt_aheads qt_seen qt_isKept qt_lanes qt_lengths qt_cells t_hasLaw t_hasCounters t_highest t_taped t_fault t_broken t_brokenAt t_spot t_here t_token t_value t_queued t_payed t_bestWait t_bestWhom t_bestCoins t_seenMany t_torn t_state t_readPage t_tape t_cuts t_letters t_queue t_busyTo t_servedIn t_waysOn t_costOn t_aheads t_seen t_isKept t_lanes t_lengths t_cells) H → va_D A (w_Mod cI cB cZ cS cT qt qt_state qt_readPage qt_tape qt_cuts qt_letters qt_queue qt_busyTo qt_servedIn qt_waysOn qt_costOn qt_aheads qt_seen qt_isKept qt_lanes qt_lengths qt_cells t_hasLaw t_hasCounters t_highest t_taped t_fault t_broken t_brokenAt t_spot t_here t_token t_value t_queued t_payed t_bestWait t_bestWhom t_bestCoins t_seenMany t_torn t_state t_readPage t_tape t_cuts t_letters t_queue t_busyTo t_servedIn t_waysOn t_costOn t_aheads t_seen t_isKept t_lanes t_lengths t_cells) → va_S A s.heap H locs → ∀ ls : Array Slot, lv_has ls 5 [(0, .ref qt), (1, .int x1_1), (2, .int x2_2)] → W p l e rmX9_rings s m av below meth c H locs 0 0 Q (F0 m 4 ls []) := by
    intro K77 hK77 n
    induction n with
    | zero =>
      intro x1_1 x2_2 hM
      rw [Mod_rings_L4] at hM
      cases hM
    | succ n ih =>
      intro x1_1 x2_2 hM H locs hP hD hS ls hl
      rw [Mod_rings_L4] at hM
      refine lv_iload_n hx hb dX9_rings_4 rfl (lv_at hl 2 rfl) ?_
      refine lv_aload_n hx hb dX9_rings_5 rfl (lv_at hl 0 rfl) ?_
      obtain ⟨o_3, hc, hM⟩ := bind_so hM
      refine mr_callVi (As := []) (rest := [.int x2_2]) (wr := []) ⟨hx, hb, hml, hown, hts⟩ (k_Mod_many l D cI cB cZ cS cT qt qt_state qt_readPage qt_tape qt_cuts qt_letters qt_queue qt_busyTo qt_servedIn qt_waysOn qt_costOn qt_aheads qt_seen qt_isKept qt_lanes qt_lengths qt_cells t_hasLaw t_hasCounters t_highest t_taped t_fault t_broken t_brokenAt t_spot t_here t_token t_value t_queued t_payed t_bestWait t_bestWhom t_bestCoins t_seenMany t_torn t_state t_readPage t_tape t_cuts t_letters t_queue t_busyTo t_servedIn t_waysOn t_costOn t_aheads t_seen t_isKept t_lanes t_lengths t_cells  _ hc) (cwV 0 hts gX9_rings_X9_many rfl rfl rfl (by decide +kernel) ⟨Nat.le_of_ble_eq_true rfl, Nat.le_of_ble_eq_true rfl⟩) hK hP hD hS hA [0, 1, 2, 3, 4, 5, 6, 7, 8, 9, 10, 11, 12, 13, 14, 15, 16] [] [0, 1, 2, 3, 4, 5, 6, 7, 8, 9, 10, 11, 12, 13, 14, 15, 16] (w_Mod cI cB cZ cS cT qt qt_state qt_readPage qt_tape qt_cuts qt_letters qt_queue qt_busyTo qt_servedIn qt_waysOn qt_costOn qt_aheads qt_seen qt_isKept qt_lanes qt_lengths qt_cells t_hasLaw t_hasCounters t_highest t_taped t_fault t_broken t_brokenAt t_spot t_here t_token t_value t_queued t_payed t_bestWait t_bestWhom t_bestCoins t_seenMany t_torn t_state t_readPage t_tape t_cuts t_letters t_queue t_busyTo t_servedIn t_waysOn t_costOn t_aheads t_seen t_isKept t_lanes t_lengths t_cells) rfl rfl rfl rfl (by decide) rfl rfl 9 0 rfl rfl rfl rfl hl.1 rfl (Nat.le_of_ble_eq_true rfl) dX9_rings_6 ⟨Nat.zero_le _, Nat.zero_le _⟩ (fun H locs hP hD hS => ?_)
      refine mr_icmp_ge (tgt := 77) hx hb hM dX9_rings_9 (by decide) (fun hM => ?_) (fun hM => ?_)
      · exact hK77 x1_1 hM _ _ hP hD hS ls (lv_sub hl [1] rfl)
      · refine lv_aload_n hx hb dX9_rings_12 rfl (lv_at hl 0 rfl) ?_
        refine lv_iload_n hx hb dX9_rings_13 rfl (lv_at hl 2 rfl) ?_
        obtain ⟨o_4, hc, hM⟩ := bind_so hM
        refine mr_callVi (As := [.int x2_2]) (rest := []) (wr := []) ⟨hx, hb, hml, hown, hts⟩ (k_Mod_letsIn l D cI cB cZ cS cT qt qt_state qt_readPage qt_tape qt_cuts qt_letters qt_queue qt_busyTo qt_servedIn qt_waysOn qt_costOn qt_aheads qt_seen qt_isKept qt_lanes qt_lengths qt_cells t_hasLaw t_hasCounters t_highest t_taped t_fault t_broken t_brokenAt t_spot t_here t_token t_value t_queued t_payed t_bestWait t_bestWhom t_bestCoins t_seenMany t_torn t_state t_readPage t_tape t_cuts t_letters t_queue t_busyTo t_servedIn t_waysOn t_costOn t_aheads t_seen t_isKept t_lanes t_lengths t_cells x2_2 _ hc) (cwV 1 hts gX9_rings_X9_letsIn rfl rfl rfl (by decide +kernel) ⟨Nat.le_of_ble_eq_true rfl, Nat.le_of_ble_eq_true rfl⟩) hK hP hD hS hA [0, 1, 2, 3, 4, 5, 6, 7, 8, 9, 10, 11, 12, 13, 14, 15, 16] [] [0, 1, 2, 3, 4, 5, 6, 7, 8, 9, 10, 11, 12, 13, 14, 15, 16] (w_Mod cI cB cZ cS cT qt qt_state qt_readPage qt_tape qt_cuts qt_letters qt_queue qt_busyTo qt_servedIn qt_waysOn qt_costOn qt_aheads qt_seen qt_isKept qt_lanes qt_lengths qt_cells t_hasLaw t_hasCounters t_highest t_taped t_fault t_broken t_brokenAt t_spot t_here t_token t_value t_queued t_payed t_bestWait t_bestWhom t_bestCoins t_seenMany t_torn t_state t_readPage t_tape t_cuts t_letters t_queue t_busyTo t_servedIn t_waysOn t_costOn t_aheads t_seen t_isKept t_lanes t_lengths t_cells) rfl rfl rfl rfl (by decide) rfl rfl 9 0 rfl rfl rfl rfl hl.1 rfl (Nat.le_of_ble_eq_true rfl) dX9_rings_14 ⟨Nat.zero_le _, Nat.zero_le _⟩ (fun H locs hP hD hS => ?_)
        refine lv_istore_n (lv' := [(3, .int o_4), (0, .ref qt), (1, .int x1_1), (2, .int x2_2)]) hx hb dX9_rings_17 rfl hl (by decide) rfl (fun ls hl => ?_)
        refine lv_iconst (v := 0) hx hb dX9_rings_18 (by decide) ?_
        refine lv_istore (lv' := [(4, .int 0), (3, .int o_4), (0, .ref qt), (1, .int x1_1), (2, .int x2_2)]) hx hb dX9_rings_19 hl (by decide) rfl (fun ls hl => ?_)
        have hL21 : ∀ (K63 : Int32 → Option (Int32)), (∀ (x3_13 : Int32), K63 x3_13 = some o → ∀ (H : Heap) (locs : List Loc), va_P D vwCl (w_Mod cI cB cZ cS cT qt qt_state qt_readPage qt_tape qt_cuts qt_letters qt_queue qt_busyTo qt_servedIn qt_waysOn qt_costOn qt_aheads qt_seen qt_isKept qt_lanes qt_lengths qt_cells t_hasLaw t_hasCounters t_highest t_taped t_fault t_broken t_brokenAt t_spot t_here t_token t_value t_queued t_payed t_bestWait t_bestWhom t_bestCoins t_seenMany t_torn t_state t_readPage t_tape t_cuts t_letters t_queue t_busyTo t_servedIn t_waysOn t_costOn t_aheads t_seen t_isKept t_lanes t_lengths t_cells) H → va_D A (w_Mod cI cB cZ cS cT qt qt_state qt_readPage qt_tape qt_cuts qt_letters qt_queue qt_busyTo qt_servedIn qt_waysOn qt_costOn qt_aheads qt_seen qt_isKept qt_lanes qt_lengths qt_cells t_hasLaw t_hasCounters t_highest t_taped t_fault t_broken t_brokenAt t_spot t_here t_token t_value t_queued t_payed t_bestWait t_bestWhom t_bestCoins t_seenMany t_torn t_state t_readPage t_tape t_cuts t_letters t_queue t_busyTo t_servedIn t_waysOn t_costOn t_aheads t_seen t_isKept t_lanes t_lengths t_cells) → va_S A s.heap H locs → ∀ ls : Array Slot, lv_has ls 5 [(0, .ref qt), (1, .int x1_1), (2, .int x2_2), (3, .int x3_13)] → W p l e rmX9_rings s m av below meth c H locs 0 0 Q (F0 m 63 ls [])) → ∀ (n : Nat) (x3_5 x4_6 : Int32), Mod_rings_L21 t_state K63 n x3_5 x4_6 = some o → ∀ (H : Heap) (locs : List Loc), va_P D vwCl (w_Mod cI cB cZ cS cT qt qt_state qt_readPage qt_tape qt_cuts qt_letters qt_queue qt_busyTo qt_servedIn qt_waysOn qt_costOn qt_aheads qt_seen qt_isKept qt_lanes qt_lengths qt_cells t_hasLaw t_hasCounters t_highest t_taped t_fault t_broken t_brokenAt t_spot t_here t_token t_value t_queued t_payed t_bestWait t_bestWhom t_bestCoins t_seenMany t_torn t_state t_readPage t_tape t_cuts t_letters t_queue t_busyTo t_servedIn t_waysOn t_costOn t_aheads t_seen t_isKept t_lanes t_lengths t_cells) H → va_D A (w_Mod cI cB cZ cS cT qt qt_state qt_readPage qt_tape qt_cuts qt_letters qt_queue qt_busyTo qt_servedIn qt_waysOn qt_costOn qt_aheads qt_seen qt_isKept qt_lanes qt_lengths qt_cells t_hasLaw t_hasCounters t_highest t_taped t_fault t_broken t_brokenAt t_spot t_here t_token t_value t_queued t_payed t_bestWait t_bestWhom t_bestCoins t_seenMany t_torn t_state t_readPage t_tape t_cuts t_letters t_queue t_busyTo t_servedIn t_waysOn t_costOn t_aheads t_seen t_isKept t_lanes t_lengths t_cells) → va_S A s.heap H locs → ∀ ls : Array Slot, lv_has ls 5 [(0, .ref qt), (1, .int x1_1), (2, .int x2_2), (3, .int x3_5), (4, .int x4_6)] → W p l e rmX9_rings s m av below meth c H locs 0 0 Q (F0 m 21 ls []) := by
          intro K63 hK63 n
          induction n with
          | zero =>
            intro x3_5 x4_6 hM
            rw [Mod_rings_L21] at hM
            cases hM
          | succ n ih =>
            intro x3_5 x4_6 hM H locs hP hD hS ls hl
            rw [Mod_rings_L21] at hM
            refine lv_iload hx hb dX9_rings_21 (lv_at hl 4 rfl) ?_
            refine lv_bipush (v := 49) hx hb dX9_rings_23 (by decide) ?_
            refine mr_icmp_ge (tgt := 63) hx hb hM dX9_rings_25 (by decide) (fun hM => ?_) (fun hM => ?_)
            · exact hK63 x3_5 hM _ _ hP hD hS ls (lv_sub hl [0, 1, 2, 3] rfl)
            · refine lv_iload_n hx hb dX9_rings_28 rfl (lv_at hl 3 rfl) ?_
              refine lv_iload_n hx hb dX9_rings_29 rfl (lv_at hl 3 rfl) ?_
              refine lv_iload hx hb dX9_rings_30 (lv_at hl 4 rfl) ?_
              refine lv_bipush (v := 7) hx hb dX9_rings_32 (by decide) ?_
              refine lv_irem hx hb dX9_rings_34 (by decide) ?_
              refine lv_ishr hx hb dX9_rings_35 ?_
              refine lv_iconst (v := 1) hx hb dX9_rings_36 (by decide) ?_
              refine lv_iand hx hb dX9_rings_37 ?_
              refine lv_iconst (v := 1) hx hb dX9_rings_38 (by decide) ?_
              refine mr_jn hM (fun j55_7 => ∀ (y_8 y_9 : Int32), j55_7 y_8 y_9 = some o → ∀ (H : Heap) (locs : List Loc), va_P D vwCl (w_Mod cI cB cZ cS cT qt qt_state qt_readPage qt_tape qt_cuts qt_letters qt_queue qt_busyTo qt_servedIn qt_waysOn qt_costOn qt_aheads qt_seen qt_isKept qt_lanes qt_lengths qt_cells t_hasLaw t_hasCounters t_highest t_taped t_fault t_broken t_brokenAt t_spot t_here t_token t_value t_queued t_payed t_bestWait t_bestWhom t_bestCoins t_seenMany t_torn t_state t_readPage t_tape t_cuts t_letters t_queue t_busyTo t_servedIn t_waysOn t_costOn t_aheads t_seen t_isKept t_lanes t_lengths t_cells) H → va_D A (w_Mod cI cB cZ cS cT qt qt_state qt_readPage qt_tape qt_cuts qt_letters qt_queue qt_busyTo qt_servedIn qt_waysOn qt_costOn qt_aheads qt_seen qt_isKept qt_lanes qt_lengths qt_cells t_hasLaw t_hasCounters t_highest t_taped t_fault t_broken t_brokenAt t_spot t_here t_token t_value t_queued t_payed t_bestWait t_bestWhom t_bestCoins t_seenMany t_torn t_state t_readPage t_tape t_cuts t_letters t_queue t_busyTo t_servedIn t_waysOn t_costOn t_aheads t_seen t_isKept t_lanes t_lengths t_cells) → va_S A s.heap H locs → ∀ ls : Array Slot, lv_has ls 5 [(0, .ref qt), (1, .int x1_1), (2, .int x2_2), (4, .int x4_6)] → W p l e rmX9_rings s m av below meth c H locs 0 0 Q (F0 m 55 ls [.int y_9, .int y_8])) (fun y_8 y_9 hM H locs hP hD hS ls hl => ?_) (fun j55_7 hj55_7 hM => ?_)
              · refine lv_ior hx hb dX9_rings_55 ?_
                refine mr_nmI hM (fun x3_10 hM => ?_)
                refine lv_istore_n (lv' := [(3, .int x3_10), (0, .ref qt), (1, .int x1_1), (2, .int x2_2), (4, .int x4_6)]) hx hb dX9_rings_56 rfl hl (by decide) rfl (fun ls hl => ?_)
                refine mr_iinc (k := 4) (d := 1) hx hb (fun x4_11 => [(4, .int x4_11), (3, .int x3_10), (0, .ref qt), (1, .int x1_1), (2, .int x2_2)]) hM (by decide) dX9_rings_57 hl rfl (by decide) (fun _ => rfl) (fun x4_11 hM ls hl => ?_)
                refine lv_goto (tgt := 21) hx hb dX9_rings_60 (by decide) ?_
                exact ih x3_10 x4_11 hM _ _ hP hD hS ls (lv_sub hl [2, 3, 4, 1, 0] rfl)
              · refine mr_icmp_ne (tgt := 54) hx hb hM dX9_rings_39 (by decide) (fun hM => ?_) (fun hM => ?_)
                · refine lv_iconst (v := 0) hx hb dX9_rings_54 (by decide) ?_
                  exact hj55_7 x3_5 0 hM _ _ hP hD hS ls (lv_sub hl [0, 1, 2, 4] rfl)
                · refine lv_aload_n hx hb dX9_rings_42 rfl (lv_at hl 0 rfl) ?_
                  refine lv_iload hx hb dX9_rings_43 (lv_at hl 4 rfl) ?_
                  refine lv_bipush (v := 7) hx hb dX9_rings_45 (by decide) ?_
                  refine lv_irem hx hb dX9_rings_47 (by decide) ?_
                  obtain ⟨o_12, hc, hM⟩ := bind_so hM
                  refine mr_callVi (As := [.int (x4_6 - x4_6 / 7 * 7)]) (rest := [.int x3_5]) (wr := []) ⟨hx, hb, hml, hown, hts⟩ (k_Mod_letsIn l D cI cB cZ cS cT qt qt_state qt_readPage qt_tape qt_cuts qt_letters qt_queue qt_busyTo qt_servedIn qt_waysOn qt_costOn qt_aheads qt_seen qt_isKept qt_lanes qt_lengths qt_cells t_hasLaw t_hasCounters t_highest t_taped t_fault t_broken t_brokenAt t_spot t_here t_token t_value t_queued t_payed t_bestWait t_bestWhom t_bestCoins t_seenMany t_torn t_state t_readPage t_tape t_cuts t_letters t_queue t_busyTo t_servedIn t_waysOn t_costOn t_aheads t_seen t_isKept t_lanes t_lengths t_cells (x4_6 - x4_6 / 7 * 7) _ hc) (cwV 1 hts gX9_rings_X9_letsIn rfl rfl rfl (by decide +kernel) ⟨Nat.le_of_ble_eq_true rfl, Nat.le_of_ble_eq_true rfl⟩) hK hP hD hS hA [0, 1, 2, 3, 4, 5, 6, 7, 8, 9, 10, 11, 12, 13, 14, 15, 16] [] [0, 1, 2, 3, 4, 5, 6, 7, 8, 9, 10, 11, 12, 13, 14, 15, 16] (w_Mod cI cB cZ cS cT qt qt_state qt_readPage qt_tape qt_cuts qt_letters qt_queue qt_busyTo qt_servedIn qt_waysOn qt_costOn qt_aheads qt_seen qt_isKept qt_lanes qt_lengths qt_cells t_hasLaw t_hasCounters t_highest t_taped t_fault t_broken t_brokenAt t_spot t_here t_token t_value t_queued t_payed t_bestWait t_bestWhom t_bestCoins t_seenMany t_torn t_state t_readPage t_tape t_cuts t_letters t_queue t_busyTo t_servedIn t_waysOn t_costOn t_aheads t_seen t_isKept t_lanes t_lengths t_cells) rfl rfl rfl rfl (by decide) rfl rfl 9 0 rfl rfl rfl rfl hl.1 rfl (Nat.le_of_ble_eq_true rfl) dX9_rings_48 ⟨Nat.zero_le _, Nat.zero_le _⟩ (fun H locs hP hD hS => ?_)
                  refine lv_goto (tgt := 55) hx hb dX9_rings_51 (by decide) ?_
                  exact hj55_7 x3_5 o_12 hM _ _ hP hD hS ls (lv_sub hl [0, 1, 2, 4] rfl)
        refine hL21 _ (fun x3_13 hM H locs hP hD hS ls hl => ?_) _ o_4 0 hM _ _ hP hD hS ls (lv_sub hl [2, 3, 4, 1, 0] rfl)
        refine lv_iload_n hx hb dX9_rings_63 rfl (lv_at hl 1 rfl) ?_
        refine lv_iload_n hx hb dX9_rings_64 rfl (lv_at hl 3 rfl) ?_
        refine lv_iconst (v := 1) hx hb dX9_rings_65 (by decide) ?_
        refine lv_iload_n hx hb dX9_rings_66 rfl (lv_at hl 2 rfl) ?_
        refine lv_ishl hx hb dX9_rings_67 ?_
        refine lv_iand hx hb dX9_rings_68 ?_
        refine lv_ior hx hb dX9_rings_69 ?_
        refine mr_nmI hM (fun x1_14 hM => ?_)
        refine lv_istore_n (lv' := [(1, .int x1_14), (0, .ref qt), (2, .int x2_2), (3, .int x3_13)]) hx hb dX9_rings_70 rfl hl (by decide) rfl (fun ls hl => ?_)
        refine mr_iinc (k := 2) (d := 1) hx hb (fun x2_15 => [(2, .int x2_15), (1, .int x1_14), (0, .ref qt), (3, .int x3_13)]) hM (by decide) dX9_rings_71 hl rfl (by decide) (fun _ => rfl) (fun x2_15 hM ls hl => ?_)
        refine lv_goto (tgt := 4) hx hb dX9_rings_74 (by decide) ?_
        exact ih x1_14 x2_15 hM _ _ hP hD hS ls (lv_sub hl [2, 1, 0] rfl)
  refine hL4 _ (fun x1_16 hM H locs hP hD hS ls hl => ?_) _ 0 0 hM _ _ hP hD hS ls (lv_sub hl [2, 1, 0] rfl)
  refine lv_iload_n hx hb dX9_rings_77 rfl (lv_at hl 0 rfl) ?_
  have hM := Option.some.inj hM
  subst hM
  exact mr_iret hx hb hr hlocks hQ hP hD hS rfl dX9_rings_78

abbrev rmX9_shop : Room := { frames := 5, cells := 0, slots := 0, locals := 117 }
set_option maxHeartbeats 40000000 in
set_option maxRecDepth 100000 in
theorem k_Mod_shop (l : Launch) (D : va_G) (cI cB cZ cS cT : ClassId) (qt qt_state qt_readPage qt_tape qt_cuts qt_letters qt_queue qt_busyTo qt_servedIn qt_waysOn qt_costOn qt_aheads qt_seen qt_isKept qt_lanes qt_lengths qt_cells : Nat) (t_hasLaw t_hasCounters t_highest t_taped t_fault t_broken t_brokenAt t_spot t_here t_token t_value t_queued t_payed t_bestWait t_bestWhom t_bestCoins t_seenMany t_torn : Int32) (t_state t_readPage t_tape t_cuts t_letters t_queue t_busyTo t_servedIn t_waysOn t_costOn t_aheads t_seen t_isKept t_lanes t_lengths t_cells : Nat → Int32) (p1 : Int32) (o : Int32 × (Nat → Int32) × (Nat → Int32) × (Nat → Int32)) (hM : Mod_shop p1 t_state t_waysOn t_costOn t_aheads = some o) : mtI l yX9_shop wsX9_shop rmX9_shop D (tys5 cI cB cZ cS cT) [.ref qt, .int p1] (w_Mod cI cB cZ cS cT qt qt_state qt_readPage qt_tape qt_cuts qt_letters qt_queue qt_busyTo qt_servedIn qt_waysOn qt_costOn qt_aheads qt_seen qt_isKept qt_lanes qt_lengths qt_cells t_hasLaw t_hasCounters t_highest t_taped t_fault t_broken t_brokenAt t_spot t_here t_token t_value t_queued t_payed t_bestWait t_bestWhom t_bestCoins t_seenMany t_torn t_state t_readPage t_tape t_cuts t_letters t_queue t_busyTo t_servedIn t_waysOn t_costOn t_aheads t_seen t_isKept t_lanes t_lengths t_cells) (w_Mod cI cB cZ cS cT qt qt_state qt_readPage qt_tape qt_cuts qt_letters qt_queue qt_busyTo qt_servedIn qt_waysOn qt_costOn qt_aheads qt_seen qt_isKept qt_lanes qt_lengths qt_cells t_hasLaw t_hasCounters t_highest t_taped t_fault t_broken t_brokenAt t_spot t_here t_token t_value t_queued t_payed t_bestWait t_bestWhom t_bestCoins t_seenMany t_torn t_state t_readPage t_tape t_cuts t_letters t_queue t_busyTo t_servedIn o.2.1 o.2.2.1 o.2.2.2 t_seen t_isKept t_lanes t_lengths t_cells) o.1 := by
  refine mtI.of (cc := cX9_shop) (maxL := 2) (ret := (some .int)) (by decide) rfl (Nat.le_of_ble_eq_true rfl) ?_
  intro p e s m below meth c A Q av hav hQ hx hb hr hml hown hts hlocks hK hP hD hA hS ls hl
  have hown : s.vm.findClass RX9 = some m.cls := hown
  have hl : lv_has ls 2 [(0, .ref qt), (1, .int p1)] := hl
  unfold Mod_shop at hM
  have inX9w : ∀ w ∈ u_ws RX9 TX9 34, w ∈ wsX9_shop := by decide +kernel
  have hf34 := hts (.fieldLink RX9 34 "LetsInModel" "waysOn" "[I") (by decide +kernel)
  have hf37 := hts (.fieldLink RX9 37 "LetsInModel" "costOn" "[I") (by decide +kernel)
  have hfc233 := hts (.constantLong RX9 233 10) (by decide +kernel)
  refine lv_iload_n hx hb dX9_shop_0 rfl (lv_at hl 1 rfl) ?_
  refine mr_jn hM (fun j25_1 => ∀ _u : Unit, j25_1 _u = some o → ∀ (H : Heap) (locs : List Loc), va_P D vwCl (w_Mod cI cB cZ cS cT qt qt_state qt_readPage qt_tape qt_cuts qt_letters qt_queue qt_busyTo qt_servedIn qt_waysOn qt_costOn qt_aheads qt_seen qt_isKept qt_lanes qt_lengths qt_cells t_hasLaw t_hasCounters t_highest t_taped t_fault t_broken t_brokenAt t_spot t_here t_token t_value t_queued t_payed t_bestWait t_bestWhom t_bestCoins t_seenMany t_torn t_state t_readPage t_tape t_cuts t_letters t_queue t_busyTo t_servedIn t_waysOn t_costOn t_aheads t_seen t_isKept t_lanes t_lengths t_cells) H → va_D A (w_Mod cI cB cZ cS cT qt qt_state qt_readPage qt_tape qt_cuts qt_letters qt_queue qt_busyTo qt_servedIn qt_waysOn qt_costOn qt_aheads qt_seen qt_isKept qt_lanes qt_lengths qt_cells t_hasLaw t_hasCounters t_highest t_taped t_fault t_broken t_brokenAt t_spot t_here t_token t_value t_queued t_payed t_bestWait t_bestWhom t_bestCoins t_seenMany t_torn t_state t_readPage t_tape t_cuts t_letters t_queue t_busyTo t_servedIn t_waysOn t_costOn t_aheads t_seen t_isKept t_lanes t_lengths t_cells) → va_S A s.heap H locs → ∀ ls : Array Slot, lv_has ls 2 [(0, .ref qt), (1, .int p1)] → W p l e rmX9_shop s m av below meth c H locs 0 0 Q (F0 m 25 ls [])) (fun _u hM H locs hP hD hS ls hl => ?_) (fun j25_1 hj25_1 hM => ?_)
  · refine lv_aload_n hx hb dX9_shop_25 rfl (lv_at hl 0 rfl) ?_
    obtain ⟨o_2, hc, hM⟩ := bind_so hM
    refine mr_callVv (As := []) (rest := []) (wr := []) ⟨hx, hb, hml, hown, hts⟩ (k_Mod_layOrders l D cI cB cZ cS cT qt qt_state qt_readPage qt_tape qt_cuts qt_letters qt_queue qt_busyTo qt_servedIn qt_waysOn qt_costOn qt_aheads qt_seen qt_isKept qt_lanes qt_lengths qt_cells t_hasLaw t_hasCounters t_highest t_taped t_fault t_broken t_brokenAt t_spot t_here t_token t_value t_queued t_payed t_bestWait t_bestWhom t_bestCoins t_seenMany t_torn t_state t_readPage t_tape t_cuts t_letters t_queue t_busyTo t_servedIn t_waysOn t_costOn t_aheads t_seen t_isKept t_lanes t_lengths t_cells  _ hc) (cwV 0 hts gX9_shop_X9_layOrders rfl rfl rfl (by decide +kernel) ⟨Nat.le_of_ble_eq_true rfl, Nat.le_of_ble_eq_true rfl⟩) hK hP hD hS hA [0, 1, 2, 3, 4, 5, 6, 7, 8, 9, 10, 11, 12, 13, 14, 15, 16] [] [0, 1, 2, 3, 4, 5, 6, 7, 8, 9, 10, 11, 12, 13, 14, 15, 16] (w_Mod cI cB cZ cS cT qt qt_state qt_readPage qt_tape qt_cuts qt_letters qt_queue qt_busyTo qt_servedIn qt_waysOn qt_costOn qt_aheads qt_seen qt_isKept qt_lanes qt_lengths qt_cells t_hasLaw t_hasCounters t_highest t_taped t_fault t_broken t_brokenAt t_spot t_here t_token t_value t_queued t_payed t_bestWait t_bestWhom t_bestCoins t_seenMany t_torn t_state t_readPage t_tape t_cuts t_letters t_queue t_busyTo t_servedIn o_2.1 o_2.2.1 o_2.2.2 t_seen t_isKept t_lanes t_lengths t_cells) rfl rfl rfl rfl (by decide) rfl rfl 9 0 rfl rfl rfl rfl hl.1 rfl (Nat.le_of_ble_eq_true rfl) dX9_shop_26 ⟨Nat.zero_le _, Nat.zero_le _⟩ (fun H locs hP hD hS => ?_)
    refine lv_aload_n hx hb dX9_shop_29 rfl (lv_at hl 0 rfl) ?_
    refine va_get (D := D) (ci := 9) (v := .ref qt_waysOn) (C := RX9) (T := TX9) (N := 34) hx hb hts inX9w hown hK hP 0 rfl rfl 21 (by decide) hf34 (fun _ h9 => h9) rfl dX9_shop_30 ?_
    refine lv_iconst (v := 0) hx hb dX9_shop_33 (by decide) ?_
    refine mr_iald hx hb hK hP 9 0 rfl rfl hM dX9_shop_34 (fun v_3 hM => ?_)
    refine mr_if_ne (tgt := 43) hx hb hM dX9_shop_35 (by decide) (fun hM => ?_) (fun hM => ?_)
    · refine lv_iload_n hx hb dX9_shop_43 rfl (lv_at hl 1 rfl) ?_
      refine mr_if_ne (tgt := 56) hx hb hM dX9_shop_44 (by decide) (fun hM => ?_) (fun hM => ?_)
      · refine lv_aload_n hx hb dX9_shop_56 rfl (lv_at hl 0 rfl) ?_
        refine lv_iload_n hx hb dX9_shop_57 rfl (lv_at hl 1 rfl) ?_
        refine lv_bipush (v := 10) hx hb dX9_shop_58 (by decide) ?_
        refine lv_isub hx hb dX9_shop_60 ?_
        refine lv_iconst (v := 1) hx hb dX9_shop_61 (by decide) ?_
        obtain ⟨o_4, hc, hM⟩ := bind_so hM
        refine mr_callVi (As := [.int (p1 - 10), .int 1]) (rest := []) (wr := []) ⟨hx, hb, hml, hown, hts⟩ (k_Mod_inOrder l D cI cB cZ cS cT qt qt_state qt_readPage qt_tape qt_cuts qt_letters qt_queue qt_busyTo qt_servedIn qt_waysOn qt_costOn qt_aheads qt_seen qt_isKept qt_lanes qt_lengths qt_cells t_hasLaw t_hasCounters t_highest t_taped t_fault t_broken t_brokenAt t_spot t_here t_token t_value t_queued t_payed t_bestWait t_bestWhom t_bestCoins t_seenMany t_torn t_state t_readPage t_tape t_cuts t_letters t_queue t_busyTo t_servedIn o_2.1 o_2.2.1 o_2.2.2 t_seen t_isKept t_lanes t_lengths t_cells (p1 - 10) 1 _ hc) (cwV 2 hts gX9_shop_X9_inOrder rfl rfl rfl (by decide +kernel) ⟨Nat.le_of_ble_eq_true rfl, Nat.le_of_ble_eq_true rfl⟩) hK hP hD hS hA [0, 1, 2, 3, 4, 5, 6, 7, 8, 9, 10, 11, 12, 13, 14, 15, 16] [] [0, 1, 2, 3, 4, 5, 6, 7, 8, 9, 10, 11, 12, 13, 14, 15, 16] (w_Mod cI cB cZ cS cT qt qt_state qt_readPage qt_tape qt_cuts qt_letters qt_queue qt_busyTo qt_servedIn qt_waysOn qt_costOn qt_aheads qt_seen qt_isKept qt_lanes qt_lengths qt_cells t_hasLaw t_hasCounters t_highest t_taped t_fault t_broken t_brokenAt t_spot t_here t_token t_value t_queued t_payed t_bestWait t_bestWhom t_bestCoins t_seenMany t_torn t_state t_readPage t_tape t_cuts t_letters t_queue t_busyTo t_servedIn o_2.1 o_2.2.1 o_2.2.2 t_seen t_isKept t_lanes t_lengths t_cells) rfl rfl rfl rfl (by decide) rfl rfl 9 0 rfl rfl rfl rfl hl.1 rfl (Nat.le_of_ble_eq_true rfl) dX9_shop_62 ⟨Nat.zero_le _, Nat.zero_le _⟩ (fun H locs hP hD hS => ?_)
        have hM := Option.some.inj hM
        subst hM
        exact mr_iret hx hb hr hlocks hQ hP hD hS rfl dX9_shop_65
      · refine lv_aload_n hx hb dX9_shop_47 rfl (lv_at hl 0 rfl) ?_
        refine va_get (D := D) (ci := 9) (v := .ref qt_costOn) (C := RX9) (T := TX9) (N := 34) hx hb hts inX9w hown hK hP 0 rfl rfl 22 (by decide) hf37 (fun _ h9 => h9) rfl dX9_shop_48 ?_
        refine lv_iconst (v := 0) hx hb dX9_shop_51 (by decide) ?_
        refine mr_iald hx hb hK hP 10 0 rfl rfl hM dX9_shop_52 (fun v_5 hM => ?_)
        refine lv_goto (tgt := 65) hx hb dX9_shop_53 (by decide) ?_
        have hM := Option.some.inj hM
        subst hM
        exact mr_iret hx hb hr hlocks hQ hP hD hS rfl dX9_shop_65
    · refine lv_bipush (v := (-4)) hx hb dX9_shop_38 (by decide) ?_
      refine lv_goto (tgt := 65) hx hb dX9_shop_40 (by decide) ?_
      have hM := Option.some.inj hM
      subst hM
      exact mr_iret hx hb hr hlocks hQ hP hD hS rfl dX9_shop_65
  · refine mr_if_eq (tgt := 25) hx hb hM dX9_shop_1 (by decide) (fun hM => ?_) (fun hM => ?_)
    · exact hj25_1 () hM _ _ hP hD hS ls (lv_sub hl [0, 1] rfl)
    · refine lv_iload_n hx hb dX9_shop_4 rfl (lv_at hl 1 rfl) ?_
      refine lv_i2l hx hb dX9_shop_5 rfl ?_
      refine lv_ldc2 (v := 10) hx hb hown hfc233 dX9_shop_6 ?_
      refine lv_bipush (v := 9) hx hb dX9_shop_9 (by decide) ?_
      refine lv_aload_n hx hb dX9_shop_11 rfl (lv_at hl 0 rfl) ?_
      obtain ⟨o_6, hc, hM⟩ := bind_so hM
      refine mr_callVi (As := []) (rest := [.int 9, .long 10, .long p1.toInt64]) (wr := []) ⟨hx, hb, hml, hown, hts⟩ (k_Mod_many l D cI cB cZ cS cT qt qt_state qt_readPage qt_tape qt_cuts qt_letters qt_queue qt_busyTo qt_servedIn qt_waysOn qt_costOn qt_aheads qt_seen qt_isKept qt_lanes qt_lengths qt_cells t_hasLaw t_hasCounters t_highest t_taped t_fault t_broken t_brokenAt t_spot t_here t_token t_value t_queued t_payed t_bestWait t_bestWhom t_bestCoins t_seenMany t_torn t_state t_readPage t_tape t_cuts t_letters t_queue t_busyTo t_servedIn t_waysOn t_costOn t_aheads t_seen t_isKept t_lanes t_lengths t_cells  _ hc) (cwV 0 hts gX9_shop_X9_many rfl rfl rfl (by decide +kernel) ⟨Nat.le_of_ble_eq_true rfl, Nat.le_of_ble_eq_true rfl⟩) hK hP hD hS hA [0, 1, 2, 3, 4, 5, 6, 7, 8, 9, 10, 11, 12, 13, 14, 15, 16] [] [0, 1, 2, 3, 4, 5, 6, 7, 8, 9, 10, 11, 12, 13, 14, 15, 16] (w_Mod cI cB cZ cS cT qt qt_state qt_readPage qt_tape qt_cuts qt_letters qt_queue qt_busyTo qt_servedIn qt_waysOn qt_costOn qt_aheads qt_seen qt_isKept qt_lanes qt_lengths qt_cells t_hasLaw t_hasCounters t_highest t_taped t_fault t_broken t_brokenAt t_spot t_here t_token t_value t_queued t_payed t_bestWait t_bestWhom t_bestCoins t_seenMany t_torn t_state t_readPage t_tape t_cuts t_letters t_queue t_busyTo t_servedIn t_waysOn t_costOn t_aheads t_seen t_isKept t_lanes t_lengths t_cells) rfl rfl rfl rfl (by decide) rfl rfl 9 0 rfl rfl rfl rfl hl.1 rfl (Nat.le_of_ble_eq_true rfl) dX9_shop_12 ⟨Nat.zero_le _, Nat.zero_le _⟩ (fun H locs hP hD hS => ?_)
      refine lv_iadd hx hb dX9_shop_15 ?_
      refine lv_i2l hx hb dX9_shop_16 rfl ?_
      obtain ⟨o_7, hc, hM⟩ := bind_so hM
      refine mr_callSi (As := [.long p1.toInt64, .long 10, .long ((9 + o_6).toInt64)]) (rest := []) ⟨hx, hb, hml, hown, hts⟩ (k_Mod_in l D cI cB cZ cS cT   p1.toInt64 10 ((9 + o_6).toInt64) _ hc) (cwS 3 hts gX9_shop_X9_in rfl rfl rfl (by decide +kernel) ⟨Nat.le_of_ble_eq_true rfl, Nat.le_of_ble_eq_true rfl⟩) hK hP hD hS hA rfl hl.1 rfl (Nat.le_of_ble_eq_true rfl) dX9_shop_17 ⟨Nat.zero_le _, Nat.zero_le _⟩ (fun H locs hP hS => ?_)
      refine mr_if_ne (tgt := 25) hx hb hM dX9_shop_20 (by decide) (fun hM => ?_) (fun hM => ?_)
      · exact hj25_1 () hM _ _ hP hD hS ls (lv_sub hl [0, 1] rfl)
      · refine lv_iconst (v := (-1)) hx hb dX9_shop_23 (by decide) ?_
        have hM := Option.some.inj hM
        subst hM
        exact mr_iret hx hb hr hlocks hQ hP hD hS rfl dX9_shop_24

abbrev rmX9_clear : Room := { frames := 5, cells := 0, slots := 0, locals := 121 }
set_option maxHeartbeats 40000000 in
set_option maxRecDepth 100000 in
theorem k_Mod_clear (l : Launch) (D : va_G) (cI cB cZ cS cT : ClassId) (qt qt_state qt_readPage qt_tape qt_cuts qt_letters qt_queue qt_busyTo qt_servedIn qt_waysOn qt_costOn qt_aheads qt_seen qt_isKept qt_lanes qt_lengths qt_cells : Nat) (t_hasLaw t_hasCounters t_highest t_taped t_fault t_broken t_brokenAt t_spot t_here t_token t_value t_queued t_payed t_bestWait t_bestWhom t_bestCoins t_seenMany t_torn : Int32) (t_state t_readPage t_tape t_cuts t_letters t_queue t_busyTo t_servedIn t_waysOn t_costOn t_aheads t_seen t_isKept t_lanes t_lengths t_cells : Nat → Int32) (p1 p2 p3 : Int32) (o : Int32 × Int32 × Int32 × (Nat → Int32) × (Nat → Int32) × (Nat → Int32) × (Nat → Int32)) (hM : Mod_clear p1 p2 p3 t_queued t_payed t_state t_queue t_busyTo t_servedIn = some o) : mtI l yX9_clear wsX9_clear rmX9_clear D (tys5 cI cB cZ cS cT) [.ref qt, .int p1, .int p2, .int p3] (w_Mod cI cB cZ cS cT qt qt_state qt_readPage qt_tape qt_cuts qt_letters qt_queue qt_busyTo qt_servedIn qt_waysOn qt_costOn qt_aheads qt_seen qt_isKept qt_lanes qt_lengths qt_cells t_hasLaw t_hasCounters t_highest t_taped t_fault t_broken t_brokenAt t_spot t_here t_token t_value t_queued t_payed t_bestWait t_bestWhom t_bestCoins t_seenMany t_torn t_state t_readPage t_tape t_cuts t_letters t_queue t_busyTo t_servedIn t_waysOn t_costOn t_aheads t_seen t_isKept t_lanes t_lengths t_cells) (w_Mod cI cB cZ cS cT qt qt_state qt_readPage qt_tape qt_cuts qt_letters qt_queue qt_busyTo qt_servedIn qt_waysOn qt_costOn qt_aheads qt_seen qt_isKept qt_lanes qt_lengths qt_cells t_hasLaw t_hasCounters t_highest t_taped t_fault t_broken t_brokenAt t_spot t_here t_token t_value o.2.1 o.2.2.1 t_bestWait t_bestWhom t_bestCoins t_seenMany t_torn o.2.2.2.1 t_readPage t_tape t_cuts t_letters o.2.2.2.2.1 o.2.2.2.2.2.1 o.2.2.2.2.2.2 t_waysOn t_costOn t_aheads t_seen t_isKept t_lanes t_lengths t_cells) o.1 := by
  refine mtI.of (cc := cX9_clear) (maxL := 10) (ret := (some .int)) (by decide) rfl (Nat.le_of_ble_eq_true rfl) ?_
  intro p e s m below meth c A Q av hav hQ hx hb hr hml hown hts hlocks hK hP hD hA hS ls hl
  have hown : s.vm.findClass RX9 = some m.cls := hown
  have hl : lv_has ls 10 [(0, .ref qt), (1, .int p1), (2, .int p2), (3, .int p3)] := hl
  unfold Mod_clear at hM
  have inX9w : ∀ w ∈ u_ws RX9 TX9 34, w ∈ wsX9_clear := by decide +kernel
  have hfc213 := hts (.constantLong RX9 213 130) (by decide +kernel)
  have hf7 := hts (.fieldLink RX9 7 "LetsInModel" "state" "[I") (by decide +kernel)
  have hf31 := hts (.fieldLink RX9 31 "LetsInModel" "servedIn" "[I") (by decide +kernel)
  refine lv_aload_n hx hb dX9_clear_0 rfl (lv_at hl 0 rfl) ?_
  refine lv_iload_n hx hb dX9_clear_1 rfl (lv_at hl 1 rfl) ?_
  obtain ⟨o_1, hc, hM⟩ := bind_so hM
  refine mr_callVi (As := [.int p1]) (rest := []) (wr := []) ⟨hx, hb, hml, hown, hts⟩ (k_Mod_isOne l D cI cB cZ cS cT qt qt_state qt_readPage qt_tape qt_cuts qt_letters qt_queue qt_busyTo qt_servedIn qt_waysOn qt_costOn qt_aheads qt_seen qt_isKept qt_lanes qt_lengths qt_cells t_hasLaw t_hasCounters t_highest t_taped t_fault t_broken t_brokenAt t_spot t_here t_token t_value t_queued t_payed t_bestWait t_bestWhom t_bestCoins t_seenMany t_torn t_state t_readPage t_tape t_cuts t_letters t_queue t_busyTo t_servedIn t_waysOn t_costOn t_aheads t_seen t_isKept t_lanes t_lengths t_cells p1 _ hc) (cwV 1 hts gX9_clear_X9_isOne rfl rfl rfl (by decide +kernel) ⟨Nat.le_of_ble_eq_true rfl, Nat.le_of_ble_eq_true rfl⟩) hK hP hD hS hA [0, 1, 2, 3, 4, 5, 6, 7, 8, 9, 10, 11, 12, 13, 14, 15, 16] [] [0, 1, 2, 3, 4, 5, 6, 7, 8, 9, 10, 11, 12, 13, 14, 15, 16] (w_Mod cI cB cZ cS cT qt qt_state qt_readPage qt_tape qt_cuts qt_letters qt_queue qt_busyTo qt_servedIn qt_waysOn qt_costOn qt_aheads qt_seen qt_isKept qt_lanes qt_lengths qt_cells t_hasLaw t_hasCounters t_highest t_taped t_fault t_broken t_brokenAt t_spot t_here t_token t_value t_queued t_payed t_bestWait t_bestWhom t_bestCoins t_seenMany t_torn t_state t_readPage t_tape t_cuts t_letters t_queue t_busyTo t_servedIn t_waysOn t_costOn t_aheads t_seen t_isKept t_lanes t_lengths t_cells) rfl rfl rfl rfl (by decide) rfl rfl 9 0 rfl rfl rfl rfl hl.1 rfl (Nat.le_of_ble_eq_true rfl) dX9_clear_2 ⟨Nat.zero_le _, Nat.zero_le _⟩ (fun H locs hP hD hS => ?_)
  refine mr_if_eq (tgt := 30) hx hb hM dX9_clear_5 (by decide) (fun hM => ?_) (fun hM => ?_)
  · refine lv_iconst (v := (-1)) hx hb dX9_clear_30 (by decide) ?_
    have hM := Option.some.inj hM
    subst hM
    exact mr_iret hx hb hr hlocks hQ hP hD hS rfl dX9_clear_31
  · refine lv_iload_n hx hb dX9_clear_8 rfl (lv_at hl 2 rfl) ?_
    refine lv_i2l hx hb dX9_clear_9 rfl ?_
    refine lv_lconst (v := 0) hx hb dX9_clear_10 (by decide) ?_
    refine lv_ldc2 (v := 130) hx hb hown hfc213 dX9_clear_11 ?_
    obtain ⟨o_2, hc, hM⟩ := bind_so hM
    refine mr_callSi (As := [.long p2.toInt64, .long 0, .long 130]) (rest := []) ⟨hx, hb, hml, hown, hts⟩ (k_Mod_in l D cI cB cZ cS cT   p2.toInt64 0 130 _ hc) (cwS 3 hts gX9_clear_X9_in rfl rfl rfl (by decide +kernel) ⟨Nat.le_of_ble_eq_true rfl, Nat.le_of_ble_eq_true rfl⟩) hK hP hD hS hA rfl hl.1 rfl (Nat.le_of_ble_eq_true rfl) dX9_clear_14 ⟨Nat.zero_le _, Nat.zero_le _⟩ (fun H locs hP hS => ?_)
    refine mr_if_eq (tgt := 30) hx hb hM dX9_clear_17 (by decide) (fun hM => ?_) (fun hM => ?_)
    · refine lv_iconst (v := (-1)) hx hb dX9_clear_30 (by decide) ?_
      have hM := Option.some.inj hM
      subst hM
      exact mr_iret hx hb hr hlocks hQ hP hD hS rfl dX9_clear_31
    · refine lv_iload_n hx hb dX9_clear_20 rfl (lv_at hl 3 rfl) ?_
      refine lv_i2l hx hb dX9_clear_21 rfl ?_
      refine lv_lconst (v := 0) hx hb dX9_clear_22 (by decide) ?_
      refine lv_lconst (v := 1) hx hb dX9_clear_23 (by decide) ?_
      obtain ⟨o_3, hc, hM⟩ := bind_so hM
      refine mr_callSi (As := [.long p3.toInt64, .long 0, .long 1]) (rest := []) ⟨hx, hb, hml, hown, hts⟩ (k_Mod_in l D cI cB cZ cS cT   p3.toInt64 0 1 _ hc) (cwS 3 hts gX9_clear_X9_in rfl rfl rfl (by decide +kernel) ⟨Nat.le_of_ble_eq_true rfl, Nat.le_of_ble_eq_true rfl⟩) hK hP hD hS hA rfl hl.1 rfl (Nat.le_of_ble_eq_true rfl) dX9_clear_24 ⟨Nat.zero_le _, Nat.zero_le _⟩ (fun H locs hP hS => ?_)
      refine mr_if_ne (tgt := 32) hx hb hM dX9_clear_27 (by decide) (fun hM => ?_) (fun hM => ?_)
      · refine lv_iconst (v := 0) hx hb dX9_clear_32 (by decide) ?_
        refine lv_istore (lv' := [(4, .int 0), (0, .ref qt), (1, .int p1), (2, .int p2), (3, .int p3)]) hx hb dX9_clear_33 hl (by decide) rfl (fun ls hl => ?_)
        refine lv_iconst (v := 0) hx hb dX9_clear_35 (by decide) ?_
        refine lv_istore (lv' := [(5, .int 0), (4, .int 0), (0, .ref qt), (1, .int p1), (2, .int p2), (3, .int p3)]) hx hb dX9_clear_36 hl (by decide) rfl (fun ls hl => ?_)
        have hL38 : ∀ (K86 : Int32 → Option (Int32 × Int32 × Int32 × (Nat → Int32) × (Nat → Int32) × (Nat → Int32) × (Nat → Int32))), (∀ (x4_16 : Int32), K86 x4_16 = some o → ∀ (H : Heap) (locs : List Loc), va_P D vwCl (w_Mod cI cB cZ cS cT qt qt_state qt_readPage qt_tape qt_cuts qt_letters qt_queue qt_busyTo qt_servedIn qt_waysOn qt_costOn qt_aheads qt_seen qt_isKept qt_lanes qt_lengths qt_cells t_hasLaw t_hasCounters t_highest t_taped t_fault t_broken t_brokenAt t_spot t_here t_token t_value t_queued t_payed t_bestWait t_bestWhom t_bestCoins t_seenMany t_torn t_state t_readPage t_tape t_cuts t_letters t_queue t_busyTo t_servedIn t_waysOn t_costOn t_aheads t_seen t_isKept t_lanes t_lengths t_cells) H → va_D A (w_Mod cI cB cZ cS cT qt qt_state qt_readPage qt_tape qt_cuts qt_letters qt_queue qt_busyTo qt_servedIn qt_waysOn qt_costOn qt_aheads qt_seen qt_isKept qt_lanes qt_lengths qt_cells t_hasLaw t_hasCounters t_highest t_taped t_fault t_broken t_brokenAt t_spot t_here t_token t_value t_queued t_payed t_bestWait t_bestWhom t_bestCoins t_seenMany t_torn t_state t_readPage t_tape t_cuts t_letters t_queue t_busyTo t_servedIn t_waysOn t_costOn t_aheads t_seen t_isKept t_lanes t_lengths t_cells) → va_S A s.heap H locs → ∀ ls : Array Slot, lv_has ls 10 [(0, .ref qt), (1, .int p1), (2, .int p2), (3, .int p3), (4, .int x4_16)] → W p l e rmX9_clear s m av below meth c H locs 0 0 Q (F0 m 86 ls [])) → ∀ (n : Nat) (x4_4 x5_5 : Int32), Mod_clear_L38 t_state p1 K86 n x4_4 x5_5 = some o → ∀ (H : Heap) (locs : List Loc), va_P D vwCl (w_Mod cI cB cZ cS cT qt qt_state qt_readPage qt_tape qt_cuts qt_letters qt_queue qt_busyTo qt_servedIn qt_waysOn qt_costOn qt_aheads qt_seen qt_isKept qt_lanes qt_lengths qt_cells t_hasLaw t_hasCounters t_highest t_taped t_fault t_broken t_brokenAt t_spot t_here t_token t_value t_queued t_payed t_bestWait t_bestWhom t_bestCoins t_seenMany t_torn t_state t_readPage t_tape t_cuts t_letters t_queue t_busyTo t_servedIn t_waysOn t_costOn t_aheads t_seen t_isKept t_lanes t_lengths t_cells) H → va_D A (w_Mod cI cB cZ cS cT qt qt_state qt_readPage qt_tape qt_cuts qt_letters qt_queue qt_busyTo qt_servedIn qt_waysOn qt_costOn qt_aheads qt_seen qt_isKept qt_lanes qt_lengths qt_cells t_hasLaw t_hasCounters t_highest t_taped t_fault t_broken t_brokenAt t_spot t_here t_token t_value t_queued t_payed t_bestWait t_bestWhom t_bestCoins t_seenMany t_torn t_state t_readPage t_tape t_cuts t_letters t_queue t_busyTo t_servedIn t_waysOn t_costOn t_aheads t_seen t_isKept t_lanes t_lengths t_cells) → va_S A s.heap H locs → ∀ ls : Array Slot, lv_has ls 10 [(0, .ref qt), (1, .int p1), (2, .int p2), (3, .int p3), (4, .int x4_4), (5, .int x5_5)] → W p l e rmX9_clear s m av below meth c H locs 0 0 Q (F0 m 38 ls []) := by
          intro K86 hK86 n
          induction n with
          | zero =>
            intro x4_4 x5_5 hM
            rw [Mod_clear_L38] at hM
            cases hM
          | succ n ih =>
            intro x4_4 x5_5 hM H locs hP hD hS ls hl
            rw [Mod_clear_L38] at hM
            refine lv_iload hx hb dX9_clear_38 (lv_at hl 5 rfl) ?_
            refine lv_aload_n hx hb dX9_clear_40 rfl (lv_at hl 0 rfl) ?_
            obtain ⟨o_6, hc, hM⟩ := bind_so hM
            refine mr_callVi (As := []) (rest := [.int x5_5]) (wr := []) ⟨hx, hb, hml, hown, hts⟩ (k_Mod_many l D cI cB cZ cS cT qt qt_state qt_readPage qt_tape qt_cuts qt_letters qt_queue qt_busyTo qt_servedIn qt_waysOn qt_costOn qt_aheads qt_seen qt_isKept qt_lanes qt_lengths qt_cells t_hasLaw t_hasCounters t_highest t_taped t_fault t_broken t_brokenAt t_spot t_here t_token t_value t_queued t_payed t_bestWait t_bestWhom t_bestCoins t_seenMany t_torn t_state t_readPage t_tape t_cuts t_letters t_queue t_busyTo t_servedIn t_waysOn t_costOn t_aheads t_seen t_isKept t_lanes t_lengths t_cells  _ hc) (cwV 0 hts gX9_clear_X9_many rfl rfl rfl (by decide +kernel) ⟨Nat.le_of_ble_eq_true rfl, Nat.le_of_ble_eq_true rfl⟩) hK hP hD hS hA [0, 1, 2, 3, 4, 5, 6, 7, 8, 9, 10, 11, 12, 13, 14, 15, 16] [] [0, 1, 2, 3, 4, 5, 6, 7, 8, 9, 10, 11, 12, 13, 14, 15, 16] (w_Mod cI cB cZ cS cT qt qt_state qt_readPage qt_tape qt_cuts qt_letters qt_queue qt_busyTo qt_servedIn qt_waysOn qt_costOn qt_aheads qt_seen qt_isKept qt_lanes qt_lengths qt_cells t_hasLaw t_hasCounters t_highest t_taped t_fault t_broken t_brokenAt t_spot t_here t_token t_value t_queued t_payed t_bestWait t_bestWhom t_bestCoins t_seenMany t_torn t_state t_readPage t_tape t_cuts t_letters t_queue t_busyTo t_servedIn t_waysOn t_costOn t_aheads t_seen t_isKept t_lanes t_lengths t_cells) rfl rfl rfl rfl (by decide) rfl rfl 9 0 rfl rfl rfl rfl hl.1 rfl (Nat.le_of_ble_eq_true rfl) dX9_clear_41 ⟨Nat.zero_le _, Nat.zero_le _⟩ (fun H locs hP hD hS => ?_)
            refine mr_icmp_ge (tgt := 86) hx hb hM dX9_clear_44 (by decide) (fun hM => ?_) (fun hM => ?_)
            · exact hK86 x4_4 hM _ _ hP hD hS ls (lv_sub hl [0, 1, 2, 3, 4] rfl)
            · refine lv_iload hx hb dX9_clear_47 (lv_at hl 4 rfl) ?_
              refine lv_iload hx hb dX9_clear_49 (lv_at hl 5 rfl) ?_
              refine lv_iload_n hx hb dX9_clear_51 rfl (lv_at hl 1 rfl) ?_
              refine mr_jn hM (fun j77_7 => ∀ (y_8 y_9 : Int32), j77_7 y_8 y_9 = some o → ∀ (H : Heap) (locs : List Loc), va_P D vwCl (w_Mod cI cB cZ cS cT qt qt_state qt_readPage qt_tape qt_cuts qt_letters qt_queue qt_busyTo qt_servedIn qt_waysOn qt_costOn qt_aheads qt_seen qt_isKept qt_lanes qt_lengths qt_cells t_hasLaw t_hasCounters t_highest t_taped t_fault t_broken t_brokenAt t_spot t_here t_token t_value t_queued t_payed t_bestWait t_bestWhom t_bestCoins t_seenMany t_torn t_state t_readPage t_tape t_cuts t_letters t_queue t_busyTo t_servedIn t_waysOn t_costOn t_aheads t_seen t_isKept t_lanes t_lengths t_cells) H → va_D A (w_Mod cI cB cZ cS cT qt qt_state qt_readPage qt_tape qt_cuts qt_letters qt_queue qt_busyTo qt_servedIn qt_waysOn qt_costOn qt_aheads qt_seen qt_isKept qt_lanes qt_lengths qt_cells t_hasLaw t_hasCounters t_highest t_taped t_fault t_broken t_brokenAt t_spot t_here t_token t_value t_queued t_payed t_bestWait t_bestWhom t_bestCoins t_seenMany t_torn t_state t_readPage t_tape t_cuts t_letters t_queue t_busyTo t_servedIn t_waysOn t_costOn t_aheads t_seen t_isKept t_lanes t_lengths t_cells) → va_S A s.heap H locs → ∀ ls : Array Slot, lv_has ls 10 [(0, .ref qt), (1, .int p1), (2, .int p2), (3, .int p3), (5, .int x5_5)] → W p l e rmX9_clear s m av below meth c H locs 0 0 Q (F0 m 77 ls [.int y_9, .int y_8])) (fun y_8 y_9 hM H locs hP hD hS ls hl => ?_) (fun j77_7 hj77_7 hM => ?_)
              · refine lv_ior hx hb dX9_clear_77 ?_
                refine mr_nmI hM (fun x4_10 hM => ?_)
                refine lv_istore (lv' := [(4, .int x4_10), (0, .ref qt), (1, .int p1), (2, .int p2), (3, .int p3), (5, .int x5_5)]) hx hb dX9_clear_78 hl (by decide) rfl (fun ls hl => ?_)
                refine mr_iinc (k := 5) (d := 1) hx hb (fun x5_11 => [(5, .int x5_11), (4, .int x4_10), (0, .ref qt), (1, .int p1), (2, .int p2), (3, .int p3)]) hM (by decide) dX9_clear_80 hl rfl (by decide) (fun _ => rfl) (fun x5_11 hM ls hl => ?_)
                refine lv_goto (tgt := 38) hx hb dX9_clear_83 (by decide) ?_
                exact ih x4_10 x5_11 hM _ _ hP hD hS ls (lv_sub hl [2, 3, 4, 5, 1, 0] rfl)
              · refine mr_jn hM (fun j76_12 => ∀ (y_13 : Int32), j76_12 y_13 = some o → ∀ (H : Heap) (locs : List Loc), va_P D vwCl (w_Mod cI cB cZ cS cT qt qt_state qt_readPage qt_tape qt_cuts qt_letters qt_queue qt_busyTo qt_servedIn qt_waysOn qt_costOn qt_aheads qt_seen qt_isKept qt_lanes qt_lengths qt_cells t_hasLaw t_hasCounters t_highest t_taped t_fault t_broken t_brokenAt t_spot t_here t_token t_value t_queued t_payed t_bestWait t_bestWhom t_bestCoins t_seenMany t_torn t_state t_readPage t_tape t_cuts t_letters t_queue t_busyTo t_servedIn t_waysOn t_costOn t_aheads t_seen t_isKept t_lanes t_lengths t_cells) H → va_D A (w_Mod cI cB cZ cS cT qt qt_state qt_readPage qt_tape qt_cuts qt_letters qt_queue qt_busyTo qt_servedIn qt_waysOn qt_costOn qt_aheads qt_seen qt_isKept qt_lanes qt_lengths qt_cells t_hasLaw t_hasCounters t_highest t_taped t_fault t_broken t_brokenAt t_spot t_here t_token t_value t_queued t_payed t_bestWait t_bestWhom t_bestCoins t_seenMany t_torn t_state t_readPage t_tape t_cuts t_letters t_queue t_busyTo t_servedIn t_waysOn t_costOn t_aheads t_seen t_isKept t_lanes t_lengths t_cells) → va_S A s.heap H locs → ∀ ls : Array Slot, lv_has ls 10 [(0, .ref qt), (1, .int p1), (2, .int p2), (3, .int p3), (5, .int x5_5)] → W p l e rmX9_clear s m av below meth c H locs 0 0 Q (F0 m 76 ls [.int y_13])) (fun y_13 hM H locs hP hD hS ls hl => ?_) (fun j76_12 hj76_12 hM => ?_)
                · refine lv_iconst (v := 0) hx hb dX9_clear_76 (by decide) ?_
                  exact hj77_7 y_13 0 hM _ _ hP hD hS ls (lv_sub hl [0, 1, 2, 3, 4] rfl)
                · refine mr_icmp_eq (tgt := 76) hx hb hM dX9_clear_52 (by decide) (fun hM => ?_) (fun hM => ?_)
                  · exact hj76_12 x4_4 hM _ _ hP hD hS ls (lv_sub hl [0, 1, 2, 3, 5] rfl)
                  · refine lv_aload_n hx hb dX9_clear_55 rfl (lv_at hl 0 rfl) ?_
                    refine va_get (D := D) (ci := 9) (v := .ref qt_state) (C := RX9) (T := TX9) (N := 34) hx hb hts inX9w hown hK hP 0 rfl rfl 0 (by decide) hf7 (fun _ h9 => h9) rfl dX9_clear_56 ?_
                    refine lv_iload_n hx hb dX9_clear_59 rfl (lv_at hl 1 rfl) ?_
                    refine lv_iload hx hb dX9_clear_60 (lv_at hl 5 rfl) ?_
                    obtain ⟨o_14, hc, hM⟩ := bind_so hM
                    refine mr_callSi (As := [.int p1, .int x5_5]) (rest := [.ref qt_state, .int x4_4]) ⟨hx, hb, hml, hown, hts⟩ (k_Mod_debtAt l D cI cB cZ cS cT   p1 x5_5 _ hc) (cwS 2 hts gX9_clear_X9_debtAt rfl rfl rfl (by decide +kernel) ⟨Nat.le_of_ble_eq_true rfl, Nat.le_of_ble_eq_true rfl⟩) hK hP hD hS hA rfl hl.1 rfl (Nat.le_of_ble_eq_true rfl) dX9_clear_62 ⟨Nat.zero_le _, Nat.zero_le _⟩ (fun H locs hP hS => ?_)
                    refine mr_iald hx hb hK hP 1 0 rfl rfl hM dX9_clear_65 (fun v_15 hM => ?_)
                    refine mr_if_le (tgt := 76) hx hb hM dX9_clear_66 (by decide) (fun hM => ?_) (fun hM => ?_)
                    · exact hj76_12 x4_4 hM _ _ hP hD hS ls (lv_sub hl [0, 1, 2, 3, 5] rfl)
                    · refine lv_iconst (v := 1) hx hb dX9_clear_69 (by decide) ?_
                      refine lv_iload hx hb dX9_clear_70 (lv_at hl 5 rfl) ?_
                      refine lv_ishl hx hb dX9_clear_72 ?_
                      refine lv_goto (tgt := 77) hx hb dX9_clear_73 (by decide) ?_
                      exact hj77_7 x4_4 ((1 : Int32) <<< (x5_5 &&& 31)) hM _ _ hP hD hS ls (lv_sub hl [0, 1, 2, 3, 5] rfl)
        refine hL38 _ (fun x4_16 hM H locs hP hD hS ls hl => ?_) _ 0 0 hM _ _ hP hD hS ls (lv_sub hl [2, 3, 4, 5, 1, 0] rfl)
        refine lv_bipush (v := (-4)) hx hb dX9_clear_86 (by decide) ?_
        refine lv_istore (lv' := [(5, .int (-4)), (0, .ref qt), (1, .int p1), (2, .int p2), (3, .int p3), (4, .int x4_16)]) hx hb dX9_clear_88 hl (by decide) rfl (fun ls hl => ?_)
        refine lv_iconst (v := 0) hx hb dX9_clear_90 (by decide) ?_
        refine lv_istore (lv' := [(6, .int 0), (5, .int (-4)), (0, .ref qt), (1, .int p1), (2, .int p2), (3, .int p3), (4, .int x4_16)]) hx hb dX9_clear_91 hl (by decide) rfl (fun ls hl => ?_)
        refine lv_iconst (v := 0) hx hb dX9_clear_93 (by decide) ?_
        refine lv_istore (lv' := [(7, .int 0), (6, .int 0), (5, .int (-4)), (0, .ref qt), (1, .int p1), (2, .int p2), (3, .int p3), (4, .int x4_16)]) hx hb dX9_clear_94 hl (by decide) rfl (fun ls hl => ?_)
        have hL96 : ∀ (K254 : Int32 → Int32 → Int32 → Int32 → (Nat → Int32) → (Nat → Int32) → (Nat → Int32) → (Nat → Int32) → Option (Int32 × Int32 × Int32 × (Nat → Int32) × (Nat → Int32) × (Nat → Int32) × (Nat → Int32))), (∀ (x5_52 x6_53 t_queued_54 t_payed_55 : Int32) (t_state_56 t_queue_57 t_busyTo_58 t_servedIn_59 : Nat → Int32), K254 x5_52 x6_53 t_queued_54 t_payed_55 t_state_56 t_queue_57 t_busyTo_58 t_servedIn_59 = some o → ∀ (H : Heap) (locs : List Loc), va_P D vwCl (w_Mod cI cB cZ cS cT qt qt_state qt_readPage qt_tape qt_cuts qt_letters qt_queue qt_busyTo qt_servedIn qt_waysOn qt_costOn qt_aheads qt_seen qt_isKept qt_lanes qt_lengths qt_cells t_hasLaw t_hasCounters t_highest t_taped t_fault t_broken t_brokenAt t_spot t_here t_token t_value t_queued_54 t_payed_55 t_bestWait t_bestWhom t_bestCoins t_seenMany t_torn t_state_56 t_readPage t_tape t_cuts t_letters t_queue_57 t_busyTo_58 t_servedIn_59 t_waysOn t_costOn t_aheads t_seen t_isKept t_lanes t_lengths t_cells) H → va_D A (w_Mod cI cB cZ cS cT qt qt_state qt_readPage qt_tape qt_cuts qt_letters qt_queue qt_busyTo qt_servedIn qt_waysOn qt_costOn qt_aheads qt_seen qt_isKept qt_lanes qt_lengths qt_cells t_hasLaw t_hasCounters t_highest t_taped t_fault t_broken t_brokenAt t_spot t_here t_token t_value t_queued_54 t_payed_55 t_bestWait t_bestWhom t_bestCoins t_seenMany t_torn t_state_56 t_readPage t_tape t_cuts t_letters t_queue_57 t_busyTo_58 t_servedIn_59 t_waysOn t_costOn t_aheads t_seen t_isKept t_lanes t_lengths t_cells) → va_S A s.heap H locs → ∀ ls : Array Slot, lv_has ls 10 [(3, .int p3), (5, .int x5_52), (6, .int x6_53)] → W p l e rmX9_clear s m av below meth c H locs 0 0 Q (F0 m 254 ls [])) → ∀ (n : Nat) (x5_17 x6_18 x7_19 t_queued_20 t_payed_21 : Int32) (t_state_22 t_queue_23 t_busyTo_24 t_servedIn_25 : Nat → Int32), Mod_clear_L96 p1 p2 x4_16 K254 n x5_17 x6_18 x7_19 t_queued_20 t_payed_21 t_state_22 t_queue_23 t_busyTo_24 t_servedIn_25 = some o → ∀ (H : Heap) (locs : List Loc), va_P D vwCl (w_Mod cI cB cZ cS cT qt qt_state qt_readPage qt_tape qt_cuts qt_letters qt_queue qt_busyTo qt_servedIn qt_waysOn qt_costOn qt_aheads qt_seen qt_isKept qt_lanes qt_lengths qt_cells t_hasLaw t_hasCounters t_highest t_taped t_fault t_broken t_brokenAt t_spot t_here t_token t_value t_queued_20 t_payed_21 t_bestWait t_bestWhom t_bestCoins t_seenMany t_torn t_state_22 t_readPage t_tape t_cuts t_letters t_queue_23 t_busyTo_24 t_servedIn_25 t_waysOn t_costOn t_aheads t_seen t_isKept t_lanes t_lengths t_cells) H → va_D A (w_Mod cI cB cZ cS cT qt qt_state qt_readPage qt_tape qt_cuts qt_letters qt_queue qt_busyTo qt_servedIn qt_waysOn qt_costOn qt_aheads qt_seen qt_isKept qt_lanes qt_lengths qt_cells t_hasLaw t_hasCounters t_highest t_taped t_fault t_broken t_brokenAt t_spot t_here t_token t_value t_queued_20 t_payed_21 t_bestWait t_bestWhom t_bestCoins t_seenMany t_torn t_state_22 t_readPage t_tape t_cuts t_letters t_queue_23 t_busyTo_24 t_servedIn_25 t_waysOn t_costOn t_aheads t_seen t_isKept t_lanes t_lengths t_cells) → va_S A s.heap H locs → ∀ ls : Array Slot, lv_has ls 10 [(0, .ref qt), (1, .int p1), (2, .int p2), (3, .int p3), (4, .int x4_16), (5, .int x5_17), (6, .int x6_18), (7, .int x7_19)] → W p l e rmX9_clear s m av below meth c H locs 0 0 Q (F0 m 96 ls []) := by
          intro K254 hK254 n
          induction n with
          | zero =>
            intro x5_17 x6_18 x7_19 t_queued_20 t_payed_21 t_state_22 t_queue_23 t_busyTo_24 t_servedIn_25 hM
            rw [Mod_clear_L96] at hM
            cases hM
          | succ n ih =>
            intro x5_17 x6_18 x7_19 t_queued_20 t_payed_21 t_state_22 t_queue_23 t_busyTo_24 t_servedIn_25 hM H locs hP hD hS ls hl
            rw [Mod_clear_L96] at hM
            refine lv_iload hx hb dX9_clear_96 (lv_at hl 7 rfl) ?_
            refine lv_iconst (v := 1) hx hb dX9_clear_98 (by decide) ?_
            refine lv_aload_n hx hb dX9_clear_99 rfl (lv_at hl 0 rfl) ?_
            obtain ⟨o_26, hc, hM⟩ := bind_so hM
            refine mr_callVi (As := []) (rest := [.int 1, .int x7_19]) (wr := []) ⟨hx, hb, hml, hown, hts⟩ (k_Mod_many l D cI cB cZ cS cT qt qt_state qt_readPage qt_tape qt_cuts qt_letters qt_queue qt_busyTo qt_servedIn qt_waysOn qt_costOn qt_aheads qt_seen qt_isKept qt_lanes qt_lengths qt_cells t_hasLaw t_hasCounters t_highest t_taped t_fault t_broken t_brokenAt t_spot t_here t_token t_value t_queued_20 t_payed_21 t_bestWait t_bestWhom t_bestCoins t_seenMany t_torn t_state_22 t_readPage t_tape t_cuts t_letters t_queue_23 t_busyTo_24 t_servedIn_25 t_waysOn t_costOn t_aheads t_seen t_isKept t_lanes t_lengths t_cells  _ hc) (cwV 0 hts gX9_clear_X9_many rfl rfl rfl (by decide +kernel) ⟨Nat.le_of_ble_eq_true rfl, Nat.le_of_ble_eq_true rfl⟩) hK hP hD hS hA [0, 1, 2, 3, 4, 5, 6, 7, 8, 9, 10, 11, 12, 13, 14, 15, 16] [] [0, 1, 2, 3, 4, 5, 6, 7, 8, 9, 10, 11, 12, 13, 14, 15, 16] (w_Mod cI cB cZ cS cT qt qt_state qt_readPage qt_tape qt_cuts qt_letters qt_queue qt_busyTo qt_servedIn qt_waysOn qt_costOn qt_aheads qt_seen qt_isKept qt_lanes qt_lengths qt_cells t_hasLaw t_hasCounters t_highest t_taped t_fault t_broken t_brokenAt t_spot t_here t_token t_value t_queued_20 t_payed_21 t_bestWait t_bestWhom t_bestCoins t_seenMany t_torn t_state_22 t_readPage t_tape t_cuts t_letters t_queue_23 t_busyTo_24 t_servedIn_25 t_waysOn t_costOn t_aheads t_seen t_isKept t_lanes t_lengths t_cells) rfl rfl rfl rfl (by decide) rfl rfl 9 0 rfl rfl rfl rfl hl.1 rfl (Nat.le_of_ble_eq_true rfl) dX9_clear_100 ⟨Nat.zero_le _, Nat.zero_le _⟩ (fun H locs hP hD hS => ?_)
            refine lv_ishl hx hb dX9_clear_103 ?_
            refine mr_icmp_ge (tgt := 254) hx hb hM dX9_clear_104 (by decide) (fun hM => ?_) (fun hM => ?_)
            · exact hK254 x5_17 x6_18 t_queued_20 t_payed_21 t_state_22 t_queue_23 t_busyTo_24 t_servedIn_25 hM _ _ hP hD hS ls (lv_sub hl [3, 5, 6] rfl)
            · refine lv_iload hx hb dX9_clear_107 (lv_at hl 7 rfl) ?_
              refine lv_iload hx hb dX9_clear_109 (lv_at hl 4 rfl) ?_
              refine lv_iconst (v := (-1)) hx hb dX9_clear_111 (by decide) ?_
              refine lv_ixor hx hb dX9_clear_112 ?_
              refine lv_iand hx hb dX9_clear_113 ?_
              refine mr_if_ne (tgt := 248) hx hb hM dX9_clear_114 (by decide) (fun hM => ?_) (fun hM => ?_)
              · refine mr_iinc (k := 7) (d := 1) hx hb (fun x7_27 => [(7, .int x7_27), (0, .ref qt), (1, .int p1), (2, .int p2), (3, .int p3), (4, .int x4_16), (5, .int x5_17), (6, .int x6_18)]) hM (by decide) dX9_clear_248 hl rfl (by decide) (fun _ => rfl) (fun x7_27 hM ls hl => ?_)
                refine lv_goto (tgt := 96) hx hb dX9_clear_251 (by decide) ?_
                exact ih x5_17 x6_18 x7_27 t_queued_20 t_payed_21 t_state_22 t_queue_23 t_busyTo_24 t_servedIn_25 hM _ _ hP hD hS ls (lv_sub hl [1, 2, 3, 4, 5, 6, 7, 0] rfl)
              · refine lv_aload_n hx hb dX9_clear_117 rfl (lv_at hl 0 rfl) ?_
                refine lv_iconst (v := 0) hx hb dX9_clear_118 (by decide) ?_
                refine lv_sipush (v := 282) hx hb dX9_clear_119 (by decide) ?_
                obtain ⟨o_28, hc, hM⟩ := bind_so hM
                refine mr_callVv (As := [.int 0, .int 282]) (rest := []) (wr := []) ⟨hx, hb, hml, hown, hts⟩ (k_Mod_copies l D cI cB cZ cS cT qt qt_state qt_readPage qt_tape qt_cuts qt_letters qt_queue qt_busyTo qt_servedIn qt_waysOn qt_costOn qt_aheads qt_seen qt_isKept qt_lanes qt_lengths qt_cells t_hasLaw t_hasCounters t_highest t_taped t_fault t_broken t_brokenAt t_spot t_here t_token t_value t_queued_20 t_payed_21 t_bestWait t_bestWhom t_bestCoins t_seenMany t_torn t_state_22 t_readPage t_tape t_cuts t_letters t_queue_23 t_busyTo_24 t_servedIn_25 t_waysOn t_costOn t_aheads t_seen t_isKept t_lanes t_lengths t_cells 0 282 _ hc) (cwV 2 hts gX9_clear_X9_copies rfl rfl rfl (by decide +kernel) ⟨Nat.le_of_ble_eq_true rfl, Nat.le_of_ble_eq_true rfl⟩) hK hP hD hS hA [0, 1, 2, 3, 4, 5, 6, 7, 8, 9, 10, 11, 12, 13, 14, 15, 16] [] [0, 1, 2, 3, 4, 5, 6, 7, 8, 9, 10, 11, 12, 13, 14, 15, 16] (w_Mod cI cB cZ cS cT qt qt_state qt_readPage qt_tape qt_cuts qt_letters qt_queue qt_busyTo qt_servedIn qt_waysOn qt_costOn qt_aheads qt_seen qt_isKept qt_lanes qt_lengths qt_cells t_hasLaw t_hasCounters t_highest t_taped t_fault t_broken t_brokenAt t_spot t_here t_token t_value t_queued_20 t_payed_21 t_bestWait t_bestWhom t_bestCoins t_seenMany t_torn o_28 t_readPage t_tape t_cuts t_letters t_queue_23 t_busyTo_24 t_servedIn_25 t_waysOn t_costOn t_aheads t_seen t_isKept t_lanes t_lengths t_cells) rfl rfl rfl rfl (by decide) rfl rfl 9 0 rfl rfl rfl rfl hl.1 rfl (Nat.le_of_ble_eq_true rfl) dX9_clear_122 ⟨Nat.zero_le _, Nat.zero_le _⟩ (fun H locs hP hD hS => ?_)
                refine lv_iconst (v := 0) hx hb dX9_clear_125 (by decide) ?_
                refine lv_istore (lv' := [(8, .int 0), (0, .ref qt), (1, .int p1), (2, .int p2), (3, .int p3), (4, .int x4_16), (5, .int x5_17), (6, .int x6_18), (7, .int x7_19)]) hx hb dX9_clear_126 hl (by decide) rfl (fun ls hl => ?_)
                refine lv_iconst (v := 0) hx hb dX9_clear_128 (by decide) ?_
                refine lv_istore (lv' := [(9, .int 0), (8, .int 0), (0, .ref qt), (1, .int p1), (2, .int p2), (3, .int p3), (4, .int x4_16), (5, .int x5_17), (6, .int x6_18), (7, .int x7_19)]) hx hb dX9_clear_129 hl (by decide) rfl (fun ls hl => ?_)
                have hL131 : ∀ (K176 : Int32 → (Nat → Int32) → Option (Int32 × Int32 × Int32 × (Nat → Int32) × (Nat → Int32) × (Nat → Int32) × (Nat → Int32))), (∀ (x8_40 : Int32) (t_state_41 : Nat → Int32), K176 x8_40 t_state_41 = some o → ∀ (H : Heap) (locs : List Loc), va_P D vwCl (w_Mod cI cB cZ cS cT qt qt_state qt_readPage qt_tape qt_cuts qt_letters qt_queue qt_busyTo qt_servedIn qt_waysOn qt_costOn qt_aheads qt_seen qt_isKept qt_lanes qt_lengths qt_cells t_hasLaw t_hasCounters t_highest t_taped t_fault t_broken t_brokenAt t_spot t_here t_token t_value t_queued_20 t_payed_21 t_bestWait t_bestWhom t_bestCoins t_seenMany t_torn t_state_41 t_readPage t_tape t_cuts t_letters t_queue_23 t_busyTo_24 t_servedIn_25 t_waysOn t_costOn t_aheads t_seen t_isKept t_lanes t_lengths t_cells) H → va_D A (w_Mod cI cB cZ cS cT qt qt_state qt_readPage qt_tape qt_cuts qt_letters qt_queue qt_busyTo qt_servedIn qt_waysOn qt_costOn qt_aheads qt_seen qt_isKept qt_lanes qt_lengths qt_cells t_hasLaw t_hasCounters t_highest t_taped t_fault t_broken t_brokenAt t_spot t_here t_token t_value t_queued_20 t_payed_21 t_bestWait t_bestWhom t_bestCoins t_seenMany t_torn t_state_41 t_readPage t_tape t_cuts t_letters t_queue_23 t_busyTo_24 t_servedIn_25 t_waysOn t_costOn t_aheads t_seen t_isKept t_lanes t_lengths t_cells) → va_S A s.heap H locs → ∀ ls : Array Slot, lv_has ls 10 [(0, .ref qt), (1, .int p1), (2, .int p2), (3, .int p3), (4, .int x4_16), (5, .int x5_17), (6, .int x6_18), (7, .int x7_19), (8, .int x8_40)] → W p l e rmX9_clear s m av below meth c H locs 0 0 Q (F0 m 176 ls [])) → ∀ (n : Nat) (x8_29 x9_30 : Int32) (t_state_31 : Nat → Int32), Mod_clear_L131 p1 x7_19 K176 n x8_29 x9_30 t_state_31 = some o → ∀ (H : Heap) (locs : List Loc), va_P D vwCl (w_Mod cI cB cZ cS cT qt qt_state qt_readPage qt_tape qt_cuts qt_letters qt_queue qt_busyTo qt_servedIn qt_waysOn qt_costOn qt_aheads qt_seen qt_isKept qt_lanes qt_lengths qt_cells t_hasLaw t_hasCounters t_highest t_taped t_fault t_broken t_brokenAt t_spot t_here t_token t_value t_queued_20 t_payed_21 t_bestWait t_bestWhom t_bestCoins t_seenMany t_torn t_state_31 t_readPage t_tape t_cuts t_letters t_queue_23 t_busyTo_24 t_servedIn_25 t_waysOn t_costOn t_aheads t_seen t_isKept t_lanes t_lengths t_cells) H → va_D A (w_Mod cI cB cZ cS cT qt qt_state qt_readPage qt_tape qt_cuts qt_letters qt_queue qt_busyTo qt_servedIn qt_waysOn qt_costOn qt_aheads qt_seen qt_isKept qt_lanes qt_lengths qt_cells t_hasLaw t_hasCounters t_highest t_taped t_fault t_broken t_brokenAt t_spot t_here t_token t_value t_queued_20 t_payed_21 t_bestWait t_bestWhom t_bestCoins t_seenMany t_torn t_state_31 t_readPage t_tape t_cuts t_letters t_queue_23 t_busyTo_24 t_servedIn_25 t_waysOn t_costOn t_aheads t_seen t_isKept t_lanes t_lengths t_cells) → va_S A s.heap H locs → ∀ ls : Array Slot, lv_has ls 10 [(0, .ref qt), (1, .int p1), (2, .int p2), (3, .int p3), (4, .int x4_16), (5, .int x5_17), (6, .int x6_18), (7, .int x7_19), (8, .int x8_29), (9, .int x9_30)] → W p l e rmX9_clear s m av below meth c H locs 0 0 Q (F0 m 131 ls []) := by
                  intro K176 hK176 n
                  induction n with
                  | zero =>
                    intro x8_29 x9_30 t_state_31 hM
                    rw [Mod_clear_L131] at hM
                    cases hM
                  | succ n ih =>
                    intro x8_29 x9_30 t_state_31 hM H locs hP hD hS ls hl
                    rw [Mod_clear_L131] at hM
                    refine lv_iload hx hb dX9_clear_131 (lv_at hl 9 rfl) ?_
                    refine lv_aload_n hx hb dX9_clear_133 rfl (lv_at hl 0 rfl) ?_
                    obtain ⟨o_32, hc, hM⟩ := bind_so hM
                    refine mr_callVi (As := []) (rest := [.int x9_30]) (wr := []) ⟨hx, hb, hml, hown, hts⟩ (k_Mod_many l D cI cB cZ cS cT qt qt_state qt_readPage qt_tape qt_cuts qt_letters qt_queue qt_busyTo qt_servedIn qt_waysOn qt_costOn qt_aheads qt_seen qt_isKept qt_lanes qt_lengths qt_cells t_hasLaw t_hasCounters t_highest t_taped t_fault t_broken t_brokenAt t_spot t_here t_token t_value t_queued_20 t_payed_21 t_bestWait t_bestWhom t_bestCoins t_seenMany t_torn t_state_31 t_readPage t_tape t_cuts t_letters t_queue_23 t_busyTo_24 t_servedIn_25 t_waysOn t_costOn t_aheads t_seen t_isKept t_lanes t_lengths t_cells  _ hc) (cwV 0 hts gX9_clear_X9_many rfl rfl rfl (by decide +kernel) ⟨Nat.le_of_ble_eq_true rfl, Nat.le_of_ble_eq_true rfl⟩) hK hP hD hS hA [0, 1, 2, 3, 4, 5, 6, 7, 8, 9, 10, 11, 12, 13, 14, 15, 16] [] [0, 1, 2, 3, 4, 5, 6, 7, 8, 9, 10, 11, 12, 13, 14, 15, 16] (w_Mod cI cB cZ cS cT qt qt_state qt_readPage qt_tape qt_cuts qt_letters qt_queue qt_busyTo qt_servedIn qt_waysOn qt_costOn qt_aheads qt_seen qt_isKept qt_lanes qt_lengths qt_cells t_hasLaw t_hasCounters t_highest t_taped t_fault t_broken t_brokenAt t_spot t_here t_token t_value t_queued_20 t_payed_21 t_bestWait t_bestWhom t_bestCoins t_seenMany t_torn t_state_31 t_readPage t_tape t_cuts t_letters t_queue_23 t_busyTo_24 t_servedIn_25 t_waysOn t_costOn t_aheads t_seen t_isKept t_lanes t_lengths t_cells) rfl rfl rfl rfl (by decide) rfl rfl 9 0 rfl rfl rfl rfl hl.1 rfl (Nat.le_of_ble_eq_true rfl) dX9_clear_134 ⟨Nat.zero_le _, Nat.zero_le _⟩ (fun H locs hP hD hS => ?_)
                    refine mr_icmp_ge (tgt := 176) hx hb hM dX9_clear_137 (by decide) (fun hM => ?_) (fun hM => ?_)
                    · exact hK176 x8_29 t_state_31 hM _ _ hP hD hS ls (lv_sub hl [0, 1, 2, 3, 4, 5, 6, 7, 8] rfl)
                    · refine lv_iload hx hb dX9_clear_140 (lv_at hl 8 rfl) ?_
                      refine lv_iload hx hb dX9_clear_142 (lv_at hl 7 rfl) ?_
                      refine lv_iload hx hb dX9_clear_144 (lv_at hl 9 rfl) ?_
                      refine lv_ishr hx hb dX9_clear_146 ?_
                      refine lv_iconst (v := 1) hx hb dX9_clear_147 (by decide) ?_
                      refine lv_iand hx hb dX9_clear_148 ?_
                      refine lv_iconst (v := 1) hx hb dX9_clear_149 (by decide) ?_
                      refine mr_jn hM (fun j167_33 => ∀ (y_34 y_35 : Int32) (t_state_36 : Nat → Int32), j167_33 y_34 y_35 t_state_36 = some o → ∀ (H : Heap) (locs : List Loc), va_P D vwCl (w_Mod cI cB cZ cS cT qt qt_state qt_readPage qt_tape qt_cuts qt_letters qt_queue qt_busyTo qt_servedIn qt_waysOn qt_costOn qt_aheads qt_seen qt_isKept qt_lanes qt_lengths qt_cells t_hasLaw t_hasCounters t_highest t_taped t_fault t_broken t_brokenAt t_spot t_here t_token t_value t_queued_20 t_payed_21 t_bestWait t_bestWhom t_bestCoins t_seenMany t_torn t_state_36 t_readPage t_tape t_cuts t_letters t_queue_23 t_busyTo_24 t_servedIn_25 t_waysOn t_costOn t_aheads t_seen t_isKept t_lanes t_lengths t_cells) H → va_D A (w_Mod cI cB cZ cS cT qt qt_state qt_readPage qt_tape qt_cuts qt_letters qt_queue qt_busyTo qt_servedIn qt_waysOn qt_costOn qt_aheads qt_seen qt_isKept qt_lanes qt_lengths qt_cells t_hasLaw t_hasCounters t_highest t_taped t_fault t_broken t_brokenAt t_spot t_here t_token t_value t_queued_20 t_payed_21 t_bestWait t_bestWhom t_bestCoins t_seenMany t_torn t_state_36 t_readPage t_tape t_cuts t_letters t_queue_23 t_busyTo_24 t_servedIn_25 t_waysOn t_costOn t_aheads t_seen t_isKept t_lanes t_lengths t_cells) → va_S A s.heap H locs → ∀ ls : Array Slot, lv_has ls 10 [(0, .ref qt), (1, .int p1), (2, .int p2), (3, .int p3), (4, .int x4_16), (5, .int x5_17), (6, .int x6_18), (7, .int x7_19), (9, .int x9_30)] → W p l e rmX9_clear s m av below meth c H locs 0 0 Q (F0 m 167 ls [.int y_35, .int y_34])) (fun y_34 y_35 t_state_36 hM H locs hP hD hS ls hl => ?_) (fun j167_33 hj167_33 hM => ?_)
                      · refine lv_iadd hx hb dX9_clear_167 ?_
                        refine mr_nmI hM (fun x8_37 hM => ?_)
                        refine lv_istore (lv' := [(8, .int x8_37), (0, .ref qt), (1, .int p1), (2, .int p2), (3, .int p3), (4, .int x4_16), (5, .int x5_17), (6, .int x6_18), (7, .int x7_19), (9, .int x9_30)]) hx hb dX9_clear_168 hl (by decide) rfl (fun ls hl => ?_)
                        refine mr_iinc (k := 9) (d := 1) hx hb (fun x9_38 => [(9, .int x9_38), (8, .int x8_37), (0, .ref qt), (1, .int p1), (2, .int p2), (3, .int p3), (4, .int x4_16), (5, .int x5_17), (6, .int x6_18), (7, .int x7_19)]) hM (by decide) dX9_clear_170 hl rfl (by decide) (fun _ => rfl) (fun x9_38 hM ls hl => ?_)
                        refine lv_goto (tgt := 131) hx hb dX9_clear_173 (by decide) ?_
                        exact ih x8_37 x9_38 t_state_36 hM _ _ hP hD hS ls (lv_sub hl [2, 3, 4, 5, 6, 7, 8, 9, 1, 0] rfl)
                      · refine mr_icmp_ne (tgt := 166) hx hb hM dX9_clear_150 (by decide) (fun hM => ?_) (fun hM => ?_)
                        · refine lv_iconst (v := 0) hx hb dX9_clear_166 (by decide) ?_
                          exact hj167_33 x8_29 0 t_state_31 hM _ _ hP hD hS ls (lv_sub hl [0, 1, 2, 3, 4, 5, 6, 7, 9] rfl)
                        · refine lv_aload_n hx hb dX9_clear_153 rfl (lv_at hl 0 rfl) ?_
                          refine lv_sipush (v := 282) hx hb dX9_clear_154 (by decide) ?_
                          refine lv_iload_n hx hb dX9_clear_157 rfl (lv_at hl 1 rfl) ?_
                          refine lv_iload hx hb dX9_clear_158 (lv_at hl 9 rfl) ?_
                          obtain ⟨o_39, hc, hM⟩ := bind_so hM
                          refine mr_callVi (As := [.int 282, .int p1, .int x9_30]) (rest := [.int x8_29]) (wr := []) ⟨hx, hb, hml, hown, hts⟩ (k_Mod_paysAll l D cI cB cZ cS cT qt qt_state qt_readPage qt_tape qt_cuts qt_letters qt_queue qt_busyTo qt_servedIn qt_waysOn qt_costOn qt_aheads qt_seen qt_isKept qt_lanes qt_lengths qt_cells t_hasLaw t_hasCounters t_highest t_taped t_fault t_broken t_brokenAt t_spot t_here t_token t_value t_queued_20 t_payed_21 t_bestWait t_bestWhom t_bestCoins t_seenMany t_torn t_state_31 t_readPage t_tape t_cuts t_letters t_queue_23 t_busyTo_24 t_servedIn_25 t_waysOn t_costOn t_aheads t_seen t_isKept t_lanes t_lengths t_cells 282 p1 x9_30 _ hc) (cwV 3 hts gX9_clear_X9_paysAll rfl rfl rfl (by decide +kernel) ⟨Nat.le_of_ble_eq_true rfl, Nat.le_of_ble_eq_true rfl⟩) hK hP hD hS hA [0, 1, 2, 3, 4, 5, 6, 7, 8, 9, 10, 11, 12, 13, 14, 15, 16] [] [0, 1, 2, 3, 4, 5, 6, 7, 8, 9, 10, 11, 12, 13, 14, 15, 16] (w_Mod cI cB cZ cS cT qt qt_state qt_readPage qt_tape qt_cuts qt_letters qt_queue qt_busyTo qt_servedIn qt_waysOn qt_costOn qt_aheads qt_seen qt_isKept qt_lanes qt_lengths qt_cells t_hasLaw t_hasCounters t_highest t_taped t_fault t_broken t_brokenAt t_spot t_here t_token t_value t_queued_20 t_payed_21 t_bestWait t_bestWhom t_bestCoins t_seenMany t_torn o_39.2 t_readPage t_tape t_cuts t_letters t_queue_23 t_busyTo_24 t_servedIn_25 t_waysOn t_costOn t_aheads t_seen t_isKept t_lanes t_lengths t_cells) rfl rfl rfl rfl (by decide) rfl rfl 9 0 rfl rfl rfl rfl hl.1 rfl (Nat.le_of_ble_eq_true rfl) dX9_clear_160 ⟨Nat.zero_le _, Nat.zero_le _⟩ (fun H locs hP hD hS => ?_)
                          refine lv_goto (tgt := 167) hx hb dX9_clear_163 (by decide) ?_
                          exact hj167_33 x8_29 o_39.1 o_39.2 hM _ _ hP hD hS ls (lv_sub hl [0, 1, 2, 3, 4, 5, 6, 7, 9] rfl)
                refine hL131 _ (fun x8_40 t_state_41 hM H locs hP hD hS ls hl => ?_) _ 0 0 o_28 hM _ _ hP hD hS ls (lv_sub hl [2, 3, 4, 5, 6, 7, 8, 9, 1, 0] rfl)
                refine lv_iload hx hb dX9_clear_176 (lv_at hl 8 rfl) ?_
                refine lv_aload_n hx hb dX9_clear_178 rfl (lv_at hl 0 rfl) ?_
                refine va_get (D := D) (ci := 9) (v := .ref qt_state) (C := RX9) (T := TX9) (N := 34) hx hb hts inX9w hown hK hP 0 rfl rfl 0 (by decide) hf7 (fun _ h9 => h9) rfl dX9_clear_179 ?_
                refine lv_bipush (v := 6) hx hb dX9_clear_182 (by decide) ?_
                refine lv_iload_n hx hb dX9_clear_184 rfl (lv_at hl 1 rfl) ?_
                refine lv_imul hx hb dX9_clear_185 ?_
                refine lv_iconst (v := 4) hx hb dX9_clear_186 (by decide) ?_
                refine lv_iadd hx hb dX9_clear_187 ?_
                refine mr_iald hx hb hK hP 1 0 rfl rfl hM dX9_clear_188 (fun v_42 hM => ?_)
                refine mr_icmp_gt (tgt := 248) hx hb hM dX9_clear_189 (by decide) (fun hM => ?_) (fun hM => ?_)
                · refine mr_iinc (k := 7) (d := 1) hx hb (fun x7_43 => [(7, .int x7_43), (0, .ref qt), (1, .int p1), (2, .int p2), (3, .int p3), (4, .int x4_16), (5, .int x5_17), (6, .int x6_18), (8, .int x8_40)]) hM (by decide) dX9_clear_248 hl rfl (by decide) (fun _ => rfl) (fun x7_43 hM ls hl => ?_)
                  refine lv_goto (tgt := 96) hx hb dX9_clear_251 (by decide) ?_
                  exact ih x5_17 x6_18 x7_43 t_queued_20 t_payed_21 t_state_41 t_queue_23 t_busyTo_24 t_servedIn_25 hM _ _ hP hD hS ls (lv_sub hl [1, 2, 3, 4, 5, 6, 7, 0] rfl)
                · refine lv_iload hx hb dX9_clear_192 (lv_at hl 5 rfl) ?_
                  refine lv_bipush (v := (-4)) hx hb dX9_clear_194 (by decide) ?_
                  refine mr_jn hM (fun j206_44 => ∀ _u : Unit, j206_44 _u = some o → ∀ (H : Heap) (locs : List Loc), va_P D vwCl (w_Mod cI cB cZ cS cT qt qt_state qt_readPage qt_tape qt_cuts qt_letters qt_queue qt_busyTo qt_servedIn qt_waysOn qt_costOn qt_aheads qt_seen qt_isKept qt_lanes qt_lengths qt_cells t_hasLaw t_hasCounters t_highest t_taped t_fault t_broken t_brokenAt t_spot t_here t_token t_value t_queued_20 t_payed_21 t_bestWait t_bestWhom t_bestCoins t_seenMany t_torn t_state_41 t_readPage t_tape t_cuts t_letters t_queue_23 t_busyTo_24 t_servedIn_25 t_waysOn t_costOn t_aheads t_seen t_isKept t_lanes t_lengths t_cells) H → va_D A (w_Mod cI cB cZ cS cT qt qt_state qt_readPage qt_tape qt_cuts qt_letters qt_queue qt_busyTo qt_servedIn qt_waysOn qt_costOn qt_aheads qt_seen qt_isKept qt_lanes qt_lengths qt_cells t_hasLaw t_hasCounters t_highest t_taped t_fault t_broken t_brokenAt t_spot t_here t_token t_value t_queued_20 t_payed_21 t_bestWait t_bestWhom t_bestCoins t_seenMany t_torn t_state_41 t_readPage t_tape t_cuts t_letters t_queue_23 t_busyTo_24 t_servedIn_25 t_waysOn t_costOn t_aheads t_seen t_isKept t_lanes t_lengths t_cells) → va_S A s.heap H locs → ∀ ls : Array Slot, lv_has ls 10 [(0, .ref qt), (1, .int p1), (2, .int p2), (3, .int p3), (4, .int x4_16), (5, .int x5_17), (6, .int x6_18), (7, .int x7_19), (8, .int x8_40)] → W p l e rmX9_clear s m av below meth c H locs 0 0 Q (F0 m 206 ls [])) (fun _u hM H locs hP hD hS ls hl => ?_) (fun j206_44 hj206_44 hM => ?_)
                  · refine lv_aload_n hx hb dX9_clear_206 rfl (lv_at hl 0 rfl) ?_
                    refine lv_sipush (v := 130) hx hb dX9_clear_207 (by decide) ?_
                    obtain ⟨o_45, hc, hM⟩ := bind_so hM
                    refine mr_callVv (As := [.int 130]) (rest := []) (wr := []) ⟨hx, hb, hml, hown, hts⟩ (k_Mod_runsTo l D cI cB cZ cS cT qt qt_state qt_readPage qt_tape qt_cuts qt_letters qt_queue qt_busyTo qt_servedIn qt_waysOn qt_costOn qt_aheads qt_seen qt_isKept qt_lanes qt_lengths qt_cells t_hasLaw t_hasCounters t_highest t_taped t_fault t_broken t_brokenAt t_spot t_here t_token t_value t_queued_20 t_payed_21 t_bestWait t_bestWhom t_bestCoins t_seenMany t_torn t_state_41 t_readPage t_tape t_cuts t_letters t_queue_23 t_busyTo_24 t_servedIn_25 t_waysOn t_costOn t_aheads t_seen t_isKept t_lanes t_lengths t_cells 130 _ hc) (cwV 1 hts gX9_clear_X9_runsTo rfl rfl rfl (by decide +kernel) ⟨Nat.le_of_ble_eq_true rfl, Nat.le_of_ble_eq_true rfl⟩) hK hP hD hS hA [0, 1, 2, 3, 4, 5, 6, 7, 8, 9, 10, 11, 12, 13, 14, 15, 16] [] [0, 1, 2, 3, 4, 5, 6, 7, 8, 9, 10, 11, 12, 13, 14, 15, 16] (w_Mod cI cB cZ cS cT qt qt_state qt_readPage qt_tape qt_cuts qt_letters qt_queue qt_busyTo qt_servedIn qt_waysOn qt_costOn qt_aheads qt_seen qt_isKept qt_lanes qt_lengths qt_cells t_hasLaw t_hasCounters t_highest t_taped t_fault t_broken t_brokenAt t_spot t_here t_token t_value o_45.1 o_45.2.1 t_bestWait t_bestWhom t_bestCoins t_seenMany t_torn o_45.2.2.1 t_readPage t_tape t_cuts t_letters o_45.2.2.2.1 o_45.2.2.2.2.1 o_45.2.2.2.2.2 t_waysOn t_costOn t_aheads t_seen t_isKept t_lanes t_lengths t_cells) rfl rfl rfl rfl (by decide) rfl rfl 9 0 rfl rfl rfl rfl hl.1 rfl (Nat.le_of_ble_eq_true rfl) dX9_clear_210 ⟨Nat.zero_le _, Nat.zero_le _⟩ (fun H locs hP hD hS => ?_)
                    refine lv_aload_n hx hb dX9_clear_213 rfl (lv_at hl 0 rfl) ?_
                    refine va_get (D := D) (ci := 9) (v := .ref qt_servedIn) (C := RX9) (T := TX9) (N := 34) hx hb hts inX9w hown hK hP 0 rfl rfl 19 (by decide) hf31 (fun _ h9 => h9) rfl dX9_clear_214 ?_
                    refine lv_iload_n hx hb dX9_clear_217 rfl (lv_at hl 1 rfl) ?_
                    refine mr_iald hx hb hK hP 8 0 rfl rfl hM dX9_clear_218 (fun v_46 hM => ?_)
                    refine lv_iload_n hx hb dX9_clear_219 rfl (lv_at hl 2 rfl) ?_
                    refine mr_jn hM (fun j230_47 => ∀ (y_48 : Int32), j230_47 y_48 = some o → ∀ (H : Heap) (locs : List Loc), va_P D vwCl (w_Mod cI cB cZ cS cT qt qt_state qt_readPage qt_tape qt_cuts qt_letters qt_queue qt_busyTo qt_servedIn qt_waysOn qt_costOn qt_aheads qt_seen qt_isKept qt_lanes qt_lengths qt_cells t_hasLaw t_hasCounters t_highest t_taped t_fault t_broken t_brokenAt t_spot t_here t_token t_value o_45.1 o_45.2.1 t_bestWait t_bestWhom t_bestCoins t_seenMany t_torn o_45.2.2.1 t_readPage t_tape t_cuts t_letters o_45.2.2.2.1 o_45.2.2.2.2.1 o_45.2.2.2.2.2 t_waysOn t_costOn t_aheads t_seen t_isKept t_lanes t_lengths t_cells) H → va_D A (w_Mod cI cB cZ cS cT qt qt_state qt_readPage qt_tape qt_cuts qt_letters qt_queue qt_busyTo qt_servedIn qt_waysOn qt_costOn qt_aheads qt_seen qt_isKept qt_lanes qt_lengths qt_cells t_hasLaw t_hasCounters t_highest t_taped t_fault t_broken t_brokenAt t_spot t_here t_token t_value o_45.1 o_45.2.1 t_bestWait t_bestWhom t_bestCoins t_seenMany t_torn o_45.2.2.1 t_readPage t_tape t_cuts t_letters o_45.2.2.2.1 o_45.2.2.2.2.1 o_45.2.2.2.2.2 t_waysOn t_costOn t_aheads t_seen t_isKept t_lanes t_lengths t_cells) → va_S A s.heap H locs → ∀ ls : Array Slot, lv_has ls 10 [(0, .ref qt), (1, .int p1), (2, .int p2), (3, .int p3), (4, .int x4_16), (6, .int x6_18), (7, .int x7_19), (8, .int x8_40)] → W p l e rmX9_clear s m av below meth c H locs 0 0 Q (F0 m 230 ls [.int y_48])) (fun y_48 hM H locs hP hD hS ls hl => ?_) (fun j230_47 hj230_47 hM => ?_)
                    · refine lv_istore (lv' := [(5, .int y_48), (0, .ref qt), (1, .int p1), (2, .int p2), (3, .int p3), (4, .int x4_16), (6, .int x6_18), (7, .int x7_19), (8, .int x8_40)]) hx hb dX9_clear_230 hl (by decide) rfl (fun ls hl => ?_)
                      refine lv_iload hx hb dX9_clear_232 (lv_at hl 0 rfl) ?_
                      refine lv_iload hx hb dX9_clear_234 (lv_at hl 7 rfl) ?_
                      refine mr_icmp_ne (tgt := 244) hx hb hM dX9_clear_236 (by decide) (fun hM => ?_) (fun hM => ?_)
                      · refine lv_iload hx hb dX9_clear_244 (lv_at hl 6 rfl) ?_
                        refine lv_istore (lv' := [(6, .int x6_18), (5, .int y_48), (0, .ref qt), (1, .int p1), (2, .int p2), (3, .int p3), (4, .int x4_16), (7, .int x7_19), (8, .int x8_40)]) hx hb dX9_clear_246 hl (by decide) rfl (fun ls hl => ?_)
                        refine mr_iinc (k := 7) (d := 1) hx hb (fun x7_49 => [(7, .int x7_49), (6, .int x6_18), (5, .int y_48), (0, .ref qt), (1, .int p1), (2, .int p2), (3, .int p3), (4, .int x4_16), (8, .int x8_40)]) hM (by decide) dX9_clear_248 hl rfl (by decide) (fun _ => rfl) (fun x7_49 hM ls hl => ?_)
                        refine lv_goto (tgt := 96) hx hb dX9_clear_251 (by decide) ?_
                        exact ih y_48 x6_18 x7_49 o_45.1 o_45.2.1 o_45.2.2.1 o_45.2.2.2.1 o_45.2.2.2.2.1 o_45.2.2.2.2.2 hM _ _ hP hD hS ls (lv_sub hl [3, 4, 5, 6, 7, 2, 1, 0] rfl)
                      · refine lv_iload hx hb dX9_clear_239 (lv_at hl 8 rfl) ?_
                        refine lv_goto (tgt := 246) hx hb dX9_clear_241 (by decide) ?_
                        refine lv_istore (lv' := [(6, .int x8_40), (5, .int y_48), (0, .ref qt), (1, .int p1), (2, .int p2), (3, .int p3), (4, .int x4_16), (7, .int x7_19), (8, .int x8_40)]) hx hb dX9_clear_246 hl (by decide) rfl (fun ls hl => ?_)
                        refine mr_iinc (k := 7) (d := 1) hx hb (fun x7_50 => [(7, .int x7_50), (6, .int x8_40), (5, .int y_48), (0, .ref qt), (1, .int p1), (2, .int p2), (3, .int p3), (4, .int x4_16), (8, .int x8_40)]) hM (by decide) dX9_clear_248 hl rfl (by decide) (fun _ => rfl) (fun x7_50 hM ls hl => ?_)
                        refine lv_goto (tgt := 96) hx hb dX9_clear_251 (by decide) ?_
                        exact ih y_48 x8_40 x7_50 o_45.1 o_45.2.1 o_45.2.2.1 o_45.2.2.2.1 o_45.2.2.2.2.1 o_45.2.2.2.2.2 hM _ _ hP hD hS ls (lv_sub hl [3, 4, 5, 6, 7, 2, 1, 0] rfl)
                    · refine mr_icmp_gt (tgt := 228) hx hb hM dX9_clear_220 (by decide) (fun hM => ?_) (fun hM => ?_)
                      · refine lv_iload hx hb dX9_clear_228 (lv_at hl 5 rfl) ?_
                        exact hj230_47 x5_17 hM _ _ hP hD hS ls (lv_sub hl [0, 1, 2, 3, 4, 6, 7, 8] rfl)
                      · refine lv_iload hx hb dX9_clear_223 (lv_at hl 7 rfl) ?_
                        refine lv_goto (tgt := 230) hx hb dX9_clear_225 (by decide) ?_
                        exact hj230_47 x7_19 hM _ _ hP hD hS ls (lv_sub hl [0, 1, 2, 3, 4, 6, 7, 8] rfl)
                  · refine mr_icmp_eq (tgt := 206) hx hb hM dX9_clear_196 (by decide) (fun hM => ?_) (fun hM => ?_)
                    · exact hj206_44 () hM _ _ hP hD hS ls (lv_sub hl [0, 1, 2, 3, 4, 5, 6, 7, 8] rfl)
                    · refine lv_iload hx hb dX9_clear_199 (lv_at hl 8 rfl) ?_
                      refine lv_iload hx hb dX9_clear_201 (lv_at hl 6 rfl) ?_
                      refine mr_icmp_ge (tgt := 248) hx hb hM dX9_clear_203 (by decide) (fun hM => ?_) (fun hM => ?_)
                      · refine mr_iinc (k := 7) (d := 1) hx hb (fun x7_51 => [(7, .int x7_51), (0, .ref qt), (1, .int p1), (2, .int p2), (3, .int p3), (4, .int x4_16), (5, .int x5_17), (6, .int x6_18), (8, .int x8_40)]) hM (by decide) dX9_clear_248 hl rfl (by decide) (fun _ => rfl) (fun x7_51 hM ls hl => ?_)
                        refine lv_goto (tgt := 96) hx hb dX9_clear_251 (by decide) ?_
                        exact ih x5_17 x6_18 x7_51 t_queued_20 t_payed_21 t_state_41 t_queue_23 t_busyTo_24 t_servedIn_25 hM _ _ hP hD hS ls (lv_sub hl [1, 2, 3, 4, 5, 6, 7, 0] rfl)
                      · exact hj206_44 () hM _ _ hP hD hS ls (lv_sub hl [0, 1, 2, 3, 4, 5, 6, 7, 8] rfl)
        refine hL96 _ (fun x5_52 x6_53 t_queued_54 t_payed_55 t_state_56 t_queue_57 t_busyTo_58 t_servedIn_59 hM H locs hP hD hS ls hl => ?_) _ (-4) 0 0 t_queued t_payed t_state t_queue t_busyTo t_servedIn hM _ _ hP hD hS ls (lv_sub hl [3, 4, 5, 6, 7, 2, 1, 0] rfl)
        refine lv_iload hx hb dX9_clear_254 (lv_at hl 1 rfl) ?_
        refine lv_bipush (v := (-4)) hx hb dX9_clear_256 (by decide) ?_
        refine mr_icmp_eq (tgt := 266) hx hb hM dX9_clear_258 (by decide) (fun hM => ?_) (fun hM => ?_)
        · refine lv_iload hx hb dX9_clear_266 (lv_at hl 1 rfl) ?_
          refine lv_goto (tgt := 273) hx hb dX9_clear_268 (by decide) ?_
          have hM := Option.some.inj hM
          subst hM
          exact mr_iret hx hb hr hlocks hQ hP hD hS rfl dX9_clear_273
        · refine lv_iload_n hx hb dX9_clear_261 rfl (lv_at hl 0 rfl) ?_
          refine lv_iconst (v := 1) hx hb dX9_clear_262 (by decide) ?_
          refine mr_icmp_ne (tgt := 271) hx hb hM dX9_clear_263 (by decide) (fun hM => ?_) (fun hM => ?_)
          · refine lv_iload hx hb dX9_clear_271 (lv_at hl 2 rfl) ?_
            have hM := Option.some.inj hM
            subst hM
            exact mr_iret hx hb hr hlocks hQ hP hD hS rfl dX9_clear_273
          · refine lv_iload hx hb dX9_clear_266 (lv_at hl 1 rfl) ?_
            refine lv_goto (tgt := 273) hx hb dX9_clear_268 (by decide) ?_
            have hM := Option.some.inj hM
            subst hM
            exact mr_iret hx hb hr hlocks hQ hP hD hS rfl dX9_clear_273
      · refine lv_iconst (v := (-1)) hx hb dX9_clear_30 (by decide) ?_
        have hM := Option.some.inj hM
        subst hM
        exact mr_iret hx hb hr hlocks hQ hP hD hS rfl dX9_clear_31

abbrev rmX9_tries : Room := { frames := 5, cells := 0, slots := 0, locals := 121 }
set_option maxHeartbeats 40000000 in
set_option maxRecDepth 100000 in
theorem k_Mod_tries (l : Launch) (D : va_G) (cI cB cZ cS cT : ClassId) (qt qt_state qt_readPage qt_tape qt_cuts qt_letters qt_queue qt_busyTo qt_servedIn qt_waysOn qt_costOn qt_aheads qt_seen qt_isKept qt_lanes qt_lengths qt_cells : Nat) (t_hasLaw t_hasCounters t_highest t_taped t_fault t_broken t_brokenAt t_spot t_here t_token t_value t_queued t_payed t_bestWait t_bestWhom t_bestCoins t_seenMany t_torn : Int32) (t_state t_readPage t_tape t_cuts t_letters t_queue t_busyTo t_servedIn t_waysOn t_costOn t_aheads t_seen t_isKept t_lanes t_lengths t_cells : Nat → Int32) (p1 p2 p3 : Int32) (o : Int32 × Int32 × Int32 × Int32 × Int32 × (Nat → Int32) × (Nat → Int32) × (Nat → Int32) × (Nat → Int32)) (hM : Mod_tries p1 p2 p3 t_bestWait t_bestWhom t_bestCoins t_state t_queue t_busyTo t_servedIn = some o) : mtV l yX9_tries wsX9_tries rmX9_tries D (tys5 cI cB cZ cS cT) [.ref qt, .int p1, .int p2, .int p3] (w_Mod cI cB cZ cS cT qt qt_state qt_readPage qt_tape qt_cuts qt_letters qt_queue qt_busyTo qt_servedIn qt_waysOn qt_costOn qt_aheads qt_seen qt_isKept qt_lanes qt_lengths qt_cells t_hasLaw t_hasCounters t_highest t_taped t_fault t_broken t_brokenAt t_spot t_here t_token t_value t_queued t_payed t_bestWait t_bestWhom t_bestCoins t_seenMany t_torn t_state t_readPage t_tape t_cuts t_letters t_queue t_busyTo t_servedIn t_waysOn t_costOn t_aheads t_seen t_isKept t_lanes t_lengths t_cells) (w_Mod cI cB cZ cS cT qt qt_state qt_readPage qt_tape qt_cuts qt_letters qt_queue qt_busyTo qt_servedIn qt_waysOn qt_costOn qt_aheads qt_seen qt_isKept qt_lanes qt_lengths qt_cells t_hasLaw t_hasCounters t_highest t_taped t_fault t_broken t_brokenAt t_spot t_here t_token t_value o.1 o.2.1 o.2.2.1 o.2.2.2.1 o.2.2.2.2.1 t_seenMany t_torn o.2.2.2.2.2.1 t_readPage t_tape t_cuts t_letters o.2.2.2.2.2.2.1 o.2.2.2.2.2.2.2.1 o.2.2.2.2.2.2.2.2 t_waysOn t_costOn t_aheads t_seen t_isKept t_lanes t_lengths t_cells) := by
  refine mtV.of (cc := cX9_tries) (maxL := 5) (ret := none) (by decide) rfl (Nat.le_of_ble_eq_true rfl) ?_
  intro p e s m below meth c A Q av hav hQ hx hb hr hml hown hts hlocks hK hP hD hA hS ls hl
  have hown : s.vm.findClass RX9 = some m.cls := hown
  have hl : lv_has ls 5 [(0, .ref qt), (1, .int p1), (2, .int p2), (3, .int p3)] := hl
  unfold Mod_tries at hM
  have inX9w : ∀ w ∈ u_ws RX9 TX9 34, w ∈ wsX9_tries := by decide +kernel
  have hf242 := hts (.fieldLink RX9 242 "LetsInModel" "bestWait" "I") (by decide +kernel)
  have hf245 := hts (.fieldLink RX9 245 "LetsInModel" "bestWhom" "I") (by decide +kernel)
  have hf248 := hts (.fieldLink RX9 248 "LetsInModel" "bestCoins" "I") (by decide +kernel)
  refine lv_aload_n hx hb dX9_tries_0 rfl (lv_at hl 0 rfl) ?_
  refine lv_sipush (v := 130) hx hb dX9_tries_1 (by decide) ?_
  obtain ⟨o_1, hc, hM⟩ := bind_so hM
  refine mr_callVv (As := [.int 130]) (rest := []) (wr := []) ⟨hx, hb, hml, hown, hts⟩ (k_Mod_runsTo l D cI cB cZ cS cT qt qt_state qt_readPage qt_tape qt_cuts qt_letters qt_queue qt_busyTo qt_servedIn qt_waysOn qt_costOn qt_aheads qt_seen qt_isKept qt_lanes qt_lengths qt_cells t_hasLaw t_hasCounters t_highest t_taped t_fault t_broken t_brokenAt t_spot t_here t_token t_value t_queued t_payed t_bestWait t_bestWhom t_bestCoins t_seenMany t_torn t_state t_readPage t_tape t_cuts t_letters t_queue t_busyTo t_servedIn t_waysOn t_costOn t_aheads t_seen t_isKept t_lanes t_lengths t_cells 130 _ hc) (cwV 1 hts gX9_tries_X9_runsTo rfl rfl rfl (by decide +kernel) ⟨Nat.le_of_ble_eq_true rfl, Nat.le_of_ble_eq_true rfl⟩) hK hP hD hS hA [0, 1, 2, 3, 4, 5, 6, 7, 8, 9, 10, 11, 12, 13, 14, 15, 16] [] [0, 1, 2, 3, 4, 5, 6, 7, 8, 9, 10, 11, 12, 13, 14, 15, 16] (w_Mod cI cB cZ cS cT qt qt_state qt_readPage qt_tape qt_cuts qt_letters qt_queue qt_busyTo qt_servedIn qt_waysOn qt_costOn qt_aheads qt_seen qt_isKept qt_lanes qt_lengths qt_cells t_hasLaw t_hasCounters t_highest t_taped t_fault t_broken t_brokenAt t_spot t_here t_token t_value o_1.1 o_1.2.1 t_bestWait t_bestWhom t_bestCoins t_seenMany t_torn o_1.2.2.1 t_readPage t_tape t_cuts t_letters o_1.2.2.2.1 o_1.2.2.2.2.1 o_1.2.2.2.2.2 t_waysOn t_costOn t_aheads t_seen t_isKept t_lanes t_lengths t_cells) rfl rfl rfl rfl (by decide) rfl rfl 9 0 rfl rfl rfl rfl hl.1 rfl (Nat.le_of_ble_eq_true rfl) dX9_tries_4 ⟨Nat.zero_le _, Nat.zero_le _⟩ (fun H locs hP hD hS => ?_)
  refine lv_aload_n hx hb dX9_tries_7 rfl (lv_at hl 0 rfl) ?_
  refine lv_iload_n hx hb dX9_tries_8 rfl (lv_at hl 1 rfl) ?_
  obtain ⟨o_2, hc, hM⟩ := bind_so hM
  refine mr_callVi (As := [.int p1]) (rest := []) (wr := []) ⟨hx, hb, hml, hown, hts⟩ (k_Mod_waitOf l D cI cB cZ cS cT qt qt_state qt_readPage qt_tape qt_cuts qt_letters qt_queue qt_busyTo qt_servedIn qt_waysOn qt_costOn qt_aheads qt_seen qt_isKept qt_lanes qt_lengths qt_cells t_hasLaw t_hasCounters t_highest t_taped t_fault t_broken t_brokenAt t_spot t_here t_token t_value o_1.1 o_1.2.1 t_bestWait t_bestWhom t_bestCoins t_seenMany t_torn o_1.2.2.1 t_readPage t_tape t_cuts t_letters o_1.2.2.2.1 o_1.2.2.2.2.1 o_1.2.2.2.2.2 t_waysOn t_costOn t_aheads t_seen t_isKept t_lanes t_lengths t_cells p1 _ hc) (cwV 1 hts gX9_tries_X9_waitOf rfl rfl rfl (by decide +kernel) ⟨Nat.le_of_ble_eq_true rfl, Nat.le_of_ble_eq_true rfl⟩) hK hP hD hS hA [0, 1, 2, 3, 4, 5, 6, 7, 8, 9, 10, 11, 12, 13, 14, 15, 16] [] [0, 1, 2, 3, 4, 5, 6, 7, 8, 9, 10, 11, 12, 13, 14, 15, 16] (w_Mod cI cB cZ cS cT qt qt_state qt_readPage qt_tape qt_cuts qt_letters qt_queue qt_busyTo qt_servedIn qt_waysOn qt_costOn qt_aheads qt_seen qt_isKept qt_lanes qt_lengths qt_cells t_hasLaw t_hasCounters t_highest t_taped t_fault t_broken t_brokenAt t_spot t_here t_token t_value o_1.1 o_1.2.1 t_bestWait t_bestWhom t_bestCoins t_seenMany t_torn o_1.2.2.1 t_readPage t_tape t_cuts t_letters o_1.2.2.2.1 o_1.2.2.2.2.1 o_1.2.2.2.2.2 t_waysOn t_costOn t_aheads t_seen t_isKept t_lanes t_lengths t_cells) rfl rfl rfl rfl (by decide) rfl rfl 9 0 rfl rfl rfl rfl hl.1 rfl (Nat.le_of_ble_eq_true rfl) dX9_tries_9 ⟨Nat.zero_le _, Nat.zero_le _⟩ (fun H locs hP hD hS => ?_)
  refine lv_istore (lv' := [(4, .int o_2), (0, .ref qt), (1, .int p1), (2, .int p2), (3, .int p3)]) hx hb dX9_tries_12 hl (by decide) rfl (fun ls hl => ?_)
  refine lv_iload hx hb dX9_tries_14 (lv_at hl 0 rfl) ?_
  refine lv_aload_n hx hb dX9_tries_16 rfl (lv_at hl 1 rfl) ?_
  refine va_get (D := D) (ci := 9) (v := .int t_bestWait) (C := RX9) (T := TX9) (N := 34) hx hb hts inX9w hown hK hP 0 rfl rfl 24 (by decide) hf242 (fun _ h9 => h9) rfl dX9_tries_17 ?_
  refine mr_jn hM (fun j65_3 => ∀ _u : Unit, j65_3 _u = some o → ∀ (H : Heap) (locs : List Loc), va_P D vwCl (w_Mod cI cB cZ cS cT qt qt_state qt_readPage qt_tape qt_cuts qt_letters qt_queue qt_busyTo qt_servedIn qt_waysOn qt_costOn qt_aheads qt_seen qt_isKept qt_lanes qt_lengths qt_cells t_hasLaw t_hasCounters t_highest t_taped t_fault t_broken t_brokenAt t_spot t_here t_token t_value o_1.1 o_1.2.1 t_bestWait t_bestWhom t_bestCoins t_seenMany t_torn o_1.2.2.1 t_readPage t_tape t_cuts t_letters o_1.2.2.2.1 o_1.2.2.2.2.1 o_1.2.2.2.2.2 t_waysOn t_costOn t_aheads t_seen t_isKept t_lanes t_lengths t_cells) H → va_D A (w_Mod cI cB cZ cS cT qt qt_state qt_readPage qt_tape qt_cuts qt_letters qt_queue qt_busyTo qt_servedIn qt_waysOn qt_costOn qt_aheads qt_seen qt_isKept qt_lanes qt_lengths qt_cells t_hasLaw t_hasCounters t_highest t_taped t_fault t_broken t_brokenAt t_spot t_here t_token t_value o_1.1 o_1.2.1 t_bestWait t_bestWhom t_bestCoins t_seenMany t_torn o_1.2.2.1 t_readPage t_tape t_cuts t_letters o_1.2.2.2.1 o_1.2.2.2.2.1 o_1.2.2.2.2.2 t_waysOn t_costOn t_aheads t_seen t_isKept t_lanes t_lengths t_cells) → va_S A s.heap H locs → ∀ ls : Array Slot, lv_has ls 5 [(0, .ref qt), (2, .int p2), (3, .int p3), (4, .int o_2)] → W p l e rmX9_tries s m av below meth c H locs 0 0 Q (F0 m 65 ls [])) (fun _u hM H locs hP hD hS ls hl => ?_) (fun j65_3 hj65_3 hM => ?_)
  · refine lv_aload_n hx hb dX9_tries_65 rfl (lv_at hl 0 rfl) ?_
    refine lv_iload hx hb dX9_tries_66 (lv_at hl 3 rfl) ?_
    refine mr_put (D := D) (ci := 9) (v := .int o_2) (ty := .int) (C := RX9) (T := TX9) (N := 34) hx hb hts inX9w tyX9 tyX9_ok nmX9 hown hK hP hD hS 0 rfl rfl 24 (by decide) hf242 (fun _ h9 => h9) rfl (by decide +kernel) rfl rfl (Nat.le_of_ble_eq_true rfl) dX9_tries_68 (w_Mod cI cB cZ cS cT qt qt_state qt_readPage qt_tape qt_cuts qt_letters qt_queue qt_busyTo qt_servedIn qt_waysOn qt_costOn qt_aheads qt_seen qt_isKept qt_lanes qt_lengths qt_cells t_hasLaw t_hasCounters t_highest t_taped t_fault t_broken t_brokenAt t_spot t_here t_token t_value o_1.1 o_1.2.1 o_2 t_bestWhom t_bestCoins t_seenMany t_torn o_1.2.2.1 t_readPage t_tape t_cuts t_letters o_1.2.2.2.1 o_1.2.2.2.2.1 o_1.2.2.2.2.2 t_waysOn t_costOn t_aheads t_seen t_isKept t_lanes t_lengths t_cells) rfl (fun H locs hP hD hS => ?_)
    refine lv_aload_n hx hb dX9_tries_71 rfl (lv_at hl 0 rfl) ?_
    refine lv_iload_n hx hb dX9_tries_72 rfl (lv_at hl 1 rfl) ?_
    refine mr_put (D := D) (ci := 9) (v := .int p2) (ty := .int) (C := RX9) (T := TX9) (N := 34) hx hb hts inX9w tyX9 tyX9_ok nmX9 hown hK hP hD hS 0 rfl rfl 25 (by decide) hf245 (fun _ h9 => h9) rfl (by decide +kernel) rfl rfl (Nat.le_of_ble_eq_true rfl) dX9_tries_73 (w_Mod cI cB cZ cS cT qt qt_state qt_readPage qt_tape qt_cuts qt_letters qt_queue qt_busyTo qt_servedIn qt_waysOn qt_costOn qt_aheads qt_seen qt_isKept qt_lanes qt_lengths qt_cells t_hasLaw t_hasCounters t_highest t_taped t_fault t_broken t_brokenAt t_spot t_here t_token t_value o_1.1 o_1.2.1 o_2 p2 t_bestCoins t_seenMany t_torn o_1.2.2.1 t_readPage t_tape t_cuts t_letters o_1.2.2.2.1 o_1.2.2.2.2.1 o_1.2.2.2.2.2 t_waysOn t_costOn t_aheads t_seen t_isKept t_lanes t_lengths t_cells) rfl (fun H locs hP hD hS => ?_)
    refine lv_aload_n hx hb dX9_tries_76 rfl (lv_at hl 0 rfl) ?_
    refine lv_iload_n hx hb dX9_tries_77 rfl (lv_at hl 2 rfl) ?_
    refine mr_put (D := D) (ci := 9) (v := .int p3) (ty := .int) (C := RX9) (T := TX9) (N := 34) hx hb hts inX9w tyX9 tyX9_ok nmX9 hown hK hP hD hS 0 rfl rfl 26 (by decide) hf248 (fun _ h9 => h9) rfl (by decide +kernel) rfl rfl (Nat.le_of_ble_eq_true rfl) dX9_tries_78 (w_Mod cI cB cZ cS cT qt qt_state qt_readPage qt_tape qt_cuts qt_letters qt_queue qt_busyTo qt_servedIn qt_waysOn qt_costOn qt_aheads qt_seen qt_isKept qt_lanes qt_lengths qt_cells t_hasLaw t_hasCounters t_highest t_taped t_fault t_broken t_brokenAt t_spot t_here t_token t_value o_1.1 o_1.2.1 o_2 p2 p3 t_seenMany t_torn o_1.2.2.1 t_readPage t_tape t_cuts t_letters o_1.2.2.2.1 o_1.2.2.2.2.1 o_1.2.2.2.2.2 t_waysOn t_costOn t_aheads t_seen t_isKept t_lanes t_lengths t_cells) rfl (fun H locs hP hD hS => ?_)
    have hM := Option.some.inj hM
    subst hM
    exact mr_vret hx hb hr hlocks hQ hP hD hS dX9_tries_81
  · refine mr_icmp_lt (tgt := 65) hx hb hM dX9_tries_20 (by decide) (fun hM => ?_) (fun hM => ?_)
    · exact hj65_3 () hM _ _ hP hD hS ls (lv_sub hl [1, 3, 4, 0] rfl)
    · refine lv_iload hx hb dX9_tries_23 (lv_at hl 0 rfl) ?_
      refine lv_aload_n hx hb dX9_tries_25 rfl (lv_at hl 1 rfl) ?_
      refine va_get (D := D) (ci := 9) (v := .int t_bestWait) (C := RX9) (T := TX9) (N := 34) hx hb hts inX9w hown hK hP 0 rfl rfl 24 (by decide) hf242 (fun _ h9 => h9) rfl dX9_tries_26 ?_
      refine mr_icmp_ne (tgt := 81) hx hb hM dX9_tries_29 (by decide) (fun hM => ?_) (fun hM => ?_)
      · have hM := Option.some.inj hM
        subst hM
        exact mr_vret hx hb hr hlocks hQ hP hD hS dX9_tries_81
      · refine lv_aload_n hx hb dX9_tries_32 rfl (lv_at hl 1 rfl) ?_
        refine va_get (D := D) (ci := 9) (v := .int t_bestWhom) (C := RX9) (T := TX9) (N := 34) hx hb hts inX9w hown hK hP 0 rfl rfl 25 (by decide) hf245 (fun _ h9 => h9) rfl dX9_tries_33 ?_
        refine lv_bipush (v := (-4)) hx hb dX9_tries_36 (by decide) ?_
        refine mr_icmp_eq (tgt := 81) hx hb hM dX9_tries_38 (by decide) (fun hM => ?_) (fun hM => ?_)
        · have hM := Option.some.inj hM
          subst hM
          exact mr_vret hx hb hr hlocks hQ hP hD hS dX9_tries_81
        · refine lv_iload_n hx hb dX9_tries_41 rfl (lv_at hl 4 rfl) ?_
          refine lv_aload_n hx hb dX9_tries_42 rfl (lv_at hl 1 rfl) ?_
          refine va_get (D := D) (ci := 9) (v := .int t_bestCoins) (C := RX9) (T := TX9) (N := 34) hx hb hts inX9w hown hK hP 0 rfl rfl 26 (by decide) hf248 (fun _ h9 => h9) rfl dX9_tries_43 ?_
          refine mr_icmp_lt (tgt := 65) hx hb hM dX9_tries_46 (by decide) (fun hM => ?_) (fun hM => ?_)
          · exact hj65_3 () hM _ _ hP hD hS ls (lv_sub hl [1, 3, 4, 0] rfl)
          · refine lv_iload_n hx hb dX9_tries_49 rfl (lv_at hl 4 rfl) ?_
            refine lv_aload_n hx hb dX9_tries_50 rfl (lv_at hl 1 rfl) ?_
            refine va_get (D := D) (ci := 9) (v := .int t_bestCoins) (C := RX9) (T := TX9) (N := 34) hx hb hts inX9w hown hK hP 0 rfl rfl 26 (by decide) hf248 (fun _ h9 => h9) rfl dX9_tries_51 ?_
            refine mr_icmp_ne (tgt := 81) hx hb hM dX9_tries_54 (by decide) (fun hM => ?_) (fun hM => ?_)
            · have hM := Option.some.inj hM
              subst hM
              exact mr_vret hx hb hr hlocks hQ hP hD hS dX9_tries_81
            · refine lv_iload_n hx hb dX9_tries_57 rfl (lv_at hl 3 rfl) ?_
              refine lv_aload_n hx hb dX9_tries_58 rfl (lv_at hl 1 rfl) ?_
              refine va_get (D := D) (ci := 9) (v := .int t_bestWhom) (C := RX9) (T := TX9) (N := 34) hx hb hts inX9w hown hK hP 0 rfl rfl 25 (by decide) hf245 (fun _ h9 => h9) rfl dX9_tries_59 ?_
              refine mr_icmp_ge (tgt := 81) hx hb hM dX9_tries_62 (by decide) (fun hM => ?_) (fun hM => ?_)
              · have hM := Option.some.inj hM
                subst hM
                exact mr_vret hx hb hr hlocks hQ hP hD hS dX9_tries_81
              · exact hj65_3 () hM _ _ hP hD hS ls (lv_sub hl [1, 3, 4, 0] rfl)

abbrev rmX9_best : Room := { frames := 0, cells := 0, slots := 0, locals := 0 }
set_option maxHeartbeats 40000000 in
set_option maxRecDepth 100000 in
theorem k_Mod_best (l : Launch) (D : va_G) (cI cB cZ cS cT : ClassId) (qt qt_state qt_readPage qt_tape qt_cuts qt_letters qt_queue qt_busyTo qt_servedIn qt_waysOn qt_costOn qt_aheads qt_seen qt_isKept qt_lanes qt_lengths qt_cells : Nat) (t_hasLaw t_hasCounters t_highest t_taped t_fault t_broken t_brokenAt t_spot t_here t_token t_value t_queued t_payed t_bestWait t_bestWhom t_bestCoins t_seenMany t_torn : Int32) (t_state t_readPage t_tape t_cuts t_letters t_queue t_busyTo t_servedIn t_waysOn t_costOn t_aheads t_seen t_isKept t_lanes t_lengths t_cells : Nat → Int32) (p1 : Int32) (o : Int32) (hM : Mod_best p1 t_bestWait t_bestWhom t_bestCoins = some o) : mtI l yX9_best wsX9_best rmX9_best D (tys5 cI cB cZ cS cT) [.ref qt, .int p1] (w_Mod cI cB cZ cS cT qt qt_state qt_readPage qt_tape qt_cuts qt_letters qt_queue qt_busyTo qt_servedIn qt_waysOn qt_costOn qt_aheads qt_seen qt_isKept qt_lanes qt_lengths qt_cells t_hasLaw t_hasCounters t_highest t_taped t_fault t_broken t_brokenAt t_spot t_here t_token t_value t_queued t_payed t_bestWait t_bestWhom t_bestCoins t_seenMany t_torn t_state t_readPage t_tape t_cuts t_letters t_queue t_busyTo t_servedIn t_waysOn t_costOn t_aheads t_seen t_isKept t_lanes t_lengths t_cells) (w_Mod cI cB cZ cS cT qt qt_state qt_readPage qt_tape qt_cuts qt_letters qt_queue qt_busyTo qt_servedIn qt_waysOn qt_costOn qt_aheads qt_seen qt_isKept qt_lanes qt_lengths qt_cells t_hasLaw t_hasCounters t_highest t_taped t_fault t_broken t_brokenAt t_spot t_here t_token t_value t_queued t_payed t_bestWait t_bestWhom t_bestCoins t_seenMany t_torn t_state t_readPage t_tape t_cuts t_letters t_queue t_busyTo t_servedIn t_waysOn t_costOn t_aheads t_seen t_isKept t_lanes t_lengths t_cells) o := by
  refine mtI.of (cc := cX9_best) (maxL := 2) (ret := (some .int)) (by decide) rfl (Nat.le_of_ble_eq_true rfl) ?_
  intro p e s m below meth c A Q av hav hQ hx hb hr hml hown hts hlocks hK hP hD hA hS ls hl
  have hown : s.vm.findClass RX9 = some m.cls := hown
  have hl : lv_has ls 2 [(0, .ref qt), (1, .int p1)] := hl
  unfold Mod_best at hM
  have inX9w : ∀ w ∈ u_ws RX9 TX9 34, w ∈ wsX9_best := by decide +kernel
  have hf245 := hts (.fieldLink RX9 245 "LetsInModel" "bestWhom" "I") (by decide +kernel)
  have hf248 := hts (.fieldLink RX9 248 "LetsInModel" "bestCoins" "I") (by decide +kernel)
  have hf242 := hts (.fieldLink RX9 242 "LetsInModel" "bestWait" "I") (by decide +kernel)
  refine lv_aload_n hx hb dX9_best_0 rfl (lv_at hl 0 rfl) ?_
  refine va_get (D := D) (ci := 9) (v := .int t_bestWhom) (C := RX9) (T := TX9) (N := 34) hx hb hts inX9w hown hK hP 0 rfl rfl 25 (by decide) hf245 (fun _ h9 => h9) rfl dX9_best_1 ?_
  refine lv_bipush (v := (-4)) hx hb dX9_best_4 (by decide) ?_
  refine mr_icmp_ne (tgt := 14) hx hb hM dX9_best_6 (by decide) (fun hM => ?_) (fun hM => ?_)
  · refine lv_iload_n hx hb dX9_best_14 rfl (lv_at hl 1 rfl) ?_
    refine mr_if_ne (tgt := 25) hx hb hM dX9_best_15 (by decide) (fun hM => ?_) (fun hM => ?_)
    · refine lv_iload_n hx hb dX9_best_25 rfl (lv_at hl 1 rfl) ?_
      refine lv_iconst (v := 1) hx hb dX9_best_26 (by decide) ?_
      refine mr_icmp_ne (tgt := 37) hx hb hM dX9_best_27 (by decide) (fun hM => ?_) (fun hM => ?_)
      · refine lv_aload_n hx hb dX9_best_37 rfl (lv_at hl 0 rfl) ?_
        refine va_get (D := D) (ci := 9) (v := .int t_bestCoins) (C := RX9) (T := TX9) (N := 34) hx hb hts inX9w hown hK hP 0 rfl rfl 26 (by decide) hf248 (fun _ h9 => h9) rfl dX9_best_38 ?_
        have hM := Option.some.inj hM
        subst hM
        exact mr_iret hx hb hr hlocks hQ hP hD hS rfl dX9_best_41
      · refine lv_aload_n hx hb dX9_best_30 rfl (lv_at hl 0 rfl) ?_
        refine va_get (D := D) (ci := 9) (v := .int t_bestWhom) (C := RX9) (T := TX9) (N := 34) hx hb hts inX9w hown hK hP 0 rfl rfl 25 (by decide) hf245 (fun _ h9 => h9) rfl dX9_best_31 ?_
        refine lv_goto (tgt := 41) hx hb dX9_best_34 (by decide) ?_
        have hM := Option.some.inj hM
        subst hM
        exact mr_iret hx hb hr hlocks hQ hP hD hS rfl dX9_best_41
    · refine lv_aload_n hx hb dX9_best_18 rfl (lv_at hl 0 rfl) ?_
      refine va_get (D := D) (ci := 9) (v := .int t_bestWait) (C := RX9) (T := TX9) (N := 34) hx hb hts inX9w hown hK hP 0 rfl rfl 24 (by decide) hf242 (fun _ h9 => h9) rfl dX9_best_19 ?_
      refine lv_goto (tgt := 41) hx hb dX9_best_22 (by decide) ?_
      have hM := Option.some.inj hM
      subst hM
      exact mr_iret hx hb hr hlocks hQ hP hD hS rfl dX9_best_41
  · refine lv_bipush (v := (-4)) hx hb dX9_best_9 (by decide) ?_
    refine lv_goto (tgt := 41) hx hb dX9_best_11 (by decide) ?_
    have hM := Option.some.inj hM
    subst hM
    exact mr_iret hx hb hr hlocks hQ hP hD hS rfl dX9_best_41

abbrev rmX9_door : Room := { frames := 6, cells := 0, slots := 0, locals := 145 }
set_option maxHeartbeats 40000000 in
set_option maxRecDepth 100000 in
theorem k_Mod_door (l : Launch) (D : va_G) (cI cB cZ cS cT : ClassId) (qt qt_state qt_readPage qt_tape qt_cuts qt_letters qt_queue qt_busyTo qt_servedIn qt_waysOn qt_costOn qt_aheads qt_seen qt_isKept qt_lanes qt_lengths qt_cells : Nat) (t_hasLaw t_hasCounters t_highest t_taped t_fault t_broken t_brokenAt t_spot t_here t_token t_value t_queued t_payed t_bestWait t_bestWhom t_bestCoins t_seenMany t_torn : Int32) (t_state t_readPage t_tape t_cuts t_letters t_queue t_busyTo t_servedIn t_waysOn t_costOn t_aheads t_seen t_isKept t_lanes t_lengths t_cells : Nat → Int32) (p1 p2 : Int32) (o : Int32 × Int32 × Int32 × Int32 × Int32 × Int32 × (Nat → Int32) × (Nat → Int32) × (Nat → Int32) × (Nat → Int32)) (hM : Mod_door p1 p2 t_queued t_payed t_bestWait t_bestWhom t_bestCoins t_state t_queue t_busyTo t_servedIn = some o) : mtI l yX9_door wsX9_door rmX9_door D (tys5 cI cB cZ cS cT) [.ref qt, .int p1, .int p2] (w_Mod cI cB cZ cS cT qt qt_state qt_readPage qt_tape qt_cuts qt_letters qt_queue qt_busyTo qt_servedIn qt_waysOn qt_costOn qt_aheads qt_seen qt_isKept qt_lanes qt_lengths qt_cells t_hasLaw t_hasCounters t_highest t_taped t_fault t_broken t_brokenAt t_spot t_here t_token t_value t_queued t_payed t_bestWait t_bestWhom t_bestCoins t_seenMany t_torn t_state t_readPage t_tape t_cuts t_letters t_queue t_busyTo t_servedIn t_waysOn t_costOn t_aheads t_seen t_isKept t_lanes t_lengths t_cells) (w_Mod cI cB cZ cS cT qt qt_state qt_readPage qt_tape qt_cuts qt_letters qt_queue qt_busyTo qt_servedIn qt_waysOn qt_costOn qt_aheads qt_seen qt_isKept qt_lanes qt_lengths qt_cells t_hasLaw t_hasCounters t_highest t_taped t_fault t_broken t_brokenAt t_spot t_here t_token t_value o.2.1 o.2.2.1 o.2.2.2.1 o.2.2.2.2.1 o.2.2.2.2.2.1 t_seenMany t_torn o.2.2.2.2.2.2.1 t_readPage t_tape t_cuts t_letters o.2.2.2.2.2.2.2.1 o.2.2.2.2.2.2.2.2.1 o.2.2.2.2.2.2.2.2.2 t_waysOn t_costOn t_aheads t_seen t_isKept t_lanes t_lengths t_cells) o.1 := by
  refine mtI.of (cc := cX9_door) (maxL := 5) (ret := (some .int)) (by decide) rfl (Nat.le_of_ble_eq_true rfl) ?_
  intro p e s m below meth c A Q av hav hQ hx hb hr hml hown hts hlocks hK hP hD hA hS ls hl
  have hown : s.vm.findClass RX9 = some m.cls := hown
  have hl : lv_has ls 5 [(0, .ref qt), (1, .int p1), (2, .int p2)] := hl
  unfold Mod_door at hM
  have inX9w : ∀ w ∈ u_ws RX9 TX9 34, w ∈ wsX9_door := by decide +kernel
  have hfc169 := hts (.constantLong RX9 169 2) (by decide +kernel)
  have hf242 := hts (.fieldLink RX9 242 "LetsInModel" "bestWait" "I") (by decide +kernel)
  have hf245 := hts (.fieldLink RX9 245 "LetsInModel" "bestWhom" "I") (by decide +kernel)
  have hf7 := hts (.fieldLink RX9 7 "LetsInModel" "state" "[I") (by decide +kernel)
  refine lv_aload_n hx hb dX9_door_0 rfl (lv_at hl 0 rfl) ?_
  refine lv_iload_n hx hb dX9_door_1 rfl (lv_at hl 1 rfl) ?_
  obtain ⟨o_1, hc, hM⟩ := bind_so hM
  refine mr_callVi (As := [.int p1]) (rest := []) (wr := []) ⟨hx, hb, hml, hown, hts⟩ (k_Mod_isOne l D cI cB cZ cS cT qt qt_state qt_readPage qt_tape qt_cuts qt_letters qt_queue qt_busyTo qt_servedIn qt_waysOn qt_costOn qt_aheads qt_seen qt_isKept qt_lanes qt_lengths qt_cells t_hasLaw t_hasCounters t_highest t_taped t_fault t_broken t_brokenAt t_spot t_here t_token t_value t_queued t_payed t_bestWait t_bestWhom t_bestCoins t_seenMany t_torn t_state t_readPage t_tape t_cuts t_letters t_queue t_busyTo t_servedIn t_waysOn t_costOn t_aheads t_seen t_isKept t_lanes t_lengths t_cells p1 _ hc) (cwV 1 hts gX9_door_X9_isOne rfl rfl rfl (by decide +kernel) ⟨Nat.le_of_ble_eq_true rfl, Nat.le_of_ble_eq_true rfl⟩) hK hP hD hS hA [0, 1, 2, 3, 4, 5, 6, 7, 8, 9, 10, 11, 12, 13, 14, 15, 16] [] [0, 1, 2, 3, 4, 5, 6, 7, 8, 9, 10, 11, 12, 13, 14, 15, 16] (w_Mod cI cB cZ cS cT qt qt_state qt_readPage qt_tape qt_cuts qt_letters qt_queue qt_busyTo qt_servedIn qt_waysOn qt_costOn qt_aheads qt_seen qt_isKept qt_lanes qt_lengths qt_cells t_hasLaw t_hasCounters t_highest t_taped t_fault t_broken t_brokenAt t_spot t_here t_token t_value t_queued t_payed t_bestWait t_bestWhom t_bestCoins t_seenMany t_torn t_state t_readPage t_tape t_cuts t_letters t_queue t_busyTo t_servedIn t_waysOn t_costOn t_aheads t_seen t_isKept t_lanes t_lengths t_cells) rfl rfl rfl rfl (by decide) rfl rfl 9 0 rfl rfl rfl rfl hl.1 rfl (Nat.le_of_ble_eq_true rfl) dX9_door_2 ⟨Nat.zero_le _, Nat.zero_le _⟩ (fun H locs hP hD hS => ?_)
  refine mr_if_eq (tgt := 20) hx hb hM dX9_door_5 (by decide) (fun hM => ?_) (fun hM => ?_)
  · refine lv_iconst (v := (-1)) hx hb dX9_door_20 (by decide) ?_
    have hM := Option.some.inj hM
    subst hM
    exact mr_iret hx hb hr hlocks hQ hP hD hS rfl dX9_door_21
  · refine lv_iload_n hx hb dX9_door_8 rfl (lv_at hl 2 rfl) ?_
    refine lv_i2l hx hb dX9_door_9 rfl ?_
    refine lv_lconst (v := 0) hx hb dX9_door_10 (by decide) ?_
    refine lv_ldc2 (v := 2) hx hb hown hfc169 dX9_door_11 ?_
    obtain ⟨o_2, hc, hM⟩ := bind_so hM
    refine mr_callSi (As := [.long p2.toInt64, .long 0, .long 2]) (rest := []) ⟨hx, hb, hml, hown, hts⟩ (k_Mod_in l D cI cB cZ cS cT   p2.toInt64 0 2 _ hc) (cwS 3 hts gX9_door_X9_in rfl rfl rfl (by decide +kernel) ⟨Nat.le_of_ble_eq_true rfl, Nat.le_of_ble_eq_true rfl⟩) hK hP hD hS hA rfl hl.1 rfl (Nat.le_of_ble_eq_true rfl) dX9_door_14 ⟨Nat.zero_le _, Nat.zero_le _⟩ (fun H locs hP hS => ?_)
    refine mr_if_ne (tgt := 22) hx hb hM dX9_door_17 (by decide) (fun hM => ?_) (fun hM => ?_)
    · refine lv_aload_n hx hb dX9_door_22 rfl (lv_at hl 0 rfl) ?_
      obtain ⟨o_3, hc, hM⟩ := bind_so hM
      refine mr_callVv (As := []) (rest := []) (wr := []) ⟨hx, hb, hml, hown, hts⟩ (k_Mod_runsAll l D cI cB cZ cS cT qt qt_state qt_readPage qt_tape qt_cuts qt_letters qt_queue qt_busyTo qt_servedIn qt_waysOn qt_costOn qt_aheads qt_seen qt_isKept qt_lanes qt_lengths qt_cells t_hasLaw t_hasCounters t_highest t_taped t_fault t_broken t_brokenAt t_spot t_here t_token t_value t_queued t_payed t_bestWait t_bestWhom t_bestCoins t_seenMany t_torn t_state t_readPage t_tape t_cuts t_letters t_queue t_busyTo t_servedIn t_waysOn t_costOn t_aheads t_seen t_isKept t_lanes t_lengths t_cells  _ hc) (cwV 0 hts gX9_door_X9_runsAll rfl rfl rfl (by decide +kernel) ⟨Nat.le_of_ble_eq_true rfl, Nat.le_of_ble_eq_true rfl⟩) hK hP hD hS hA [0, 1, 2, 3, 4, 5, 6, 7, 8, 9, 10, 11, 12, 13, 14, 15, 16] [] [0, 1, 2, 3, 4, 5, 6, 7, 8, 9, 10, 11, 12, 13, 14, 15, 16] (w_Mod cI cB cZ cS cT qt qt_state qt_readPage qt_tape qt_cuts qt_letters qt_queue qt_busyTo qt_servedIn qt_waysOn qt_costOn qt_aheads qt_seen qt_isKept qt_lanes qt_lengths qt_cells t_hasLaw t_hasCounters t_highest t_taped t_fault t_broken t_brokenAt t_spot t_here t_token t_value o_3.1 o_3.2.1 t_bestWait t_bestWhom t_bestCoins t_seenMany t_torn o_3.2.2.1 t_readPage t_tape t_cuts t_letters o_3.2.2.2.1 o_3.2.2.2.2.1 o_3.2.2.2.2.2 t_waysOn t_costOn t_aheads t_seen t_isKept t_lanes t_lengths t_cells) rfl rfl rfl rfl (by decide) rfl rfl 9 0 rfl rfl rfl rfl hl.1 rfl (Nat.le_of_ble_eq_true rfl) dX9_door_23 ⟨Nat.zero_le _, Nat.zero_le _⟩ (fun H locs hP hD hS => ?_)
      refine lv_aload_n hx hb dX9_door_26 rfl (lv_at hl 0 rfl) ?_
      refine lv_aload_n hx hb dX9_door_27 rfl (lv_at hl 0 rfl) ?_
      refine lv_iload_n hx hb dX9_door_28 rfl (lv_at hl 1 rfl) ?_
      obtain ⟨o_4, hc, hM⟩ := bind_so hM
      refine mr_callVi (As := [.int p1]) (rest := [.ref qt]) (wr := []) ⟨hx, hb, hml, hown, hts⟩ (k_Mod_waitOf l D cI cB cZ cS cT qt qt_state qt_readPage qt_tape qt_cuts qt_letters qt_queue qt_busyTo qt_servedIn qt_waysOn qt_costOn qt_aheads qt_seen qt_isKept qt_lanes qt_lengths qt_cells t_hasLaw t_hasCounters t_highest t_taped t_fault t_broken t_brokenAt t_spot t_here t_token t_value o_3.1 o_3.2.1 t_bestWait t_bestWhom t_bestCoins t_seenMany t_torn o_3.2.2.1 t_readPage t_tape t_cuts t_letters o_3.2.2.2.1 o_3.2.2.2.2.1 o_3.2.2.2.2.2 t_waysOn t_costOn t_aheads t_seen t_isKept t_lanes t_lengths t_cells p1 _ hc) (cwV 1 hts gX9_door_X9_waitOf rfl rfl rfl (by decide +kernel) ⟨Nat.le_of_ble_eq_true rfl, Nat.le_of_ble_eq_true rfl⟩) hK hP hD hS hA [0, 1, 2, 3, 4, 5, 6, 7, 8, 9, 10, 11, 12, 13, 14, 15, 16] [] [0, 1, 2, 3, 4, 5, 6, 7, 8, 9, 10, 11, 12, 13, 14, 15, 16] (w_Mod cI cB cZ cS cT qt qt_state qt_readPage qt_tape qt_cuts qt_letters qt_queue qt_busyTo qt_servedIn qt_waysOn qt_costOn qt_aheads qt_seen qt_isKept qt_lanes qt_lengths qt_cells t_hasLaw t_hasCounters t_highest t_taped t_fault t_broken t_brokenAt t_spot t_here t_token t_value o_3.1 o_3.2.1 t_bestWait t_bestWhom t_bestCoins t_seenMany t_torn o_3.2.2.1 t_readPage t_tape t_cuts t_letters o_3.2.2.2.1 o_3.2.2.2.2.1 o_3.2.2.2.2.2 t_waysOn t_costOn t_aheads t_seen t_isKept t_lanes t_lengths t_cells) rfl rfl rfl rfl (by decide) rfl rfl 9 0 rfl rfl rfl rfl hl.1 rfl (Nat.le_of_ble_eq_true rfl) dX9_door_29 ⟨Nat.zero_le _, Nat.zero_le _⟩ (fun H locs hP hD hS => ?_)
      refine mr_put (D := D) (ci := 9) (v := .int o_4) (ty := .int) (C := RX9) (T := TX9) (N := 34) hx hb hts inX9w tyX9 tyX9_ok nmX9 hown hK hP hD hS 0 rfl rfl 24 (by decide) hf242 (fun _ h9 => h9) rfl (by decide +kernel) rfl rfl (Nat.le_of_ble_eq_true rfl) dX9_door_32 (w_Mod cI cB cZ cS cT qt qt_state qt_readPage qt_tape qt_cuts qt_letters qt_queue qt_busyTo qt_servedIn qt_waysOn qt_costOn qt_aheads qt_seen qt_isKept qt_lanes qt_lengths qt_cells t_hasLaw t_hasCounters t_highest t_taped t_fault t_broken t_brokenAt t_spot t_here t_token t_value o_3.1 o_3.2.1 o_4 t_bestWhom t_bestCoins t_seenMany t_torn o_3.2.2.1 t_readPage t_tape t_cuts t_letters o_3.2.2.2.1 o_3.2.2.2.2.1 o_3.2.2.2.2.2 t_waysOn t_costOn t_aheads t_seen t_isKept t_lanes t_lengths t_cells) rfl (fun H locs hP hD hS => ?_)
      refine lv_aload_n hx hb dX9_door_35 rfl (lv_at hl 0 rfl) ?_
      refine lv_bipush (v := (-4)) hx hb dX9_door_36 (by decide) ?_
      refine mr_put (D := D) (ci := 9) (v := .int (-4)) (ty := .int) (C := RX9) (T := TX9) (N := 34) hx hb hts inX9w tyX9 tyX9_ok nmX9 hown hK hP hD hS 0 rfl rfl 25 (by decide) hf245 (fun _ h9 => h9) rfl (by decide +kernel) rfl rfl (Nat.le_of_ble_eq_true rfl) dX9_door_38 (w_Mod cI cB cZ cS cT qt qt_state qt_readPage qt_tape qt_cuts qt_letters qt_queue qt_busyTo qt_servedIn qt_waysOn qt_costOn qt_aheads qt_seen qt_isKept qt_lanes qt_lengths qt_cells t_hasLaw t_hasCounters t_highest t_taped t_fault t_broken t_brokenAt t_spot t_here t_token t_value o_3.1 o_3.2.1 o_4 (-4) t_bestCoins t_seenMany t_torn o_3.2.2.1 t_readPage t_tape t_cuts t_letters o_3.2.2.2.1 o_3.2.2.2.2.1 o_3.2.2.2.2.2 t_waysOn t_costOn t_aheads t_seen t_isKept t_lanes t_lengths t_cells) rfl (fun H locs hP hD hS => ?_)
      refine lv_iconst (v := 0) hx hb dX9_door_41 (by decide) ?_
      refine lv_istore_n (lv' := [(3, .int 0), (0, .ref qt), (1, .int p1), (2, .int p2)]) hx hb dX9_door_42 rfl hl (by decide) rfl (fun ls hl => ?_)
      have hL43 : ∀ (K159 : Int32 → Int32 → Int32 → Int32 → Int32 → (Nat → Int32) → (Nat → Int32) → (Nat → Int32) → (Nat → Int32) → Option (Int32 × Int32 × Int32 × Int32 × Int32 × Int32 × (Nat → Int32) × (Nat → Int32) × (Nat → Int32) × (Nat → Int32))), (∀ (t_queued_47 t_payed_48 t_bestWait_49 t_bestWhom_50 t_bestCoins_51 : Int32) (t_state_52 t_queue_53 t_busyTo_54 t_servedIn_55 : Nat → Int32), K159 t_queued_47 t_payed_48 t_bestWait_49 t_bestWhom_50 t_bestCoins_51 t_state_52 t_queue_53 t_busyTo_54 t_servedIn_55 = some o → ∀ (H : Heap) (locs : List Loc), va_P D vwCl (w_Mod cI cB cZ cS cT qt qt_state qt_readPage qt_tape qt_cuts qt_letters qt_queue qt_busyTo qt_servedIn qt_waysOn qt_costOn qt_aheads qt_seen qt_isKept qt_lanes qt_lengths qt_cells t_hasLaw t_hasCounters t_highest t_taped t_fault t_broken t_brokenAt t_spot t_here t_token t_value t_queued_47 t_payed_48 t_bestWait_49 t_bestWhom_50 t_bestCoins_51 t_seenMany t_torn t_state_52 t_readPage t_tape t_cuts t_letters t_queue_53 t_busyTo_54 t_servedIn_55 t_waysOn t_costOn t_aheads t_seen t_isKept t_lanes t_lengths t_cells) H → va_D A (w_Mod cI cB cZ cS cT qt qt_state qt_readPage qt_tape qt_cuts qt_letters qt_queue qt_busyTo qt_servedIn qt_waysOn qt_costOn qt_aheads qt_seen qt_isKept qt_lanes qt_lengths qt_cells t_hasLaw t_hasCounters t_highest t_taped t_fault t_broken t_brokenAt t_spot t_here t_token t_value t_queued_47 t_payed_48 t_bestWait_49 t_bestWhom_50 t_bestCoins_51 t_seenMany t_torn t_state_52 t_readPage t_tape t_cuts t_letters t_queue_53 t_busyTo_54 t_servedIn_55 t_waysOn t_costOn t_aheads t_seen t_isKept t_lanes t_lengths t_cells) → va_S A s.heap H locs → ∀ ls : Array Slot, lv_has ls 5 [(0, .ref qt), (2, .int p2)] → W p l e rmX9_door s m av below meth c H locs 0 0 Q (F0 m 159 ls [])) → ∀ (n : Nat) (x3_5 t_queued_6 t_payed_7 t_bestWait_8 t_bestWhom_9 t_bestCoins_10 : Int32) (t_state_11 t_queue_12 t_busyTo_13 t_servedIn_14 : Nat → Int32), Mod_door_L43 p1 K159 n x3_5 t_queued_6 t_payed_7 t_bestWait_8 t_bestWhom_9 t_bestCoins_10 t_state_11 t_queue_12 t_busyTo_13 t_servedIn_14 = some o → ∀ (H : Heap) (locs : List Loc), va_P D vwCl (w_Mod cI cB cZ cS cT qt qt_state qt_readPage qt_tape qt_cuts qt_letters qt_queue qt_busyTo qt_servedIn qt_waysOn qt_costOn qt_aheads qt_seen qt_isKept qt_lanes qt_lengths qt_cells t_hasLaw t_hasCounters t_highest t_taped t_fault t_broken t_brokenAt t_spot t_here t_token t_value t_queued_6 t_payed_7 t_bestWait_8 t_bestWhom_9 t_bestCoins_10 t_seenMany t_torn t_state_11 t_readPage t_tape t_cuts t_letters t_queue_12 t_busyTo_13 t_servedIn_14 t_waysOn t_costOn t_aheads t_seen t_isKept t_lanes t_lengths t_cells) H → va_D A (w_Mod cI cB cZ cS cT qt qt_state qt_readPage qt_tape qt_cuts qt_letters qt_queue qt_busyTo qt_servedIn qt_waysOn qt_costOn qt_aheads qt_seen qt_isKept qt_lanes qt_lengths qt_cells t_hasLaw t_hasCounters t_highest t_taped t_fault t_broken t_brokenAt t_spot t_here t_token t_value t_queued_6 t_payed_7 t_bestWait_8 t_bestWhom_9 t_bestCoins_10 t_seenMany t_torn t_state_11 t_readPage t_tape t_cuts t_letters t_queue_12 t_busyTo_13 t_servedIn_14 t_waysOn t_costOn t_aheads t_seen t_isKept t_lanes t_lengths t_cells) → va_S A s.heap H locs → ∀ ls : Array Slot, lv_has ls 5 [(0, .ref qt), (1, .int p1), (2, .int p2), (3, .int x3_5)] → W p l e rmX9_door s m av below meth c H locs 0 0 Q (F0 m 43 ls []) := by
        intro K159 hK159 n
        induction n with
        | zero =>
          intro x3_5 t_queued_6 t_payed_7 t_bestWait_8 t_bestWhom_9 t_bestCoins_10 t_state_11 t_queue_12 t_busyTo_13 t_servedIn_14 hM
          rw [Mod_door_L43] at hM
          cases hM
        | succ n ih =>
          intro x3_5 t_queued_6 t_payed_7 t_bestWait_8 t_bestWhom_9 t_bestCoins_10 t_state_11 t_queue_12 t_busyTo_13 t_servedIn_14 hM H locs hP hD hS ls hl
          rw [Mod_door_L43] at hM
          refine lv_iload_n hx hb dX9_door_43 rfl (lv_at hl 3 rfl) ?_
          refine lv_aload_n hx hb dX9_door_44 rfl (lv_at hl 0 rfl) ?_
          obtain ⟨o_15, hc, hM⟩ := bind_so hM
          refine mr_callVi (As := []) (rest := [.int x3_5]) (wr := []) ⟨hx, hb, hml, hown, hts⟩ (k_Mod_many l D cI cB cZ cS cT qt qt_state qt_readPage qt_tape qt_cuts qt_letters qt_queue qt_busyTo qt_servedIn qt_waysOn qt_costOn qt_aheads qt_seen qt_isKept qt_lanes qt_lengths qt_cells t_hasLaw t_hasCounters t_highest t_taped t_fault t_broken t_brokenAt t_spot t_here t_token t_value t_queued_6 t_payed_7 t_bestWait_8 t_bestWhom_9 t_bestCoins_10 t_seenMany t_torn t_state_11 t_readPage t_tape t_cuts t_letters t_queue_12 t_busyTo_13 t_servedIn_14 t_waysOn t_costOn t_aheads t_seen t_isKept t_lanes t_lengths t_cells  _ hc) (cwV 0 hts gX9_door_X9_many rfl rfl rfl (by decide +kernel) ⟨Nat.le_of_ble_eq_true rfl, Nat.le_of_ble_eq_true rfl⟩) hK hP hD hS hA [0, 1, 2, 3, 4, 5, 6, 7, 8, 9, 10, 11, 12, 13, 14, 15, 16] [] [0, 1, 2, 3, 4, 5, 6, 7, 8, 9, 10, 11, 12, 13, 14, 15, 16] (w_Mod cI cB cZ cS cT qt qt_state qt_readPage qt_tape qt_cuts qt_letters qt_queue qt_busyTo qt_servedIn qt_waysOn qt_costOn qt_aheads qt_seen qt_isKept qt_lanes qt_lengths qt_cells t_hasLaw t_hasCounters t_highest t_taped t_fault t_broken t_brokenAt t_spot t_here t_token t_value t_queued_6 t_payed_7 t_bestWait_8 t_bestWhom_9 t_bestCoins_10 t_seenMany t_torn t_state_11 t_readPage t_tape t_cuts t_letters t_queue_12 t_busyTo_13 t_servedIn_14 t_waysOn t_costOn t_aheads t_seen t_isKept t_lanes t_lengths t_cells) rfl rfl rfl rfl (by decide) rfl rfl 9 0 rfl rfl rfl rfl hl.1 rfl (Nat.le_of_ble_eq_true rfl) dX9_door_45 ⟨Nat.zero_le _, Nat.zero_le _⟩ (fun H locs hP hD hS => ?_)
          refine mr_icmp_ge (tgt := 159) hx hb hM dX9_door_48 (by decide) (fun hM => ?_) (fun hM => ?_)
          · exact hK159 t_queued_6 t_payed_7 t_bestWait_8 t_bestWhom_9 t_bestCoins_10 t_state_11 t_queue_12 t_busyTo_13 t_servedIn_14 hM _ _ hP hD hS ls (lv_sub hl [0, 2] rfl)
          · refine lv_iconst (v := 1) hx hb dX9_door_51 (by decide) ?_
            refine lv_istore (lv' := [(4, .int 1), (0, .ref qt), (1, .int p1), (2, .int p2), (3, .int x3_5)]) hx hb dX9_door_52 hl (by decide) rfl (fun ls hl => ?_)
            have hL54 : ∀ (K153 : Int32 → Int32 → Int32 → Int32 → Int32 → (Nat → Int32) → (Nat → Int32) → (Nat → Int32) → (Nat → Int32) → Option (Int32 × Int32 × Int32 × Int32 × Int32 × Int32 × (Nat → Int32) × (Nat → Int32) × (Nat → Int32) × (Nat → Int32))), (∀ (t_queued_37 t_payed_38 t_bestWait_39 t_bestWhom_40 t_bestCoins_41 : Int32) (t_state_42 t_queue_43 t_busyTo_44 t_servedIn_45 : Nat → Int32), K153 t_queued_37 t_payed_38 t_bestWait_39 t_bestWhom_40 t_bestCoins_41 t_state_42 t_queue_43 t_busyTo_44 t_servedIn_45 = some o → ∀ (H : Heap) (locs : List Loc), va_P D vwCl (w_Mod cI cB cZ cS cT qt qt_state qt_readPage qt_tape qt_cuts qt_letters qt_queue qt_busyTo qt_servedIn qt_waysOn qt_costOn qt_aheads qt_seen qt_isKept qt_lanes qt_lengths qt_cells t_hasLaw t_hasCounters t_highest t_taped t_fault t_broken t_brokenAt t_spot t_here t_token t_value t_queued_37 t_payed_38 t_bestWait_39 t_bestWhom_40 t_bestCoins_41 t_seenMany t_torn t_state_42 t_readPage t_tape t_cuts t_letters t_queue_43 t_busyTo_44 t_servedIn_45 t_waysOn t_costOn t_aheads t_seen t_isKept t_lanes t_lengths t_cells) H → va_D A (w_Mod cI cB cZ cS cT qt qt_state qt_readPage qt_tape qt_cuts qt_letters qt_queue qt_busyTo qt_servedIn qt_waysOn qt_costOn qt_aheads qt_seen qt_isKept qt_lanes qt_lengths qt_cells t_hasLaw t_hasCounters t_highest t_taped t_fault t_broken t_brokenAt t_spot t_here t_token t_value t_queued_37 t_payed_38 t_bestWait_39 t_bestWhom_40 t_bestCoins_41 t_seenMany t_torn t_state_42 t_readPage t_tape t_cuts t_letters t_queue_43 t_busyTo_44 t_servedIn_45 t_waysOn t_costOn t_aheads t_seen t_isKept t_lanes t_lengths t_cells) → va_S A s.heap H locs → ∀ ls : Array Slot, lv_has ls 5 [(0, .ref qt), (1, .int p1), (2, .int p2), (3, .int x3_5)] → W p l e rmX9_door s m av below meth c H locs 0 0 Q (F0 m 153 ls [])) → ∀ (n : Nat) (x4_16 t_queued_17 t_payed_18 t_bestWait_19 t_bestWhom_20 t_bestCoins_21 : Int32) (t_state_22 t_queue_23 t_busyTo_24 t_servedIn_25 : Nat → Int32), Mod_door_L54 p1 x3_5 K153 n x4_16 t_queued_17 t_payed_18 t_bestWait_19 t_bestWhom_20 t_bestCoins_21 t_state_22 t_queue_23 t_busyTo_24 t_servedIn_25 = some o → ∀ (H : Heap) (locs : List Loc), va_P D vwCl (w_Mod cI cB cZ cS cT qt qt_state qt_readPage qt_tape qt_cuts qt_letters qt_queue qt_busyTo qt_servedIn qt_waysOn qt_costOn qt_aheads qt_seen qt_isKept qt_lanes qt_lengths qt_cells t_hasLaw t_hasCounters t_highest t_taped t_fault t_broken t_brokenAt t_spot t_here t_token t_value t_queued_17 t_payed_18 t_bestWait_19 t_bestWhom_20 t_bestCoins_21 t_seenMany t_torn t_state_22 t_readPage t_tape t_cuts t_letters t_queue_23 t_busyTo_24 t_servedIn_25 t_waysOn t_costOn t_aheads t_seen t_isKept t_lanes t_lengths t_cells) H → va_D A (w_Mod cI cB cZ cS cT qt qt_state qt_readPage qt_tape qt_cuts qt_letters qt_queue qt_busyTo qt_servedIn qt_waysOn qt_costOn qt_aheads qt_seen qt_isKept qt_lanes qt_lengths qt_cells t_hasLaw t_hasCounters t_highest t_taped t_fault t_broken t_brokenAt t_spot t_here t_token t_value t_queued_17 t_payed_18 t_bestWait_19 t_bestWhom_20 t_bestCoins_21 t_seenMany t_torn t_state_22 t_readPage t_tape t_cuts t_letters t_queue_23 t_busyTo_24 t_servedIn_25 t_waysOn t_costOn t_aheads t_seen t_isKept t_lanes t_lengths t_cells) → va_S A s.heap H locs → ∀ ls : Array Slot, lv_has ls 5 [(0, .ref qt), (1, .int p1), (2, .int p2), (3, .int x3_5), (4, .int x4_16)] → W p l e rmX9_door s m av below meth c H locs 0 0 Q (F0 m 54 ls []) := by
              intro K153 hK153 n
              induction n with
              | zero =>
                intro x4_16 t_queued_17 t_payed_18 t_bestWait_19 t_bestWhom_20 t_bestCoins_21 t_state_22 t_queue_23 t_busyTo_24 t_servedIn_25 hM
                rw [Mod_door_L54] at hM
                cases hM
              | succ n ih =>
                intro x4_16 t_queued_17 t_payed_18 t_bestWait_19 t_bestWhom_20 t_bestCoins_21 t_state_22 t_queue_23 t_busyTo_24 t_servedIn_25 hM H locs hP hD hS ls hl
                rw [Mod_door_L54] at hM
                refine lv_iload hx hb dX9_door_54 (lv_at hl 4 rfl) ?_
                refine lv_bipush (v := 50) hx hb dX9_door_56 (by decide) ?_
                refine mr_icmp_gt (tgt := 153) hx hb hM dX9_door_58 (by decide) (fun hM => ?_) (fun hM => ?_)
                · exact hK153 t_queued_17 t_payed_18 t_bestWait_19 t_bestWhom_20 t_bestCoins_21 t_state_22 t_queue_23 t_busyTo_24 t_servedIn_25 hM _ _ hP hD hS ls (lv_sub hl [0, 1, 2, 3] rfl)
                · refine lv_iload hx hb dX9_door_61 (lv_at hl 4 rfl) ?_
                  refine lv_aload_n hx hb dX9_door_63 rfl (lv_at hl 0 rfl) ?_
                  refine va_get (D := D) (ci := 9) (v := .ref qt_state) (C := RX9) (T := TX9) (N := 34) hx hb hts inX9w hown hK hP 0 rfl rfl 0 (by decide) hf7 (fun _ h9 => h9) rfl dX9_door_64 ?_
                  refine lv_bipush (v := 6) hx hb dX9_door_67 (by decide) ?_
                  refine lv_iload_n hx hb dX9_door_69 rfl (lv_at hl 1 rfl) ?_
                  refine lv_imul hx hb dX9_door_70 ?_
                  refine lv_iconst (v := 4) hx hb dX9_door_71 (by decide) ?_
                  refine lv_iadd hx hb dX9_door_72 ?_
                  refine mr_iald hx hb hK hP 1 0 rfl rfl hM dX9_door_73 (fun v_26 hM => ?_)
                  refine mr_icmp_gt (tgt := 153) hx hb hM dX9_door_74 (by decide) (fun hM => ?_) (fun hM => ?_)
                  · exact hK153 t_queued_17 t_payed_18 t_bestWait_19 t_bestWhom_20 t_bestCoins_21 t_state_22 t_queue_23 t_busyTo_24 t_servedIn_25 hM _ _ hP hD hS ls (lv_sub hl [0, 1, 2, 3] rfl)
                  · refine lv_iload_n hx hb dX9_door_77 rfl (lv_at hl 3 rfl) ?_
                    refine lv_iload_n hx hb dX9_door_78 rfl (lv_at hl 1 rfl) ?_
                    refine mr_icmp_eq (tgt := 153) hx hb hM dX9_door_79 (by decide) (fun hM => ?_) (fun hM => ?_)
                    · exact hK153 t_queued_17 t_payed_18 t_bestWait_19 t_bestWhom_20 t_bestCoins_21 t_state_22 t_queue_23 t_busyTo_24 t_servedIn_25 hM _ _ hP hD hS ls (lv_sub hl [0, 1, 2, 3] rfl)
                    · refine lv_aload_n hx hb dX9_door_82 rfl (lv_at hl 0 rfl) ?_
                      refine va_get (D := D) (ci := 9) (v := .ref qt_state) (C := RX9) (T := TX9) (N := 34) hx hb hts inX9w hown hK hP 0 rfl rfl 0 (by decide) hf7 (fun _ h9 => h9) rfl dX9_door_83 ?_
                      refine lv_iload_n hx hb dX9_door_86 rfl (lv_at hl 3 rfl) ?_
                      refine lv_iload_n hx hb dX9_door_87 rfl (lv_at hl 1 rfl) ?_
                      obtain ⟨o_27, hc, hM⟩ := bind_so hM
                      refine mr_callSi (As := [.int x3_5, .int p1]) (rest := [.ref qt_state]) ⟨hx, hb, hml, hown, hts⟩ (k_Mod_debtAt l D cI cB cZ cS cT   x3_5 p1 _ hc) (cwS 2 hts gX9_door_X9_debtAt rfl rfl rfl (by decide +kernel) ⟨Nat.le_of_ble_eq_true rfl, Nat.le_of_ble_eq_true rfl⟩) hK hP hD hS hA rfl hl.1 rfl (Nat.le_of_ble_eq_true rfl) dX9_door_88 ⟨Nat.zero_le _, Nat.zero_le _⟩ (fun H locs hP hS => ?_)
                      refine mr_iald hx hb hK hP 1 0 rfl rfl hM dX9_door_91 (fun v_28 hM => ?_)
                      refine lv_iload hx hb dX9_door_92 (lv_at hl 4 rfl) ?_
                      refine lv_iadd hx hb dX9_door_94 ?_
                      refine lv_sipush (v := 999) hx hb dX9_door_95 (by decide) ?_
                      refine mr_icmp_gt (tgt := 153) hx hb hM dX9_door_98 (by decide) (fun hM => ?_) (fun hM => ?_)
                      · exact hK153 t_queued_17 t_payed_18 t_bestWait_19 t_bestWhom_20 t_bestCoins_21 t_state_22 t_queue_23 t_busyTo_24 t_servedIn_25 hM _ _ hP hD hS ls (lv_sub hl [0, 1, 2, 3] rfl)
                      · refine lv_aload_n hx hb dX9_door_101 rfl (lv_at hl 0 rfl) ?_
                        refine lv_iconst (v := 0) hx hb dX9_door_102 (by decide) ?_
                        refine lv_sipush (v := 282) hx hb dX9_door_103 (by decide) ?_
                        obtain ⟨o_29, hc, hM⟩ := bind_so hM
                        refine mr_callVv (As := [.int 0, .int 282]) (rest := []) (wr := []) ⟨hx, hb, hml, hown, hts⟩ (k_Mod_copies l D cI cB cZ cS cT qt qt_state qt_readPage qt_tape qt_cuts qt_letters qt_queue qt_busyTo qt_servedIn qt_waysOn qt_costOn qt_aheads qt_seen qt_isKept qt_lanes qt_lengths qt_cells t_hasLaw t_hasCounters t_highest t_taped t_fault t_broken t_brokenAt t_spot t_here t_token t_value t_queued_17 t_payed_18 t_bestWait_19 t_bestWhom_20 t_bestCoins_21 t_seenMany t_torn t_state_22 t_readPage t_tape t_cuts t_letters t_queue_23 t_busyTo_24 t_servedIn_25 t_waysOn t_costOn t_aheads t_seen t_isKept t_lanes t_lengths t_cells 0 282 _ hc) (cwV 2 hts gX9_door_X9_copies rfl rfl rfl (by decide +kernel) ⟨Nat.le_of_ble_eq_true rfl, Nat.le_of_ble_eq_true rfl⟩) hK hP hD hS hA [0, 1, 2, 3, 4, 5, 6, 7, 8, 9, 10, 11, 12, 13, 14, 15, 16] [] [0, 1, 2, 3, 4, 5, 6, 7, 8, 9, 10, 11, 12, 13, 14, 15, 16] (w_Mod cI cB cZ cS cT qt qt_state qt_readPage qt_tape qt_cuts qt_letters qt_queue qt_busyTo qt_servedIn qt_waysOn qt_costOn qt_aheads qt_seen qt_isKept qt_lanes qt_lengths qt_cells t_hasLaw t_hasCounters t_highest t_taped t_fault t_broken t_brokenAt t_spot t_here t_token t_value t_queued_17 t_payed_18 t_bestWait_19 t_bestWhom_20 t_bestCoins_21 t_seenMany t_torn o_29 t_readPage t_tape t_cuts t_letters t_queue_23 t_busyTo_24 t_servedIn_25 t_waysOn t_costOn t_aheads t_seen t_isKept t_lanes t_lengths t_cells) rfl rfl rfl rfl (by decide) rfl rfl 9 0 rfl rfl rfl rfl hl.1 rfl (Nat.le_of_ble_eq_true rfl) dX9_door_106 ⟨Nat.zero_le _, Nat.zero_le _⟩ (fun H locs hP hD hS => ?_)
                        refine lv_aload_n hx hb dX9_door_109 rfl (lv_at hl 0 rfl) ?_
                        refine lv_sipush (v := 282) hx hb dX9_door_110 (by decide) ?_
                        refine lv_iload_n hx hb dX9_door_113 rfl (lv_at hl 1 rfl) ?_
                        refine lv_iload_n hx hb dX9_door_114 rfl (lv_at hl 3 rfl) ?_
                        refine lv_iload hx hb dX9_door_115 (lv_at hl 4 rfl) ?_
                        obtain ⟨o_30, hc, hM⟩ := bind_so hM
                        refine mr_callVv (As := [.int 282, .int p1, .int x3_5, .int x4_16]) (rest := []) (wr := []) ⟨hx, hb, hml, hown, hts⟩ (k_Mod_gives l D cI cB cZ cS cT qt qt_state qt_readPage qt_tape qt_cuts qt_letters qt_queue qt_busyTo qt_servedIn qt_waysOn qt_costOn qt_aheads qt_seen qt_isKept qt_lanes qt_lengths qt_cells t_hasLaw t_hasCounters t_highest t_taped t_fault t_broken t_brokenAt t_spot t_here t_token t_value t_queued_17 t_payed_18 t_bestWait_19 t_bestWhom_20 t_bestCoins_21 t_seenMany t_torn o_29 t_readPage t_tape t_cuts t_letters t_queue_23 t_busyTo_24 t_servedIn_25 t_waysOn t_costOn t_aheads t_seen t_isKept t_lanes t_lengths t_cells 282 p1 x3_5 x4_16 _ hc) (cwV 4 hts gX9_door_X9_gives rfl rfl rfl (by decide +kernel) ⟨Nat.le_of_ble_eq_true rfl, Nat.le_of_ble_eq_true rfl⟩) hK hP hD hS hA [0, 1, 2, 3, 4, 5, 6, 7, 8, 9, 10, 11, 12, 13, 14, 15, 16] [] [0, 1, 2, 3, 4, 5, 6, 7, 8, 9, 10, 11, 12, 13, 14, 15, 16] (w_Mod cI cB cZ cS cT qt qt_state qt_readPage qt_tape qt_cuts qt_letters qt_queue qt_busyTo qt_servedIn qt_waysOn qt_costOn qt_aheads qt_seen qt_isKept qt_lanes qt_lengths qt_cells t_hasLaw t_hasCounters t_highest t_taped t_fault t_broken t_brokenAt t_spot t_here t_token t_value t_queued_17 t_payed_18 t_bestWait_19 t_bestWhom_20 t_bestCoins_21 t_seenMany t_torn o_30 t_readPage t_tape t_cuts t_letters t_queue_23 t_busyTo_24 t_servedIn_25 t_waysOn t_costOn t_aheads t_seen t_isKept t_lanes t_lengths t_cells) rfl rfl rfl rfl (by decide) rfl rfl 9 0 rfl rfl rfl rfl hl.1 rfl (Nat.le_of_ble_eq_true rfl) dX9_door_117 ⟨Nat.zero_le _, Nat.zero_le _⟩ (fun H locs hP hD hS => ?_)
                        refine lv_aload_n hx hb dX9_door_120 rfl (lv_at hl 0 rfl) ?_
                        refine va_get (D := D) (ci := 9) (v := .ref qt_state) (C := RX9) (T := TX9) (N := 34) hx hb hts inX9w hown hK hP 0 rfl rfl 0 (by decide) hf7 (fun _ h9 => h9) rfl dX9_door_121 ?_
                        refine lv_sipush (v := 282) hx hb dX9_door_124 (by decide) ?_
                        refine lv_iload_n hx hb dX9_door_127 rfl (lv_at hl 3 rfl) ?_
                        refine lv_iload_n hx hb dX9_door_128 rfl (lv_at hl 1 rfl) ?_
                        obtain ⟨o_31, hc, hM⟩ := bind_so hM
                        refine mr_callSi (As := [.int x3_5, .int p1]) (rest := [.int 282, .ref qt_state]) ⟨hx, hb, hml, hown, hts⟩ (k_Mod_debtAt l D cI cB cZ cS cT   x3_5 p1 _ hc) (cwS 2 hts gX9_door_X9_debtAt rfl rfl rfl (by decide +kernel) ⟨Nat.le_of_ble_eq_true rfl, Nat.le_of_ble_eq_true rfl⟩) hK hP hD hS hA rfl hl.1 rfl (Nat.le_of_ble_eq_true rfl) dX9_door_129 ⟨Nat.zero_le _, Nat.zero_le _⟩ (fun H locs hP hS => ?_)
                        refine lv_iadd hx hb dX9_door_132 ?_
                        refine mr_nmI hM (fun v_32 hM => ?_)
                        refine lv_dup2_11 hx hb dX9_door_133 rfl rfl ?_
                        refine mr_iald hx hb hK hP 1 0 rfl rfl hM dX9_door_134 (fun v_33 hM => ?_)
                        refine lv_iload hx hb dX9_door_135 (lv_at hl 4 rfl) ?_
                        refine lv_iadd hx hb dX9_door_137 ?_
                        refine mr_iast hx hb hK hP hD hS 1 0 (fun t_state_34 => (w_Mod cI cB cZ cS cT qt qt_state qt_readPage qt_tape qt_cuts qt_letters qt_queue qt_busyTo qt_servedIn qt_waysOn qt_costOn qt_aheads qt_seen qt_isKept qt_lanes qt_lengths qt_cells t_hasLaw t_hasCounters t_highest t_taped t_fault t_broken t_brokenAt t_spot t_here t_token t_value t_queued_17 t_payed_18 t_bestWait_19 t_bestWhom_20 t_bestCoins_21 t_seenMany t_torn t_state_34 t_readPage t_tape t_cuts t_letters t_queue_23 t_busyTo_24 t_servedIn_25 t_waysOn t_costOn t_aheads t_seen t_isKept t_lanes t_lengths t_cells)) rfl rfl (fun _ => rfl) hM dX9_door_138 (fun t_state_34 hM H locs hP hD hS => ?_)
                        refine lv_aload_n hx hb dX9_door_139 rfl (lv_at hl 0 rfl) ?_
                        refine lv_iload_n hx hb dX9_door_140 rfl (lv_at hl 1 rfl) ?_
                        refine lv_iload_n hx hb dX9_door_141 rfl (lv_at hl 3 rfl) ?_
                        refine lv_iload hx hb dX9_door_142 (lv_at hl 4 rfl) ?_
                        obtain ⟨o_35, hc, hM⟩ := bind_so hM
                        refine mr_callVv (As := [.int p1, .int x3_5, .int x4_16]) (rest := []) (wr := []) ⟨hx, hb, hml, hown, hts⟩ (k_Mod_tries l D cI cB cZ cS cT qt qt_state qt_readPage qt_tape qt_cuts qt_letters qt_queue qt_busyTo qt_servedIn qt_waysOn qt_costOn qt_aheads qt_seen qt_isKept qt_lanes qt_lengths qt_cells t_hasLaw t_hasCounters t_highest t_taped t_fault t_broken t_brokenAt t_spot t_here t_token t_value t_queued_17 t_payed_18 t_bestWait_19 t_bestWhom_20 t_bestCoins_21 t_seenMany t_torn t_state_34 t_readPage t_tape t_cuts t_letters t_queue_23 t_busyTo_24 t_servedIn_25 t_waysOn t_costOn t_aheads t_seen t_isKept t_lanes t_lengths t_cells p1 x3_5 x4_16 _ hc) (cwV 3 hts gX9_door_X9_tries rfl rfl rfl (by decide +kernel) ⟨Nat.le_of_ble_eq_true rfl, Nat.le_of_ble_eq_true rfl⟩) hK hP hD hS hA [0, 1, 2, 3, 4, 5, 6, 7, 8, 9, 10, 11, 12, 13, 14, 15, 16] [] [0, 1, 2, 3, 4, 5, 6, 7, 8, 9, 10, 11, 12, 13, 14, 15, 16] (w_Mod cI cB cZ cS cT qt qt_state qt_readPage qt_tape qt_cuts qt_letters qt_queue qt_busyTo qt_servedIn qt_waysOn qt_costOn qt_aheads qt_seen qt_isKept qt_lanes qt_lengths qt_cells t_hasLaw t_hasCounters t_highest t_taped t_fault t_broken t_brokenAt t_spot t_here t_token t_value o_35.1 o_35.2.1 o_35.2.2.1 o_35.2.2.2.1 o_35.2.2.2.2.1 t_seenMany t_torn o_35.2.2.2.2.2.1 t_readPage t_tape t_cuts t_letters o_35.2.2.2.2.2.2.1 o_35.2.2.2.2.2.2.2.1 o_35.2.2.2.2.2.2.2.2 t_waysOn t_costOn t_aheads t_seen t_isKept t_lanes t_lengths t_cells) rfl rfl rfl rfl (by decide) rfl rfl 9 0 rfl rfl rfl rfl hl.1 rfl (Nat.le_of_ble_eq_true rfl) dX9_door_144 ⟨Nat.zero_le _, Nat.zero_le _⟩ (fun H locs hP hD hS => ?_)
                        refine mr_iinc (k := 4) (d := 1) hx hb (fun x4_36 => [(4, .int x4_36), (0, .ref qt), (1, .int p1), (2, .int p2), (3, .int x3_5)]) hM (by decide) dX9_door_147 hl rfl (by decide) (fun _ => rfl) (fun x4_36 hM ls hl => ?_)
                        refine lv_goto (tgt := 54) hx hb dX9_door_150 (by decide) ?_
                        exact ih x4_36 o_35.1 o_35.2.1 o_35.2.2.1 o_35.2.2.2.1 o_35.2.2.2.2.1 o_35.2.2.2.2.2.1 o_35.2.2.2.2.2.2.1 o_35.2.2.2.2.2.2.2.1 o_35.2.2.2.2.2.2.2.2 hM _ _ hP hD hS ls (lv_sub hl [1, 2, 3, 4, 0] rfl)
            refine hL54 _ (fun t_queued_37 t_payed_38 t_bestWait_39 t_bestWhom_40 t_bestCoins_41 t_state_42 t_queue_43 t_busyTo_44 t_servedIn_45 hM H locs hP hD hS ls hl => ?_) _ 1 t_queued_6 t_payed_7 t_bestWait_8 t_bestWhom_9 t_bestCoins_10 t_state_11 t_queue_12 t_busyTo_13 t_servedIn_14 hM _ _ hP hD hS ls (lv_sub hl [1, 2, 3, 4, 0] rfl)
            refine mr_iinc (k := 3) (d := 1) hx hb (fun x3_46 => [(3, .int x3_46), (0, .ref qt), (1, .int p1), (2, .int p2)]) hM (by decide) dX9_door_153 hl rfl (by decide) (fun _ => rfl) (fun x3_46 hM ls hl => ?_)
            refine lv_goto (tgt := 43) hx hb dX9_door_156 (by decide) ?_
            exact ih x3_46 t_queued_37 t_payed_38 t_bestWait_39 t_bestWhom_40 t_bestCoins_41 t_state_42 t_queue_43 t_busyTo_44 t_servedIn_45 hM _ _ hP hD hS ls (lv_sub hl [1, 2, 3, 0] rfl)
      refine hL43 _ (fun t_queued_47 t_payed_48 t_bestWait_49 t_bestWhom_50 t_bestCoins_51 t_state_52 t_queue_53 t_busyTo_54 t_servedIn_55 hM H locs hP hD hS ls hl => ?_) _ 0 o_3.1 o_3.2.1 o_4 (-4) t_bestCoins o_3.2.2.1 o_3.2.2.2.1 o_3.2.2.2.2.1 o_3.2.2.2.2.2 hM _ _ hP hD hS ls (lv_sub hl [1, 2, 3, 0] rfl)
      refine lv_aload_n hx hb dX9_door_159 rfl (lv_at hl 0 rfl) ?_
      refine lv_iload_n hx hb dX9_door_160 rfl (lv_at hl 1 rfl) ?_
      obtain ⟨o_56, hc, hM⟩ := bind_so hM
      refine mr_callVi (As := [.int p2]) (rest := []) (wr := []) ⟨hx, hb, hml, hown, hts⟩ (k_Mod_best l D cI cB cZ cS cT qt qt_state qt_readPage qt_tape qt_cuts qt_letters qt_queue qt_busyTo qt_servedIn qt_waysOn qt_costOn qt_aheads qt_seen qt_isKept qt_lanes qt_lengths qt_cells t_hasLaw t_hasCounters t_highest t_taped t_fault t_broken t_brokenAt t_spot t_here t_token t_value t_queued_47 t_payed_48 t_bestWait_49 t_bestWhom_50 t_bestCoins_51 t_seenMany t_torn t_state_52 t_readPage t_tape t_cuts t_letters t_queue_53 t_busyTo_54 t_servedIn_55 t_waysOn t_costOn t_aheads t_seen t_isKept t_lanes t_lengths t_cells p2 _ hc) (cwV 1 hts gX9_door_X9_best rfl rfl rfl (by decide +kernel) ⟨Nat.le_of_ble_eq_true rfl, Nat.le_of_ble_eq_true rfl⟩) hK hP hD hS hA [0, 1, 2, 3, 4, 5, 6, 7, 8, 9, 10, 11, 12, 13, 14, 15, 16] [] [0, 1, 2, 3, 4, 5, 6, 7, 8, 9, 10, 11, 12, 13, 14, 15, 16] (w_Mod cI cB cZ cS cT qt qt_state qt_readPage qt_tape qt_cuts qt_letters qt_queue qt_busyTo qt_servedIn qt_waysOn qt_costOn qt_aheads qt_seen qt_isKept qt_lanes qt_lengths qt_cells t_hasLaw t_hasCounters t_highest t_taped t_fault t_broken t_brokenAt t_spot t_here t_token t_value t_queued_47 t_payed_48 t_bestWait_49 t_bestWhom_50 t_bestCoins_51 t_seenMany t_torn t_state_52 t_readPage t_tape t_cuts t_letters t_queue_53 t_busyTo_54 t_servedIn_55 t_waysOn t_costOn t_aheads t_seen t_isKept t_lanes t_lengths t_cells) rfl rfl rfl rfl (by decide) rfl rfl 9 0 rfl rfl rfl rfl hl.1 rfl (Nat.le_of_ble_eq_true rfl) dX9_door_161 ⟨Nat.zero_le _, Nat.zero_le _⟩ (fun H locs hP hD hS => ?_)
      have hM := Option.some.inj hM
      subst hM
      exact mr_iret hx hb hr hlocks hQ hP hD hS rfl dX9_door_164
    · refine lv_iconst (v := (-1)) hx hb dX9_door_20 (by decide) ?_
      have hM := Option.some.inj hM
      subst hM
      exact mr_iret hx hb hr hlocks hQ hP hD hS rfl dX9_door_21
