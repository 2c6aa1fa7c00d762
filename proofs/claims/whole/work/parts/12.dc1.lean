theorem d_Dc_limbOf_0 : decode b_Dc_limbOf 0 = .ok (.bipush (34), 2) := by decide +kernel
theorem d_Dc_limbOf_2 : decode b_Dc_limbOf 2 = .ok (.iload_n 0, 1) := by decide +kernel
theorem d_Dc_limbOf_3 : decode b_Dc_limbOf 3 = .ok (.bipush (9), 2) := by decide +kernel
theorem d_Dc_limbOf_5 : decode b_Dc_limbOf 5 = .ok (.invokestatic 65, 3) := by decide +kernel
theorem d_Dc_limbOf_8 : decode b_Dc_limbOf 8 = .ok (.isub, 1) := by decide +kernel
theorem d_Dc_limbOf_9 : decode b_Dc_limbOf 9 = .ok (.ireturn, 1) := by decide +kernel
set_option maxHeartbeats 4000000 in
set_option maxRecDepth 100000 in
theorem c_Dc_limbOf (l : Launch) (D : va_G) (cI cB : ClassId) (x d la t ba tt : Nat) (ad : Nat → Nat) (V : Int) (tx : List Int) (pl : Int) (hpl : -100000 ≤ pl ∧ pl ≤ 100000) : Ct l y_Dc_limbOf (ws_Dc_limbOf) 1 (AX x d la t ba) [.int (iz pl)] (XW D cI cB x d la t ba tt ad V tx) (zR (some (.int (iz (34 - pl / 9)))) (XW D cI cB x d la t ba tt ad V tx)) := by
  refine z_body zSt_XW (by decide +kernel) rfl (Nat.le_of_ble_eq_true rfl) ?_
  intro p e s m args below meth c ls hx hb hml hr hlk hts0 hown hpre0 H locs hpre hS hl
  have hts : ∀ w ∈ TBL, w.before args s = true := fun w hw => hts0 w (List.mem_cons_of_mem _ hw)
  have hl : lv_has ls 1 [(0, .int (iz pl))] := hl
  have hw := hpre
  have hst0 := hpre0.st
  refine lv_bipush (v := iz 34) hx hb d_Dc_limbOf_0 (by decide) ?_
  refine lv_iload_n hx hb d_Dc_limbOf_2 rfl (lv_at hl 0 rfl) ?_
  refine lv_bipush (v := iz 9) hx hb d_Dc_limbOf_3 (by decide) ?_
  have hct := c_floorDiv l (AX x d la t ba) (XW D cI cB x d la t ba tt ad V tx) zSa_XW pl hpl
  refine z_go (va_runS (As := [.int (iz pl), .int (iz 9)]) (rest := [.int (iz 34)]) ⟨hx, hb, hml, hown, hts⟩ hct.2 (z_cwS hts w_Ma_floorDiv tw_288 (by decide)) (z_preS hct.1 hw) rfl rfl hl.1 rfl (lv_room (Nat.le_of_ble_eq_true rfl)) d_Dc_limbOf_5 ⟨Nat.zero_le _, Nat.zero_le _⟩) hS (fun _ h9 => h9) (fun v9 t9 H locs hv9 hp9 hz9 hk9 hS => ?_)
  obtain ⟨rfl, hw⟩ := hp9
  have hw := XW.moved hv9.symm hw
  refine W.eq (g2 := F0 m 8 ls [.int (iz (pl / 9)), .int (iz 34)]) rfl ?_
  refine z_isub hx hb d_Dc_limbOf_8 ?_
  exact z_iret hx hb hr hlk hS (zR_st zSt_XW) ⟨rfl, hw⟩ d_Dc_limbOf_9
theorem d_Dc_placeIn_0 : decode b_Dc_placeInLimb 0 = .ok (.iload_n 0, 1) := by decide +kernel
theorem d_Dc_placeIn_1 : decode b_Dc_placeInLimb 1 = .ok (.bipush (9), 2) := by decide +kernel
theorem d_Dc_placeIn_3 : decode b_Dc_placeInLimb 3 = .ok (.invokestatic 68, 3) := by decide +kernel
theorem d_Dc_placeIn_6 : decode b_Dc_placeInLimb 6 = .ok (.ireturn, 1) := by decide +kernel
set_option maxHeartbeats 4000000 in
set_option maxRecDepth 100000 in
theorem c_Dc_placeIn (l : Launch) (D : va_G) (cI cB : ClassId) (x d la t ba tt : Nat) (ad : Nat → Nat) (V : Int) (tx : List Int) (pl : Int) (hpl : -100000 ≤ pl ∧ pl ≤ 100000) : Ct l y_Dc_placeInLimb (ws_Dc_placeInLimb) 1 (AX x d la t ba) [.int (iz pl)] (XW D cI cB x d la t ba tt ad V tx) (zR (some (.int (iz (pl % 9)))) (XW D cI cB x d la t ba tt ad V tx)) := by
  refine z_body zSt_XW (by decide +kernel) rfl (Nat.le_of_ble_eq_true rfl) ?_
  intro p e s m args below meth c ls hx hb hml hr hlk hts0 hown hpre0 H locs hpre hS hl
  have hts : ∀ w ∈ TBL, w.before args s = true := fun w hw => hts0 w (List.mem_cons_of_mem _ hw)
  have hl : lv_has ls 1 [(0, .int (iz pl))] := hl
  have hw := hpre
  have hst0 := hpre0.st
  refine lv_iload_n hx hb d_Dc_placeIn_0 rfl (lv_at hl 0 rfl) ?_
  refine lv_bipush (v := iz 9) hx hb d_Dc_placeIn_1 (by decide) ?_
  have hct := c_floorMod l (AX x d la t ba) (XW D cI cB x d la t ba tt ad V tx) zSa_XW pl hpl
  refine z_go (va_runS (As := [.int (iz pl), .int (iz 9)]) (rest := []) ⟨hx, hb, hml, hown, hts⟩ hct.2 (z_cwS hts w_Ma_floorMod tw_294 (by decide)) (z_preS hct.1 hw) rfl rfl hl.1 rfl (lv_room (Nat.le_of_ble_eq_true rfl)) d_Dc_placeIn_3 ⟨Nat.zero_le _, Nat.zero_le _⟩) hS (fun _ h9 => h9) (fun v9 t9 H locs hv9 hp9 hz9 hk9 hS => ?_)
  obtain ⟨rfl, hw⟩ := hp9
  have hw := XW.moved hv9.symm hw
  refine W.eq (g2 := F0 m 6 ls [.int (iz (pl % 9))]) rfl ?_
  exact z_iret hx hb hr hlk hS (zR_st zSt_XW) ⟨rfl, hw⟩ d_Dc_placeIn_6
theorem d_Dc_lead_0 : decode b_Dc_leadingPlace 0 = .ok (.aload_n 0, 1) := by decide +kernel
theorem d_Dc_lead_1 : decode b_Dc_leadingPlace 1 = .ok (.getfield 13, 3) := by decide +kernel
theorem d_Dc_lead_4 : decode b_Dc_leadingPlace 4 = .ok (.istore_n 1, 1) := by decide +kernel
theorem d_Dc_lead_5 : decode b_Dc_leadingPlace 5 = .ok (.iload_n 1, 1) := by decide +kernel
theorem d_Dc_lead_6 : decode b_Dc_leadingPlace 6 = .ok (.aload_n 0, 1) := by decide +kernel
theorem d_Dc_lead_7 : decode b_Dc_leadingPlace 7 = .ok (.getfield 17, 3) := by decide +kernel
theorem d_Dc_lead_10 : decode b_Dc_leadingPlace 10 = .ok (.if_icmp .gt (46), 3) := by decide +kernel
theorem d_Dc_lead_13 : decode b_Dc_leadingPlace 13 = .ok (.bipush (8), 2) := by decide +kernel
theorem d_Dc_lead_15 : decode b_Dc_leadingPlace 15 = .ok (.istore_n 2, 1) := by decide +kernel
theorem d_Dc_lead_16 : decode b_Dc_leadingPlace 16 = .ok (.iload_n 2, 1) := by decide +kernel
theorem d_Dc_lead_17 : decode b_Dc_leadingPlace 17 = .ok (.ifCond .lt (33), 3) := by decide +kernel
theorem d_Dc_lead_20 : decode b_Dc_leadingPlace 20 = .ok (.aload_n 0, 1) := by decide +kernel
theorem d_Dc_lead_21 : decode b_Dc_leadingPlace 21 = .ok (.getfield 9, 3) := by decide +kernel
theorem d_Dc_lead_24 : decode b_Dc_leadingPlace 24 = .ok (.iload_n 1, 1) := by decide +kernel
theorem d_Dc_lead_25 : decode b_Dc_leadingPlace 25 = .ok (.iaload, 1) := by decide +kernel
theorem d_Dc_lead_26 : decode b_Dc_leadingPlace 26 = .ok (.getstatic 48, 3) := by decide +kernel
theorem d_Dc_lead_29 : decode b_Dc_leadingPlace 29 = .ok (.iload_n 2, 1) := by decide +kernel
theorem d_Dc_lead_30 : decode b_Dc_leadingPlace 30 = .ok (.iaload, 1) := by decide +kernel
theorem d_Dc_lead_31 : decode b_Dc_leadingPlace 31 = .ok (.if_icmp .lt (13), 3) := by decide +kernel
theorem d_Dc_lead_34 : decode b_Dc_leadingPlace 34 = .ok (.bipush (34), 2) := by decide +kernel
theorem d_Dc_lead_36 : decode b_Dc_leadingPlace 36 = .ok (.iload_n 1, 1) := by decide +kernel
theorem d_Dc_lead_37 : decode b_Dc_leadingPlace 37 = .ok (.isub, 1) := by decide +kernel
theorem d_Dc_lead_38 : decode b_Dc_leadingPlace 38 = .ok (.bipush (9), 2) := by decide +kernel
theorem d_Dc_lead_40 : decode b_Dc_leadingPlace 40 = .ok (.imul, 1) := by decide +kernel
theorem d_Dc_lead_41 : decode b_Dc_leadingPlace 41 = .ok (.iload_n 2, 1) := by decide +kernel
theorem d_Dc_lead_42 : decode b_Dc_leadingPlace 42 = .ok (.iadd, 1) := by decide +kernel
theorem d_Dc_lead_43 : decode b_Dc_leadingPlace 43 = .ok (.ireturn, 1) := by decide +kernel
theorem d_Dc_lead_44 : decode b_Dc_leadingPlace 44 = .ok (.iinc 2 (-1), 3) := by decide +kernel
theorem d_Dc_lead_47 : decode b_Dc_leadingPlace 47 = .ok (.goto (-31), 3) := by decide +kernel
theorem d_Dc_lead_50 : decode b_Dc_leadingPlace 50 = .ok (.iinc 1 (1), 3) := by decide +kernel
theorem d_Dc_lead_53 : decode b_Dc_leadingPlace 53 = .ok (.goto (-48), 3) := by decide +kernel
theorem d_Dc_lead_56 : decode b_Dc_leadingPlace 56 = .ok (.iconst 0, 1) := by decide +kernel
theorem d_Dc_lead_57 : decode b_Dc_leadingPlace 57 = .ok (.ireturn, 1) := by decide +kernel
set_option maxHeartbeats 4000000 in
set_option maxRecDepth 100000 in
theorem c_Dc_lead (l : Launch) (D : va_G) (cI cB : ClassId) (x d la t ba tt : Nat) (ad : Nat → Nat) (V : Int) (tx : List Int) (r : Int) (hlead : IsLead V r) : Ct l y_Dc_leadingPlace (ws_Dc_leadingPlace) 0 (AX x d la t ba) [.ref d] (XW D cI cB x d la t ba tt ad V tx) (zR (some (.int (iz r))) (XW D cI cB x d la t ba tt ad V tx)) := by
  refine z_body zSt_XW (by decide +kernel) rfl (Nat.le_of_ble_eq_true rfl) ?_
  intro p e s m args below meth c ls hx hb hml hr hlk hts0 hown hpre0 H locs hpre hS hl
  have hts : ∀ w ∈ TBL, w.before args s = true := fun w hw => hts0 w (List.mem_cons_of_mem _ hw)
  have hl : lv_has ls 3 [(0, .ref d)] := hl
  have hw := hpre
  have hst0 := hpre0.st
  have hw9 := hw
  obtain ⟨lt, f, fi, g, n, ⟨hK, hP, hD⟩, hdec, htx, -⟩ := hw9
  have hdr := hdec.1
  have htn := htx.1
  have htl := htx.2.1
  have L5 : ∀ (N5 : Nat) (i : Int) (H : Heap) (locs : List Loc) (ls : Array Slot), va_P D vwCl [(x, .inr (0, [.ref d, .ref t])), (d, .inr (1, [.ref la, .int (iz fi), .int (iz lt)])), (la, .inl (cI, 155, .inl (az f))), (t, .inr (2, [.ref ba, .int (iz n)])), (ba, .inl (cB, 1612, .inl (az g)))] H → va_D (AX x d la t ba) [(x, .inr (0, [.ref d, .ref t])), (d, .inr (1, [.ref la, .int (iz fi), .int (iz lt)])), (la, .inl (cI, 155, .inl (az f))), (t, .inr (2, [.ref ba, .int (iz n)])), (ba, .inl (cB, 1612, .inl (az g)))] → va_S (AX x d la t ba) s.heap H locs → lv_has ls 3 [(0, .ref d), (1, .int (iz i))] → (fi ≤ i ∧ i ≤ lt + 1) → (∀ j, fi ≤ j → j < i → f j = 0) → (lt + 1 - i).toNat < N5 → W p l e (zrm 0) s m args below meth c H locs 0 0 (MQ below (zQ (AX x d la t ba) (zR (some (.int (iz r))) (XW D cI cB x d la t ba tt ad V tx))) args s 0 0 (AX x d la t ba)) (F0 m 5 ls []) := by
    intro N5
    induction N5 with
    | zero => intro i H locs ls hP hD hS hl hi hz hN5; exact absurd hN5 (Nat.not_lt_zero _)
    | succ N5 ih5 =>
      intro i H locs ls hP hD hS hl hi hz hN5
      have L16 : ∀ (N16 : Nat) (w : Int) (H : Heap) (locs : List Loc) (ls : Array Slot), va_P D vwCl [(x, .inr (0, [.ref d, .ref t])), (d, .inr (1, [.ref la, .int (iz fi), .int (iz lt)])), (la, .inl (cI, 155, .inl (az f))), (t, .inr (2, [.ref ba, .int (iz n)])), (ba, .inl (cB, 1612, .inl (az g)))] H → va_D (AX x d la t ba) [(x, .inr (0, [.ref d, .ref t])), (d, .inr (1, [.ref la, .int (iz fi), .int (iz lt)])), (la, .inl (cI, 155, .inl (az f))), (t, .inr (2, [.ref ba, .int (iz n)])), (ba, .inl (cB, 1612, .inl (az g)))] → va_S (AX x d la t ba) s.heap H locs → lv_has ls 3 [(0, .ref d), (1, .int (iz i)), (2, .int (iz w))] → (-1 ≤ w ∧ w ≤ 8) → (i ≤ lt) → (f i < 10 ^ (w + 1).toNat) → (w + 1).toNat < N16 → W p l e (zrm 0) s m args below meth c H locs 0 0 (MQ below (zQ (AX x d la t ba) (zR (some (.int (iz r))) (XW D cI cB x d la t ba tt ad V tx))) args s 0 0 (AX x d la t ba)) (F0 m 16 ls []) := by
        intro N16
        induction N16 with
        | zero => intro w H locs ls hP hD hS hl hw1 hilt hw2 hN16; exact absurd hN16 (Nat.not_lt_zero _)
        | succ N16 ih16 =>
          intro w H locs ls hP hD hS hl hw1 hilt hw2 hN16
          refine lv_iload_n hx hb d_Dc_lead_16 rfl (lv_at hl 2 rfl) ?_
          refine z_if_lt (tgt := 50) hx hb d_Dc_lead_17 rfl ⟨by omega, by omega⟩ (fun hc17 => ?_) (fun hc17 => ?_)
          · refine lv_iinc (k := 1) (v := (iz (i + 1))) hx hb d_Dc_lead_50 hl rfl (by show iz _ + iz (1) = _; rw [← iz_add]; try rfl) (by decide) rfl (fun ls hl => ?_)
            have hl : lv_has ls 3 [(1, .int (iz (i + 1))), (0, .ref d), (2, .int (iz w))] := hl
            refine lv_goto (tgt := 5) hx hb d_Dc_lead_53 rfl ?_
            exact ih5 (i + 1) _ _ _ hP hD hS (lv_sub hl [1, 0] rfl) ⟨by omega, by omega⟩ (fun j h1 h2 => by
                    by_cases hq : j = i
                    · subst hq
                      have h7 := (hdec.2.1 j).1
                      have h8 : f j < 10 ^ 0 := by rw [show (w + 1).toNat = 0 by omega] at hw2; exact hw2
                      omega
                    · exact hz j h1 (by omega)) (by omega)
          · have hfi := hdec.2.1 i
            have hp8 := pow10_8 (w := w) (by omega)
            refine lv_aload_n hx hb d_Dc_lead_20 rfl (lv_at hl 0 rfl) ?_
            refine va_get (D := D) (ci := 1) (v := .ref la) (C := R_1) (T := T_1) (N := 3) hx hb hts in_1 hown hK hP 1 rfl rfl 0 (by decide) (hts _ tw_33) (fun _ h9 => h9) rfl d_Dc_lead_21 ?_
            refine lv_iload_n hx hb d_Dc_lead_24 rfl (lv_at hl 1 rfl) ?_
            refine z_iald hx hb hK hP 2 0 rfl rfl (by omega) (by omega) (by decide) d_Dc_lead_25 ?_
            refine va_gets hx hb hst0.1 hS hown (hts _ tw_275) (fun _ h9 => h9) d_Dc_lead_26 ?_
            refine lv_iload_n hx hb d_Dc_lead_29 rfl (lv_at hl 2 rfl) ?_
            refine z_ten hx hb hst0.2.1 hS (by omega) (by omega) d_Dc_lead_30 ?_
            refine z_icmp_lt (tgt := 44) hx hb d_Dc_lead_31 rfl ⟨by omega, by omega⟩ ⟨by omega, by omega⟩ (fun hc31 => ?_) (fun hc31 => ?_)
            · refine lv_iinc (k := 2) (v := (iz (w - 1))) hx hb d_Dc_lead_44 hl rfl (by show iz _ + iz (-1) = _; rw [← iz_add]; try rfl) (by decide) rfl (fun ls hl => ?_)
              have hl : lv_has ls 3 [(2, .int (iz (w - 1))), (0, .ref d), (1, .int (iz i))] := hl
              refine lv_goto (tgt := 16) hx hb d_Dc_lead_47 rfl ?_
              exact ih16 (w - 1) _ _ _ hP hD hS (lv_sub hl [1, 2, 0] rfl) ⟨by omega, by omega⟩ hilt (by rw [show w - 1 + 1 = w by omega]; exact hc31) (by omega)
            · refine lv_bipush (v := iz 34) hx hb d_Dc_lead_34 (by decide) ?_
              refine lv_iload_n hx hb d_Dc_lead_36 rfl (lv_at hl 1 rfl) ?_
              refine z_isub hx hb d_Dc_lead_37 ?_
              refine lv_bipush (v := iz 9) hx hb d_Dc_lead_38 (by decide) ?_
              refine z_imul hx hb d_Dc_lead_40 ?_
              refine lv_iload_n hx hb d_Dc_lead_41 rfl (lv_at hl 2 rfl) ?_
              refine z_iadd hx hb d_Dc_lead_42 ?_
              have e8 : (34 - i) * 9 + w = r := IsLead.uniq (by
                have h8 := lead_at hdec.2.1 (i := i) (w := w) ⟨by omega, by omega⟩ ⟨by omega, by omega⟩ (fun j hj => by
                  by_cases hq : j < fi
                  · exact hdec.2.2.1 j (Or.inl hq)
                  · exact hz j (by omega) hj) hc31 hw2
                rw [hdec.2.2.2] at h8
                exact h8) hlead
              exact z_iret hx hb hr hlk hS (zR_st zSt_XW) ⟨by rw [e8], ⟨_, _, _, _, _, ⟨hK, hP, hD⟩, hdec, htx, hst0.kept hS.2.1⟩⟩ d_Dc_lead_43
      refine lv_iload_n hx hb d_Dc_lead_5 rfl (lv_at hl 1 rfl) ?_
      refine lv_aload_n hx hb d_Dc_lead_6 rfl (lv_at hl 0 rfl) ?_
      refine va_get (D := D) (ci := 1) (v := .int (iz lt)) (C := R_1) (T := T_1) (N := 3) hx hb hts in_1 hown hK hP 1 rfl rfl 2 (by decide) (hts _ tw_35) (fun _ h9 => h9) rfl d_Dc_lead_7 ?_
      refine z_icmp_gt (tgt := 56) hx hb d_Dc_lead_10 rfl ⟨by omega, by omega⟩ ⟨by omega, by omega⟩ (fun hc10 => ?_) (fun hc10 => ?_)
      · refine lv_iconst (v := iz 0) hx hb d_Dc_lead_56 rfl ?_
        have e8 : 0 = r := IsLead.uniq (by
          have h8 := lead_none (by omega) hdec.2.2.1 (fun j h1 h2 => hz j h1 (by omega))
          rw [hdec.2.2.2] at h8
          exact h8) hlead
        exact z_iret hx hb hr hlk hS (zR_st zSt_XW) ⟨by rw [e8], ⟨_, _, _, _, _, ⟨hK, hP, hD⟩, hdec, htx, hst0.kept hS.2.1⟩⟩ d_Dc_lead_57
      · refine lv_bipush (v := iz 8) hx hb d_Dc_lead_13 (by decide) ?_
        refine lv_istore_n hx hb d_Dc_lead_15 rfl hl (by decide) rfl (fun ls hl => ?_)
        have hl : lv_has ls 3 [(2, .int (iz 8)), (0, .ref d), (1, .int (iz i))] := hl
        exact L16 _ 8 _ _ _ hP hD hS (lv_sub hl [1, 2, 0] rfl) ⟨by omega, by omega⟩ (by omega) (hdec.2.1 i).2 (Nat.lt_succ_self _)
  refine lv_aload_n hx hb d_Dc_lead_0 rfl (lv_at hl 0 rfl) ?_
  refine va_get (D := D) (ci := 1) (v := .int (iz fi)) (C := R_1) (T := T_1) (N := 3) hx hb hts in_1 hown hK hP 1 rfl rfl 1 (by decide) (hts _ tw_34) (fun _ h9 => h9) rfl d_Dc_lead_1 ?_
  refine lv_istore_n hx hb d_Dc_lead_4 rfl hl (by decide) rfl (fun ls hl => ?_)
  have hl : lv_has ls 3 [(1, .int (iz fi)), (0, .ref d)] := hl
  exact L5 _ fi _ _ _ hP hD hS (lv_sub hl [1, 0] rfl) ⟨by omega, by omega⟩ (fun j h1 h2 => absurd h1 (by omega)) (Nat.lt_succ_self _)
theorem d_Dc_digitAt_0 : decode b_Dc_digitAt 0 = .ok (.iload_n 1, 1) := by decide +kernel
theorem d_Dc_digitAt_1 : decode b_Dc_digitAt 1 = .ok (.invokestatic 51, 3) := by decide +kernel
theorem d_Dc_digitAt_4 : decode b_Dc_digitAt 4 = .ok (.istore_n 2, 1) := by decide +kernel
theorem d_Dc_digitAt_5 : decode b_Dc_digitAt 5 = .ok (.iload_n 2, 1) := by decide +kernel
theorem d_Dc_digitAt_6 : decode b_Dc_digitAt 6 = .ok (.aload_n 0, 1) := by decide +kernel
theorem d_Dc_digitAt_7 : decode b_Dc_digitAt 7 = .ok (.getfield 13, 3) := by decide +kernel
theorem d_Dc_digitAt_10 : decode b_Dc_digitAt 10 = .ok (.if_icmp .lt (11), 3) := by decide +kernel
theorem d_Dc_digitAt_13 : decode b_Dc_digitAt 13 = .ok (.iload_n 2, 1) := by decide +kernel
theorem d_Dc_digitAt_14 : decode b_Dc_digitAt 14 = .ok (.aload_n 0, 1) := by decide +kernel
theorem d_Dc_digitAt_15 : decode b_Dc_digitAt 15 = .ok (.getfield 17, 3) := by decide +kernel
theorem d_Dc_digitAt_18 : decode b_Dc_digitAt 18 = .ok (.if_icmp .le (5), 3) := by decide +kernel
theorem d_Dc_digitAt_21 : decode b_Dc_digitAt 21 = .ok (.iconst 0, 1) := by decide +kernel
theorem d_Dc_digitAt_22 : decode b_Dc_digitAt 22 = .ok (.ireturn, 1) := by decide +kernel
theorem d_Dc_digitAt_23 : decode b_Dc_digitAt 23 = .ok (.aload_n 0, 1) := by decide +kernel
theorem d_Dc_digitAt_24 : decode b_Dc_digitAt 24 = .ok (.getfield 9, 3) := by decide +kernel
theorem d_Dc_digitAt_27 : decode b_Dc_digitAt 27 = .ok (.iload_n 2, 1) := by decide +kernel
theorem d_Dc_digitAt_28 : decode b_Dc_digitAt 28 = .ok (.iaload, 1) := by decide +kernel
theorem d_Dc_digitAt_29 : decode b_Dc_digitAt 29 = .ok (.getstatic 48, 3) := by decide +kernel
theorem d_Dc_digitAt_32 : decode b_Dc_digitAt 32 = .ok (.iload_n 1, 1) := by decide +kernel
theorem d_Dc_digitAt_33 : decode b_Dc_digitAt 33 = .ok (.invokestatic 55, 3) := by decide +kernel
theorem d_Dc_digitAt_36 : decode b_Dc_digitAt 36 = .ok (.iaload, 1) := by decide +kernel
theorem d_Dc_digitAt_37 : decode b_Dc_digitAt 37 = .ok (.idiv, 1) := by decide +kernel
theorem d_Dc_digitAt_38 : decode b_Dc_digitAt 38 = .ok (.bipush (10), 2) := by decide +kernel
theorem d_Dc_digitAt_40 : decode b_Dc_digitAt 40 = .ok (.irem, 1) := by decide +kernel
theorem d_Dc_digitAt_41 : decode b_Dc_digitAt 41 = .ok (.ireturn, 1) := by decide +kernel
set_option maxHeartbeats 4000000 in
set_option maxRecDepth 100000 in
theorem c_Dc_digitAt (l : Launch) (D : va_G) (cI cB : ClassId) (x d la t ba tt : Nat) (ad : Nat → Nat) (V : Int) (tx : List Int) (pl : Int) (hpl : -100000 ≤ pl ∧ pl ≤ 100000) : Ct l y_Dc_digitAt (ws_Dc_digitAt) 2 (AX x d la t ba) [.ref d, .int (iz pl)] (XW D cI cB x d la t ba tt ad V tx) (zR (some (.int (iz (dgt V pl)))) (XW D cI cB x d la t ba tt ad V tx)) := by
  refine z_body zSt_XW (by decide +kernel) rfl (Nat.le_of_ble_eq_true rfl) ?_
  intro p e s m args below meth c ls hx hb hml hr hlk hts0 hown hpre0 H locs hpre hS hl
  have hts : ∀ w ∈ TBL, w.before args s = true := fun w hw => hts0 w (List.mem_cons_of_mem _ hw)
  have hl : lv_has ls 3 [(0, .ref d), (1, .int (iz pl))] := hl
  have hw := hpre
  have hst0 := hpre0.st
  refine lv_iload_n hx hb d_Dc_digitAt_0 rfl (lv_at hl 1 rfl) ?_
  have hct := c_Dc_limbOf l D cI cB x d la t ba tt ad V tx pl hpl
  refine z_go (va_runS (As := [.int (iz pl)]) (rest := []) ⟨hx, hb, hml, hown, hts⟩ hct.2 (z_cwS hts w_Dc_limbOf tw_285 (by decide)) (z_preS hct.1 hw) rfl rfl hl.1 rfl (lv_room (Nat.le_of_ble_eq_true rfl)) d_Dc_digitAt_1 ⟨Nat.zero_le _, Nat.zero_le _⟩) hS (fun _ h9 => h9) (fun v9 t9 H locs hv9 hp9 hz9 hk9 hS => ?_)
  obtain ⟨rfl, hw⟩ := hp9
  have hw := XW.moved hv9.symm hw
  refine W.eq (g2 := F0 m 4 ls [.int (iz (34 - pl / 9))]) rfl ?_
  refine lv_istore_n hx hb d_Dc_digitAt_4 rfl hl (by decide) rfl (fun ls hl => ?_)
  have hl : lv_has ls 3 [(2, .int (iz (34 - pl / 9))), (0, .ref d), (1, .int (iz pl))] := hl
  refine lv_iload_n hx hb d_Dc_digitAt_5 rfl (lv_at hl 0 rfl) ?_
  refine lv_aload_n hx hb d_Dc_digitAt_6 rfl (lv_at hl 1 rfl) ?_
  have hw9 := hw
  obtain ⟨lt, f, fi, g, n, ⟨hK, hP, hD⟩, hdec, htx, -⟩ := hw9
  have hdr := hdec.1
  have htn := htx.1
  have htl := htx.2.1
  have hP : va_P D vwCl [(x, .inr (0, [.ref d, .ref t])), (d, .inr (1, [.ref la, .int (iz fi), .int (iz lt)])), (la, .inl (cI, 155, .inl (az f))), (t, .inr (2, [.ref ba, .int (iz n)])), (ba, .inl (cB, 1612, .inl (az g)))] H := hP
  have hD : va_D (AX x d la t ba) [(x, .inr (0, [.ref d, .ref t])), (d, .inr (1, [.ref la, .int (iz fi), .int (iz lt)])), (la, .inl (cI, 155, .inl (az f))), (t, .inr (2, [.ref ba, .int (iz n)])), (ba, .inl (cB, 1612, .inl (az g)))] := hD
  refine va_get (D := D) (ci := 1) (v := .int (iz fi)) (C := R_1) (T := T_1) (N := 3) hx hb hts in_1 hown hK hP 1 rfl rfl 1 (by decide) (hts _ tw_34) (fun _ h9 => h9) rfl d_Dc_digitAt_7 ?_
  refine z_icmp_lt (tgt := 21) hx hb d_Dc_digitAt_10 rfl ⟨by omega, by omega⟩ ⟨by omega, by omega⟩ (fun hc10 => ?_) (fun hc10 => ?_)
  · refine lv_iconst (v := iz 0) hx hb d_Dc_digitAt_21 rfl ?_
    exact z_iret hx hb hr hlk hS (zR_st zSt_XW) ⟨by rw [← hdec.2.2.2, dgt_out hdec.2.1 hdec.2.2.1 (by omega)], hw⟩ d_Dc_digitAt_22
  · refine lv_iload_n hx hb d_Dc_digitAt_13 rfl (lv_at hl 0 rfl) ?_
    refine lv_aload_n hx hb d_Dc_digitAt_14 rfl (lv_at hl 1 rfl) ?_
    refine va_get (D := D) (ci := 1) (v := .int (iz lt)) (C := R_1) (T := T_1) (N := 3) hx hb hts in_1 hown hK hP 1 rfl rfl 2 (by decide) (hts _ tw_35) (fun _ h9 => h9) rfl d_Dc_digitAt_15 ?_
    refine z_icmp_le (tgt := 23) hx hb d_Dc_digitAt_18 rfl ⟨by omega, by omega⟩ ⟨by omega, by omega⟩ (fun hc18 => ?_) (fun hc18 => ?_)
    · have hfr := hdec.2.1 (34 - pl / 9)
      have hp8 := pow10_8 (w := pl % 9) (by omega)
      have hd8 : dgt V pl = f (34 - pl / 9) / 10 ^ (pl % 9).toNat % 10 := by
        rw [← hdec.2.2.2]
        exact dgt_pv hdec.2.1 (by omega) (by omega)
      have hq8 : 0 ≤ f (34 - pl / 9) / 10 ^ (pl % 9).toNat := Int.ediv_nonneg (by omega) (by omega)
      have hq9 : f (34 - pl / 9) / 10 ^ (pl % 9).toNat ≤ f (34 - pl / 9) := Int.ediv_le_self _ (by omega)
      refine lv_aload_n hx hb d_Dc_digitAt_23 rfl (lv_at hl 1 rfl) ?_
      refine va_get (D := D) (ci := 1) (v := .ref la) (C := R_1) (T := T_1) (N := 3) hx hb hts in_1 hown hK hP 1 rfl rfl 0 (by decide) (hts _ tw_33) (fun _ h9 => h9) rfl d_Dc_digitAt_24 ?_
      refine lv_iload_n hx hb d_Dc_digitAt_27 rfl (lv_at hl 0 rfl) ?_
      refine z_iald hx hb hK hP 2 0 rfl rfl (by omega) (by omega) (by decide) d_Dc_digitAt_28 ?_
      refine va_gets hx hb hst0.1 hS hown (hts _ tw_275) (fun _ h9 => h9) d_Dc_digitAt_29 ?_
      refine lv_iload_n hx hb d_Dc_digitAt_32 rfl (lv_at hl 2 rfl) ?_
      have hct := c_Dc_placeIn l D cI cB x d la t ba tt ad V tx pl hpl
      refine z_go (va_runS (As := [.int (iz pl)]) (rest := [.ref tt, .int (iz (f (34 - pl / 9)))]) ⟨hx, hb, hml, hown, hts⟩ hct.2 (z_cwS hts w_Dc_placeInLimb tw_291 (by decide)) (z_preS hct.1 hw) rfl rfl hl.1 rfl (lv_room (Nat.le_of_ble_eq_true rfl)) d_Dc_digitAt_33 ⟨Nat.zero_le _, Nat.zero_le _⟩) hS (fun _ h9 => h9) (fun v9 t9 H locs hv9 hp9 hz9 hk9 hS => ?_)
      obtain ⟨rfl, hw⟩ := hp9
      have hw := XW.moved hv9.symm hw
      refine W.eq (g2 := F0 m 36 ls [.int (iz (pl % 9)), .ref tt, .int (iz (f (34 - pl / 9)))]) rfl ?_
      refine z_ten hx hb hst0.2.1 hS (by omega) (by omega) d_Dc_digitAt_36 ?_
      refine z_idiv hx hb d_Dc_digitAt_37 ⟨by omega, by omega⟩ ⟨by omega, by omega⟩ ?_
      refine lv_bipush (v := iz 10) hx hb d_Dc_digitAt_38 (by decide) ?_
      refine z_irem hx hb d_Dc_digitAt_40 ⟨by omega, by omega⟩ ⟨by omega, by omega⟩ ?_
      exact z_iret hx hb hr hlk hS (zR_st zSt_XW) ⟨by rw [hd8], hw⟩ d_Dc_digitAt_41
    · refine lv_iconst (v := iz 0) hx hb d_Dc_digitAt_21 rfl ?_
      exact z_iret hx hb hr hlk hS (zR_st zSt_XW) ⟨by rw [← hdec.2.2.2, dgt_out hdec.2.1 hdec.2.2.1 (by omega)], hw⟩ d_Dc_digitAt_22
