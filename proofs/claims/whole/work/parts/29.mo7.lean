theorem d_Mo_gen_0 : decode b_Mo_general 0 = .ok (.iload_n 2, 1) := by decide +kernel
theorem d_Mo_gen_1 : decode b_Mo_general 1 = .ok (.ifCond .ne (7), 3) := by decide +kernel
theorem d_Mo_gen_4 : decode b_Mo_general 4 = .ok (.iconst 1, 1) := by decide +kernel
theorem d_Mo_gen_5 : decode b_Mo_general 5 = .ok (.goto (4), 3) := by decide +kernel
theorem d_Mo_gen_8 : decode b_Mo_general 8 = .ok (.iload_n 2, 1) := by decide +kernel
theorem d_Mo_gen_9 : decode b_Mo_general 9 = .ok (.istore 4, 2) := by decide +kernel
theorem d_Mo_gen_11 : decode b_Mo_general 11 = .ok (.aload_n 1, 1) := by decide +kernel
theorem d_Mo_gen_12 : decode b_Mo_general 12 = .ok (.getfield 79, 3) := by decide +kernel
theorem d_Mo_gen_15 : decode b_Mo_general 15 = .ok (.ifCond .ne (15), 3) := by decide +kernel
theorem d_Mo_gen_18 : decode b_Mo_general 18 = .ok (.aload_n 0, 1) := by decide +kernel
theorem d_Mo_gen_19 : decode b_Mo_general 19 = .ok (.aload_n 1, 1) := by decide +kernel
theorem d_Mo_gen_20 : decode b_Mo_general 20 = .ok (.iload 4, 2) := by decide +kernel
theorem d_Mo_gen_22 : decode b_Mo_general 22 = .ok (.iconst 1, 1) := by decide +kernel
theorem d_Mo_gen_23 : decode b_Mo_general 23 = .ok (.isub, 1) := by decide +kernel
theorem d_Mo_gen_24 : decode b_Mo_general 24 = .ok (.iload_n 3, 1) := by decide +kernel
theorem d_Mo_gen_25 : decode b_Mo_general 25 = .ok (.iconst 0, 1) := by decide +kernel
theorem d_Mo_gen_26 : decode b_Mo_general 26 = .ok (.invokevirtual 111, 3) := by decide +kernel
theorem d_Mo_gen_29 : decode b_Mo_general 29 = .ok (.return_, 1) := by decide +kernel
theorem d_Mo_gen_30 : decode b_Mo_general 30 = .ok (.aload_n 0, 1) := by decide +kernel
theorem d_Mo_gen_31 : decode b_Mo_general 31 = .ok (.aload_n 1, 1) := by decide +kernel
theorem d_Mo_gen_32 : decode b_Mo_general 32 = .ok (.iload 4, 2) := by decide +kernel
theorem d_Mo_gen_34 : decode b_Mo_general 34 = .ok (.invokevirtual 99, 3) := by decide +kernel
theorem d_Mo_gen_37 : decode b_Mo_general 37 = .ok (.aload_n 0, 1) := by decide +kernel
theorem d_Mo_gen_38 : decode b_Mo_general 38 = .ok (.getfield 27, 3) := by decide +kernel
theorem d_Mo_gen_41 : decode b_Mo_general 41 = .ok (.getfield 89, 3) := by decide +kernel
theorem d_Mo_gen_44 : decode b_Mo_general 44 = .ok (.istore 5, 2) := by decide +kernel
theorem d_Mo_gen_46 : decode b_Mo_general 46 = .ok (.iload 5, 2) := by decide +kernel
theorem d_Mo_gen_48 : decode b_Mo_general 48 = .ok (.bipush (-3), 2) := by decide +kernel
theorem d_Mo_gen_50 : decode b_Mo_general 50 = .ok (.if_icmp .lt (25), 3) := by decide +kernel
theorem d_Mo_gen_53 : decode b_Mo_general 53 = .ok (.iload 5, 2) := by decide +kernel
theorem d_Mo_gen_55 : decode b_Mo_general 55 = .ok (.iload 4, 2) := by decide +kernel
theorem d_Mo_gen_57 : decode b_Mo_general 57 = .ok (.if_icmp .gt (18), 3) := by decide +kernel
theorem d_Mo_gen_60 : decode b_Mo_general 60 = .ok (.aload_n 0, 1) := by decide +kernel
theorem d_Mo_gen_61 : decode b_Mo_general 61 = .ok (.aload_n 1, 1) := by decide +kernel
theorem d_Mo_gen_62 : decode b_Mo_general 62 = .ok (.iload 4, 2) := by decide +kernel
theorem d_Mo_gen_64 : decode b_Mo_general 64 = .ok (.iload 5, 2) := by decide +kernel
theorem d_Mo_gen_66 : decode b_Mo_general 66 = .ok (.isub, 1) := by decide +kernel
theorem d_Mo_gen_67 : decode b_Mo_general 67 = .ok (.iload_n 3, 1) := by decide +kernel
theorem d_Mo_gen_68 : decode b_Mo_general 68 = .ok (.iconst 0, 1) := by decide +kernel
theorem d_Mo_gen_69 : decode b_Mo_general 69 = .ok (.invokevirtual 111, 3) := by decide +kernel
theorem d_Mo_gen_72 : decode b_Mo_general 72 = .ok (.goto (13), 3) := by decide +kernel
theorem d_Mo_gen_75 : decode b_Mo_general 75 = .ok (.aload_n 0, 1) := by decide +kernel
theorem d_Mo_gen_76 : decode b_Mo_general 76 = .ok (.aload_n 1, 1) := by decide +kernel
theorem d_Mo_gen_77 : decode b_Mo_general 77 = .ok (.iload 4, 2) := by decide +kernel
theorem d_Mo_gen_79 : decode b_Mo_general 79 = .ok (.iconst 1, 1) := by decide +kernel
theorem d_Mo_gen_80 : decode b_Mo_general 80 = .ok (.isub, 1) := by decide +kernel
theorem d_Mo_gen_81 : decode b_Mo_general 81 = .ok (.iconst 0, 1) := by decide +kernel
theorem d_Mo_gen_82 : decode b_Mo_general 82 = .ok (.invokevirtual 115, 3) := by decide +kernel
theorem d_Mo_gen_85 : decode b_Mo_general 85 = .ok (.return_, 1) := by decide +kernel
set_option maxHeartbeats 4000000 in
set_option maxRecDepth 100000 in
theorem c_Mo_gen (l : Launch) (D : va_G) (cB cL : ClassId) (mo rs ex xd li bo cu cd : Nat) (co bi le : Int) (rt bt : List Int) (V C : Int) (pr : Nat) (gr Cx : Int) (hCx : Cx = rnd V (lead V + 1 - ((max pr 1 : Nat) : Int))) (hpr : pr ≤ 1200) (hgr : gr = 0 ∨ gr = 1) (hr0 : -999 ≤ lead Cx ∧ lead Cx ≤ 999) (hlen : bt.length + (ipR Cx gr (max (lead Cx) 0)).length + 1300 ≤ 4096) : Ct l y_Mo_general (ws_Mo_general) 3 (AM mo rs ex xd li bo cu cd) [.ref mo, .ref ex, .int (iz (pr : Int)), .int (iz gr)] (MW D cB cL mo rs ex xd li bo cu cd co bi le rt bt V C) (zR none (MW D cB cL mo rs ex xd li bo cu cd co bi le rt (bt ++ genL Cx (max pr 1) gr) V Cx)) := by
  refine z_body zSt_MW (by decide +kernel) rfl (Nat.le_of_ble_eq_true rfl) ?_
  intro p e s m args below meth c ls hx hb hml hr hlk hts0 hown hpre0 H locs hpre hS hl
  have hts : ∀ w ∈ TBL, w.before args s = true := fun w hw => hts0 w (List.mem_cons_of_mem _ hw)
  have hl : lv_has ls 6 [(0, .ref mo), (1, .ref ex), (2, .int (iz (pr : Int))), (3, .int (iz gr))] := hl
  have hw := hpre
  have L11 : ∀  (H : Heap) (locs : List Loc) (ls : Array Slot), MW D cB cL mo rs ex xd li bo cu cd co bi le rt bt V C s H → va_S (AM mo rs ex xd li bo cu cd) s.heap H locs → lv_has ls 6 [(0, .ref mo), (1, .ref ex), (3, .int (iz gr)), (4, .int (iz ((max pr 1 : Nat) : Int)))] → W p l e (zrm 3) s m args below meth c H locs 0 0 (MQ below (zQ (AM mo rs ex xd li bo cu cd) (zR none (MW D cB cL mo rs ex xd li bo cu cd co bi le rt (bt ++ genL Cx (max pr 1) gr) V Cx))) args s 0 0 (AM mo rs ex xd li bo cu cd)) (F0 m 11 ls []) := by
    intro  H locs ls hw hS hl 
    refine lv_aload_n hx hb d_Mo_gen_11 rfl (lv_at hl 1 rfl) ?_
    have hw9 := hw
    obtain ⟨fc, nc, pp, ⟨len, used, bl, fr, fb, lm, fe, ne, pe, ⟨hK, hP, hD⟩, hrt, hbt, hE, hpe, hlm⟩, hC⟩ := hw9
    have hr1 := hrt.1
    have hr2 := hrt.2.1
    have hb1 := hbt.1
    have hb2 := hbt.2.1
    have hE1 := hE.1
    have hC1 := hC.1
    have hP : va_P D vwCl [(mo, .inr (3, [.ref rs, .int (iz len), .int (iz co), .ref ex, .int (iz bi), .int (iz le), .ref li, .int (iz used), .ref bo, .int (iz bl), .ref cu])), (rs, .inl (cB, 4096, .inl (az fr))), (ex, .inr (4, [.ref xd, .int (iz ne), .int (iz pe)])), (xd, .inl (cB, 1300, .inl (az fe))), (li, .inl (cL, 160, .inr (.inl (azl lm)))), (bo, .inl (cB, 4096, .inl (az fb))), (cu, .inr (4, [.ref cd, .int (iz nc), .int (iz pp)])), (cd, .inl (cB, 1300, .inl (az fc)))] H := hP
    have hD : va_D (AM mo rs ex xd li bo cu cd) [(mo, .inr (3, [.ref rs, .int (iz len), .int (iz co), .ref ex, .int (iz bi), .int (iz le), .ref li, .int (iz used), .ref bo, .int (iz bl), .ref cu])), (rs, .inl (cB, 4096, .inl (az fr))), (ex, .inr (4, [.ref xd, .int (iz ne), .int (iz pe)])), (xd, .inl (cB, 1300, .inl (az fe))), (li, .inl (cL, 160, .inr (.inl (azl lm)))), (bo, .inl (cB, 4096, .inl (az fb))), (cu, .inr (4, [.ref cd, .int (iz nc), .int (iz pp)])), (cd, .inl (cB, 1300, .inl (az fc)))] := hD
    refine va_get (D := D) (ci := 4) (v := .int (iz ne)) (C := R_4) (T := T_4) (N := 3) hx hb hts in_4 hown hK hP 2 rfl rfl 1 (by decide) (hts _ tw_383) (fun _ h9 => h9) rfl d_Mo_gen_12 ?_
    refine z_if_ne (tgt := 30) hx hb d_Mo_gen_15 rfl ⟨by omega, by omega⟩ (fun hc15 => ?_) (fun hc15 => ?_)
    · have hV8 := (hE.ld (by omega)).2
      have hpos := rnd_pos hE (by omega) (k := ((max pr 1 : Nat) : Int)) (by omega)
      rw [← hCx] at hpos
      refine lv_aload_n hx hb d_Mo_gen_30 rfl (lv_at hl 0 rfl) ?_
      refine lv_aload_n hx hb d_Mo_gen_31 rfl (lv_at hl 1 rfl) ?_
      refine lv_iload hx hb d_Mo_gen_32 (lv_at hl 3 rfl) ?_
      have hct := c_Mo_round l D cB cL mo rs ex xd li bo cu cd co bi le rt bt V C ((max pr 1 : Nat) : Int) ⟨by omega, by omega⟩
      refine z_go (va_runV (As := [.ref ex, .int (iz ((max pr 1 : Nat) : Int))]) (rest := []) ⟨hx, hb, hml, hown, hts⟩ hct.2 (z_cwV hts w_Mo_rounded tw_508 (by decide)) (z_preV hct.1 (va_recv hK hP (ci := 3) (q0 := 0) rfl rfl) hw) rfl rfl hl.1 rfl (lv_room (Nat.le_of_ble_eq_true rfl)) d_Mo_gen_34 ⟨Nat.zero_le _, Nat.zero_le _⟩) hS (fun _ h9 => h9) (fun v9 t9 H locs hv9 hp9 hz9 hk9 hS => ?_)
      obtain ⟨rfl, hw⟩ := hp9
      have hw := MW.moved hv9.symm hw
      rw [← hCx] at hw
      refine W.eq (g2 := F0 m 37 ls []) rfl ?_
      refine lv_aload_n hx hb d_Mo_gen_37 rfl (lv_at hl 0 rfl) ?_
      have hw9 := hw
      obtain ⟨fc, nc, pp, ⟨len, used, bl, fr, fb, lm, fe, ne, pe, ⟨hK, hP, hD⟩, hrt, hbt, hE, hpe, hlm⟩, hC⟩ := hw9
      have hr1 := hrt.1
      have hr2 := hrt.2.1
      have hb1 := hbt.1
      have hb2 := hbt.2.1
      have hE1 := hE.1
      have hC1 := hC.1
      have hP : va_P D vwCl [(mo, .inr (3, [.ref rs, .int (iz len), .int (iz co), .ref ex, .int (iz bi), .int (iz le), .ref li, .int (iz used), .ref bo, .int (iz bl), .ref cu])), (rs, .inl (cB, 4096, .inl (az fr))), (ex, .inr (4, [.ref xd, .int (iz ne), .int (iz pe)])), (xd, .inl (cB, 1300, .inl (az fe))), (li, .inl (cL, 160, .inr (.inl (azl lm)))), (bo, .inl (cB, 4096, .inl (az fb))), (cu, .inr (4, [.ref cd, .int (iz nc), .int (iz pp)])), (cd, .inl (cB, 1300, .inl (az fc)))] H := hP
      have hD : va_D (AM mo rs ex xd li bo cu cd) [(mo, .inr (3, [.ref rs, .int (iz len), .int (iz co), .ref ex, .int (iz bi), .int (iz le), .ref li, .int (iz used), .ref bo, .int (iz bl), .ref cu])), (rs, .inl (cB, 4096, .inl (az fr))), (ex, .inr (4, [.ref xd, .int (iz ne), .int (iz pe)])), (xd, .inl (cB, 1300, .inl (az fe))), (li, .inl (cL, 160, .inr (.inl (azl lm)))), (bo, .inl (cB, 4096, .inl (az fb))), (cu, .inr (4, [.ref cd, .int (iz nc), .int (iz pp)])), (cd, .inl (cB, 1300, .inl (az fc)))] := hD
      refine va_get (D := D) (ci := 3) (v := .ref cu) (C := R_3) (T := T_3) (N := 11) hx hb hts in_3 hown hK hP 0 rfl rfl 10 (by decide) (hts _ tw_402) (fun _ h9 => h9) rfl d_Mo_gen_38 ?_
      refine va_get (D := D) (ci := 4) (v := .int (iz pp)) (C := R_4) (T := T_4) (N := 3) hx hb hts in_4 hown hK hP 6 rfl rfl 2 (by decide) (hts _ tw_384) (fun _ h9 => h9) rfl d_Mo_gen_41 ?_
      have hpl : pp = lead Cx + 1 := by
        have h9 : nc ≠ 0 := fun q => by have := hC.zero q; omega
        have := hC.leadv (by omega)
        omega
      refine lv_istore hx hb d_Mo_gen_44 hl (by decide) rfl (fun ls hl => ?_)
      have hl : lv_has ls 6 [(5, .int (iz pp)), (0, .ref mo), (1, .ref ex), (3, .int (iz gr)), (4, .int (iz ((max pr 1 : Nat) : Int)))] := hl
      refine lv_iload hx hb d_Mo_gen_46 (lv_at hl 0 rfl) ?_
      refine lv_bipush (v := iz (-3)) hx hb d_Mo_gen_48 (by decide) ?_
      refine z_icmp_lt (tgt := 75) hx hb d_Mo_gen_50 rfl ⟨by omega, by omega⟩ ⟨by omega, by omega⟩ (fun hc50 => ?_) (fun hc50 => ?_)
      · refine lv_aload_n hx hb d_Mo_gen_75 rfl (lv_at hl 1 rfl) ?_
        refine lv_aload_n hx hb d_Mo_gen_76 rfl (lv_at hl 2 rfl) ?_
        refine lv_iload hx hb d_Mo_gen_77 (lv_at hl 4 rfl) ?_
        refine lv_iconst (v := iz 1) hx hb d_Mo_gen_79 rfl ?_
        refine z_isub hx hb d_Mo_gen_80 ?_
        refine z_ri (b := ((max pr 1 - 1 : Nat) : Int)) (by omega) ?_
        refine lv_iconst (v := iz 0) hx hb d_Mo_gen_81 rfl ?_
        have hct := c_Mo_sci l D cB cL mo rs ex xd li bo cu cd co bi le rt bt V Cx (max pr 1 - 1) 0 Cx (by rw [hCx, show ((max pr 1 - 1 : Nat) : Int) + 1 = ((max pr 1 : Nat) : Int) by omega]) (by omega) (by omega) hr0 (by omega)
        refine z_go (va_runV (As := [.ref ex, .int (iz ((max pr 1 - 1 : Nat) : Int)), .int (iz 0)]) (rest := []) ⟨hx, hb, hml, hown, hts⟩ hct.2 (z_cwV hts w_Mo_scientific tw_504 (by decide)) (z_preV hct.1 (va_recv hK hP (ci := 3) (q0 := 0) rfl rfl) hw) rfl rfl hl.1 rfl (lv_room (Nat.le_of_ble_eq_true rfl)) d_Mo_gen_82 ⟨Nat.zero_le _, Nat.zero_le _⟩) hS (fun _ h9 => h9) (fun v9 t9 H locs hv9 hp9 hz9 hk9 hS => ?_)
        obtain ⟨rfl, hw⟩ := hp9
        have hw := MW.moved hv9.symm hw
        refine W.eq (g2 := F0 m 85 ls []) rfl ?_
        exact z_vret hx hb hr hlk hS (zR_st zSt_MW) ⟨rfl, by
            unfold genL
            rw [if_neg (by omega)]
            exact hw⟩ d_Mo_gen_85
      · refine lv_iload hx hb d_Mo_gen_53 (lv_at hl 0 rfl) ?_
        refine lv_iload hx hb d_Mo_gen_55 (lv_at hl 4 rfl) ?_
        refine z_icmp_gt (tgt := 75) hx hb d_Mo_gen_57 rfl ⟨by omega, by omega⟩ ⟨by omega, by omega⟩ (fun hc57 => ?_) (fun hc57 => ?_)
        · refine lv_aload_n hx hb d_Mo_gen_75 rfl (lv_at hl 1 rfl) ?_
          refine lv_aload_n hx hb d_Mo_gen_76 rfl (lv_at hl 2 rfl) ?_
          refine lv_iload hx hb d_Mo_gen_77 (lv_at hl 4 rfl) ?_
          refine lv_iconst (v := iz 1) hx hb d_Mo_gen_79 rfl ?_
          refine z_isub hx hb d_Mo_gen_80 ?_
          refine z_ri (b := ((max pr 1 - 1 : Nat) : Int)) (by omega) ?_
          refine lv_iconst (v := iz 0) hx hb d_Mo_gen_81 rfl ?_
          have hct := c_Mo_sci l D cB cL mo rs ex xd li bo cu cd co bi le rt bt V Cx (max pr 1 - 1) 0 Cx (by rw [hCx, show ((max pr 1 - 1 : Nat) : Int) + 1 = ((max pr 1 : Nat) : Int) by omega]) (by omega) (by omega) hr0 (by omega)
          refine z_go (va_runV (As := [.ref ex, .int (iz ((max pr 1 - 1 : Nat) : Int)), .int (iz 0)]) (rest := []) ⟨hx, hb, hml, hown, hts⟩ hct.2 (z_cwV hts w_Mo_scientific tw_504 (by decide)) (z_preV hct.1 (va_recv hK hP (ci := 3) (q0 := 0) rfl rfl) hw) rfl rfl hl.1 rfl (lv_room (Nat.le_of_ble_eq_true rfl)) d_Mo_gen_82 ⟨Nat.zero_le _, Nat.zero_le _⟩) hS (fun _ h9 => h9) (fun v9 t9 H locs hv9 hp9 hz9 hk9 hS => ?_)
          obtain ⟨rfl, hw⟩ := hp9
          have hw := MW.moved hv9.symm hw
          refine W.eq (g2 := F0 m 85 ls []) rfl ?_
          exact z_vret hx hb hr hlk hS (zR_st zSt_MW) ⟨rfl, by
              unfold genL
              rw [if_neg (by omega)]
              exact hw⟩ d_Mo_gen_85
        · refine lv_aload_n hx hb d_Mo_gen_60 rfl (lv_at hl 1 rfl) ?_
          refine lv_aload_n hx hb d_Mo_gen_61 rfl (lv_at hl 2 rfl) ?_
          refine lv_iload hx hb d_Mo_gen_62 (lv_at hl 4 rfl) ?_
          refine lv_iload hx hb d_Mo_gen_64 (lv_at hl 0 rfl) ?_
          refine z_isub hx hb d_Mo_gen_66 ?_
          refine z_ri (b := ((((max pr 1 : Nat) : Int) - pp).toNat : Int)) (by omega) ?_
          refine lv_iload_n hx hb d_Mo_gen_67 rfl (lv_at hl 3 rfl) ?_
          refine lv_iconst (v := iz 0) hx hb d_Mo_gen_68 rfl ?_
          have hct := c_Mo_fix l D cB cL mo rs ex xd li bo cu cd co bi le rt bt V Cx (((max pr 1 : Nat) : Int) - pp).toNat gr 0 Cx (by
              have h8 := gen_same hV8 (k := max pr 1) (by omega)
              rw [← hCx] at h8
              rw [show -(((((max pr 1 : Nat) : Int) - pp).toNat : Nat) : Int) = lead Cx + 1 - ((max pr 1 : Nat) : Int) by omega]
              exact h8.symm) (by omega) hgr (by omega) (by omega) (by omega)
          refine z_go (va_runV (As := [.ref ex, .int (iz ((((max pr 1 : Nat) : Int) - pp).toNat : Int)), .int (iz gr), .int (iz 0)]) (rest := []) ⟨hx, hb, hml, hown, hts⟩ hct.2 (z_cwV hts w_Mo_fixed tw_518 (by decide)) (z_preV hct.1 (va_recv hK hP (ci := 3) (q0 := 0) rfl rfl) hw) rfl rfl hl.1 rfl (lv_room (Nat.le_of_ble_eq_true rfl)) d_Mo_gen_69 ⟨Nat.zero_le _, Nat.zero_le _⟩) hS (fun _ h9 => h9) (fun v9 t9 H locs hv9 hp9 hz9 hk9 hS => ?_)
          obtain ⟨rfl, hw⟩ := hp9
          have hw := MW.moved hv9.symm hw
          refine W.eq (g2 := F0 m 72 ls []) rfl ?_
          refine lv_goto (tgt := 85) hx hb d_Mo_gen_72 rfl ?_
          exact z_vret hx hb hr hlk hS (zR_st zSt_MW) ⟨rfl, by
              unfold genL
              rw [if_pos (by omega), show (((max pr 1 : Nat) : Int) - 1 - lead Cx).toNat = (((max pr 1 : Nat) : Int) - pp).toNat by omega]
              exact hw⟩ d_Mo_gen_85
    · have hV8 := hE.zero hc15
      have hC0 : Cx = 0 := by
        rw [hCx, hV8]
        exact rnd_0 _
      refine lv_aload_n hx hb d_Mo_gen_18 rfl (lv_at hl 0 rfl) ?_
      refine lv_aload_n hx hb d_Mo_gen_19 rfl (lv_at hl 1 rfl) ?_
      refine lv_iload hx hb d_Mo_gen_20 (lv_at hl 3 rfl) ?_
      refine lv_iconst (v := iz 1) hx hb d_Mo_gen_22 rfl ?_
      refine z_isub hx hb d_Mo_gen_23 ?_
      refine z_ri (b := ((max pr 1 - 1 : Nat) : Int)) (by omega) ?_
      refine lv_iload_n hx hb d_Mo_gen_24 rfl (lv_at hl 2 rfl) ?_
      refine lv_iconst (v := iz 0) hx hb d_Mo_gen_25 rfl ?_
      have hct := c_Mo_fix l D cB cL mo rs ex xd li bo cu cd co bi le rt bt V C (max pr 1 - 1) gr 0 Cx (by rw [hC0, hV8, rnd_0]) (by omega) hgr (by omega) (by omega) (by omega)
      refine z_go (va_runV (As := [.ref ex, .int (iz ((max pr 1 - 1 : Nat) : Int)), .int (iz gr), .int (iz 0)]) (rest := []) ⟨hx, hb, hml, hown, hts⟩ hct.2 (z_cwV hts w_Mo_fixed tw_518 (by decide)) (z_preV hct.1 (va_recv hK hP (ci := 3) (q0 := 0) rfl rfl) hw) rfl rfl hl.1 rfl (lv_room (Nat.le_of_ble_eq_true rfl)) d_Mo_gen_26 ⟨Nat.zero_le _, Nat.zero_le _⟩) hS (fun _ h9 => h9) (fun v9 t9 H locs hv9 hp9 hz9 hk9 hS => ?_)
      obtain ⟨rfl, hw⟩ := hp9
      have hw := MW.moved hv9.symm hw
      refine W.eq (g2 := F0 m 29 ls []) rfl ?_
      exact z_vret hx hb hr hlk hS (zR_st zSt_MW) ⟨rfl, by
          unfold genL
          rw [if_pos (by rw [hC0, lead_0]; omega)]
          rw [show (((max pr 1 : Nat) : Int) - 1 - lead Cx).toNat = max pr 1 - 1 by rw [hC0, lead_0]; omega]
          exact hw⟩ d_Mo_gen_29
  refine lv_iload_n hx hb d_Mo_gen_0 rfl (lv_at hl 2 rfl) ?_
  refine z_if_ne (tgt := 8) hx hb d_Mo_gen_1 rfl ⟨by omega, by omega⟩ (fun hc1 => ?_) (fun hc1 => ?_)
  · refine lv_iload_n hx hb d_Mo_gen_8 rfl (lv_at hl 2 rfl) ?_
    refine z_ri (b := ((max pr 1 : Nat) : Int)) (by omega) ?_
    refine lv_istore hx hb d_Mo_gen_9 hl (by decide) rfl (fun ls hl => ?_)
    have hl : lv_has ls 6 [(4, .int (iz ((max pr 1 : Nat) : Int))), (0, .ref mo), (1, .ref ex), (2, .int (iz (pr : Int))), (3, .int (iz gr))] := hl
    exact L11  _ _ _ hw hS (lv_sub hl [1, 2, 4, 0] rfl) 
  · refine lv_iconst (v := iz 1) hx hb d_Mo_gen_4 rfl ?_
    refine z_ri (b := ((max pr 1 : Nat) : Int)) (by omega) ?_
    refine lv_goto (tgt := 9) hx hb d_Mo_gen_5 rfl ?_
    refine lv_istore hx hb d_Mo_gen_9 hl (by decide) rfl (fun ls hl => ?_)
    have hl : lv_has ls 6 [(4, .int (iz ((max pr 1 : Nat) : Int))), (0, .ref mo), (1, .ref ex), (2, .int (iz (pr : Int))), (3, .int (iz gr))] := hl
    exact L11  _ _ _ hw hS (lv_sub hl [1, 2, 4, 0] rfl) 
