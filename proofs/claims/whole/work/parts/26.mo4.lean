theorem d_Mo_round_0 : decode b_Mo_rounded 0 = .ok (.iload_n 2, 1) := by decide +kernel
theorem d_Mo_round_1 : decode b_Mo_rounded 1 = .ok (.aload_n 1, 1) := by decide +kernel
theorem d_Mo_round_2 : decode b_Mo_rounded 2 = .ok (.getfield 79, 3) := by decide +kernel
theorem d_Mo_round_5 : decode b_Mo_rounded 5 = .ok (.if_icmp .ge (7), 3) := by decide +kernel
theorem d_Mo_round_8 : decode b_Mo_rounded 8 = .ok (.iload_n 2, 1) := by decide +kernel
theorem d_Mo_round_9 : decode b_Mo_rounded 9 = .ok (.goto (7), 3) := by decide +kernel
theorem d_Mo_round_12 : decode b_Mo_rounded 12 = .ok (.aload_n 1, 1) := by decide +kernel
theorem d_Mo_round_13 : decode b_Mo_rounded 13 = .ok (.getfield 79, 3) := by decide +kernel
theorem d_Mo_round_16 : decode b_Mo_rounded 16 = .ok (.istore_n 3, 1) := by decide +kernel
theorem d_Mo_round_17 : decode b_Mo_rounded 17 = .ok (.aload_n 0, 1) := by decide +kernel
theorem d_Mo_round_18 : decode b_Mo_rounded 18 = .ok (.getfield 27, 3) := by decide +kernel
theorem d_Mo_round_21 : decode b_Mo_rounded 21 = .ok (.aload_n 1, 1) := by decide +kernel
theorem d_Mo_round_22 : decode b_Mo_rounded 22 = .ok (.getfield 89, 3) := by decide +kernel
theorem d_Mo_round_25 : decode b_Mo_rounded 25 = .ok (.putfield 89, 3) := by decide +kernel
theorem d_Mo_round_28 : decode b_Mo_rounded 28 = .ok (.aload_n 0, 1) := by decide +kernel
theorem d_Mo_round_29 : decode b_Mo_rounded 29 = .ok (.getfield 27, 3) := by decide +kernel
theorem d_Mo_round_32 : decode b_Mo_rounded 32 = .ok (.iload_n 3, 1) := by decide +kernel
theorem d_Mo_round_33 : decode b_Mo_rounded 33 = .ok (.ifCond .ge (7), 3) := by decide +kernel
theorem d_Mo_round_36 : decode b_Mo_rounded 36 = .ok (.iconst 0, 1) := by decide +kernel
theorem d_Mo_round_37 : decode b_Mo_rounded 37 = .ok (.goto (4), 3) := by decide +kernel
theorem d_Mo_round_40 : decode b_Mo_rounded 40 = .ok (.iload_n 3, 1) := by decide +kernel
theorem d_Mo_round_41 : decode b_Mo_rounded 41 = .ok (.putfield 79, 3) := by decide +kernel
theorem d_Mo_round_44 : decode b_Mo_rounded 44 = .ok (.iconst 0, 1) := by decide +kernel
theorem d_Mo_round_45 : decode b_Mo_rounded 45 = .ok (.istore 4, 2) := by decide +kernel
theorem d_Mo_round_47 : decode b_Mo_rounded 47 = .ok (.iload 4, 2) := by decide +kernel
theorem d_Mo_round_49 : decode b_Mo_rounded 49 = .ok (.iload_n 3, 1) := by decide +kernel
theorem d_Mo_round_50 : decode b_Mo_rounded 50 = .ok (.if_icmp .ge (39), 3) := by decide +kernel
theorem d_Mo_round_53 : decode b_Mo_rounded 53 = .ok (.aload_n 0, 1) := by decide +kernel
theorem d_Mo_round_54 : decode b_Mo_rounded 54 = .ok (.getfield 27, 3) := by decide +kernel
theorem d_Mo_round_57 : decode b_Mo_rounded 57 = .ok (.getfield 86, 3) := by decide +kernel
theorem d_Mo_round_60 : decode b_Mo_rounded 60 = .ok (.iload 4, 2) := by decide +kernel
theorem d_Mo_round_62 : decode b_Mo_rounded 62 = .ok (.iload 4, 2) := by decide +kernel
theorem d_Mo_round_64 : decode b_Mo_rounded 64 = .ok (.aload_n 1, 1) := by decide +kernel
theorem d_Mo_round_65 : decode b_Mo_rounded 65 = .ok (.getfield 79, 3) := by decide +kernel
theorem d_Mo_round_68 : decode b_Mo_rounded 68 = .ok (.if_icmp .ge (13), 3) := by decide +kernel
theorem d_Mo_round_71 : decode b_Mo_rounded 71 = .ok (.aload_n 1, 1) := by decide +kernel
theorem d_Mo_round_72 : decode b_Mo_rounded 72 = .ok (.getfield 86, 3) := by decide +kernel
theorem d_Mo_round_75 : decode b_Mo_rounded 75 = .ok (.iload 4, 2) := by decide +kernel
theorem d_Mo_round_77 : decode b_Mo_rounded 77 = .ok (.baload, 1) := by decide +kernel
theorem d_Mo_round_78 : decode b_Mo_rounded 78 = .ok (.goto (4), 3) := by decide +kernel
theorem d_Mo_round_82 : decode b_Mo_rounded 82 = .ok (.bastore, 1) := by decide +kernel
theorem d_Mo_round_83 : decode b_Mo_rounded 83 = .ok (.iinc 4 (1), 3) := by decide +kernel
theorem d_Mo_round_86 : decode b_Mo_rounded 86 = .ok (.goto (-39), 3) := by decide +kernel
theorem d_Mo_round_89 : decode b_Mo_rounded 89 = .ok (.iload_n 3, 1) := by decide +kernel
theorem d_Mo_round_90 : decode b_Mo_rounded 90 = .ok (.ifCond .lt (66), 3) := by decide +kernel
theorem d_Mo_round_93 : decode b_Mo_rounded 93 = .ok (.iload_n 3, 1) := by decide +kernel
theorem d_Mo_round_94 : decode b_Mo_rounded 94 = .ok (.aload_n 1, 1) := by decide +kernel
theorem d_Mo_round_95 : decode b_Mo_rounded 95 = .ok (.getfield 79, 3) := by decide +kernel
theorem d_Mo_round_98 : decode b_Mo_rounded 98 = .ok (.if_icmp .ge (58), 3) := by decide +kernel
theorem d_Mo_round_101 : decode b_Mo_rounded 101 = .ok (.aload_n 1, 1) := by decide +kernel
theorem d_Mo_round_102 : decode b_Mo_rounded 102 = .ok (.getfield 86, 3) := by decide +kernel
theorem d_Mo_round_105 : decode b_Mo_rounded 105 = .ok (.iload_n 3, 1) := by decide +kernel
theorem d_Mo_round_106 : decode b_Mo_rounded 106 = .ok (.baload, 1) := by decide +kernel
theorem d_Mo_round_107 : decode b_Mo_rounded 107 = .ok (.iconst 5, 1) := by decide +kernel
theorem d_Mo_round_108 : decode b_Mo_rounded 108 = .ok (.if_icmp .lt (48), 3) := by decide +kernel
theorem d_Mo_round_111 : decode b_Mo_rounded 111 = .ok (.iload_n 3, 1) := by decide +kernel
theorem d_Mo_round_112 : decode b_Mo_rounded 112 = .ok (.ifCond .ne (37), 3) := by decide +kernel
theorem d_Mo_round_115 : decode b_Mo_rounded 115 = .ok (.aload_n 0, 1) := by decide +kernel
theorem d_Mo_round_116 : decode b_Mo_rounded 116 = .ok (.getfield 27, 3) := by decide +kernel
theorem d_Mo_round_119 : decode b_Mo_rounded 119 = .ok (.getfield 86, 3) := by decide +kernel
theorem d_Mo_round_122 : decode b_Mo_rounded 122 = .ok (.iconst 0, 1) := by decide +kernel
theorem d_Mo_round_123 : decode b_Mo_rounded 123 = .ok (.iconst 1, 1) := by decide +kernel
theorem d_Mo_round_124 : decode b_Mo_rounded 124 = .ok (.bastore, 1) := by decide +kernel
theorem d_Mo_round_125 : decode b_Mo_rounded 125 = .ok (.aload_n 0, 1) := by decide +kernel
theorem d_Mo_round_126 : decode b_Mo_rounded 126 = .ok (.getfield 27, 3) := by decide +kernel
theorem d_Mo_round_129 : decode b_Mo_rounded 129 = .ok (.iconst 1, 1) := by decide +kernel
theorem d_Mo_round_130 : decode b_Mo_rounded 130 = .ok (.putfield 79, 3) := by decide +kernel
theorem d_Mo_round_133 : decode b_Mo_rounded 133 = .ok (.aload_n 0, 1) := by decide +kernel
theorem d_Mo_round_134 : decode b_Mo_rounded 134 = .ok (.getfield 27, 3) := by decide +kernel
theorem d_Mo_round_137 : decode b_Mo_rounded 137 = .ok (.aload_n 1, 1) := by decide +kernel
theorem d_Mo_round_138 : decode b_Mo_rounded 138 = .ok (.getfield 89, 3) := by decide +kernel
theorem d_Mo_round_141 : decode b_Mo_rounded 141 = .ok (.iconst 1, 1) := by decide +kernel
theorem d_Mo_round_142 : decode b_Mo_rounded 142 = .ok (.iadd, 1) := by decide +kernel
theorem d_Mo_round_143 : decode b_Mo_rounded 143 = .ok (.putfield 89, 3) := by decide +kernel
theorem d_Mo_round_146 : decode b_Mo_rounded 146 = .ok (.goto (10), 3) := by decide +kernel
theorem d_Mo_round_149 : decode b_Mo_rounded 149 = .ok (.aload_n 0, 1) := by decide +kernel
theorem d_Mo_round_150 : decode b_Mo_rounded 150 = .ok (.getfield 27, 3) := by decide +kernel
theorem d_Mo_round_153 : decode b_Mo_rounded 153 = .ok (.invokestatic 95, 3) := by decide +kernel
theorem d_Mo_round_156 : decode b_Mo_rounded 156 = .ok (.return_, 1) := by decide +kernel
set_option maxHeartbeats 4000000 in
set_option maxRecDepth 100000 in
theorem c_Mo_round (l : Launch) (D : va_G) (cB cL : ClassId) (mo rs ex xd li bo cu cd : Nat) (co bi le : Int) (rt bt : List Int) (V C : Int) (mx : Int) (hmx : -100000 ≤ mx ∧ mx ≤ 100000) : Ct l y_Mo_rounded (ws_Mo_rounded) 1 (AM mo rs ex xd li bo cu cd) [.ref mo, .ref ex, .int (iz mx)] (MW D cB cL mo rs ex xd li bo cu cd co bi le rt bt V C) (zR none (MW D cB cL mo rs ex xd li bo cu cd co bi le rt bt V (rnd V (lead V + 1 - mx)))) := by
  refine z_body zSt_MW (by decide +kernel) rfl (Nat.le_of_ble_eq_true rfl) ?_
  intro p e s m args below meth c ls hx hb hml hr hlk hts0 hown hpre0 H locs hpre hS hl
  have hts : ∀ w ∈ TBL, w.before args s = true := fun w hw => hts0 w (List.mem_cons_of_mem _ hw)
  have hl : lv_has ls 5 [(0, .ref mo), (1, .ref ex), (2, .int (iz mx))] := hl
  have hw := hpre
  have hw9 := hw
  obtain ⟨fc, nc, pp, ⟨len, used, bl, fr, fb, lm, fe, ne, pe, ⟨hK, hP, hD⟩, hrt, hbt, hE, hpe, hlm⟩, hC⟩ := hw9
  have hr1 := hrt.1
  have hr2 := hrt.2.1
  have hb1 := hbt.1
  have hb2 := hbt.2.1
  have hE1 := hE.1
  have hC1 := hC.1
  have L47 : ∀ (N47 : Nat) (n : Int) (h : Int → Int) (i : Int) (H : Heap) (locs : List Loc) (ls : Array Slot), va_P D vwCl [(mo, .inr (3, [.ref rs, .int (iz len), .int (iz co), .ref ex, .int (iz bi), .int (iz le), .ref li, .int (iz used), .ref bo, .int (iz bl), .ref cu])), (rs, .inl (cB, 4096, .inl (az fr))), (ex, .inr (4, [.ref xd, .int (iz ne), .int (iz pe)])), (xd, .inl (cB, 1300, .inl (az fe))), (li, .inl (cL, 160, .inr (.inl (azl lm)))), (bo, .inl (cB, 4096, .inl (az fb))), (cu, .inr (4, [.ref cd, .int (iz (max n 0)), .int (iz pe)])), (cd, .inl (cB, 1300, .inl (az h)))] H → va_D (AM mo rs ex xd li bo cu cd) [(mo, .inr (3, [.ref rs, .int (iz len), .int (iz co), .ref ex, .int (iz bi), .int (iz le), .ref li, .int (iz used), .ref bo, .int (iz bl), .ref cu])), (rs, .inl (cB, 4096, .inl (az fr))), (ex, .inr (4, [.ref xd, .int (iz ne), .int (iz pe)])), (xd, .inl (cB, 1300, .inl (az fe))), (li, .inl (cL, 160, .inr (.inl (azl lm)))), (bo, .inl (cB, 4096, .inl (az fb))), (cu, .inr (4, [.ref cd, .int (iz (max n 0)), .int (iz pe)])), (cd, .inl (cB, 1300, .inl (az h)))] → va_S (AM mo rs ex xd li bo cu cd) s.heap H locs → lv_has ls 5 [(0, .ref mo), (1, .ref ex), (2, .int (iz mx)), (3, .int (iz n)), (4, .int (iz i))] → (n = min mx ne) → (0 ≤ i ∧ (i ≤ n ∨ i = 0)) → (∀ j, 0 ≤ j → j < i → h j = fe j) → (n - i).toNat < N47 → W p l e (zrm 1) s m args below meth c H locs 0 0 (MQ below (zQ (AM mo rs ex xd li bo cu cd) (zR none (MW D cB cL mo rs ex xd li bo cu cd co bi le rt bt V (rnd V (lead V + 1 - mx))))) args s 0 0 (AM mo rs ex xd li bo cu cd)) (F0 m 47 ls []) := by
    intro N47
    induction N47 with
    | zero => intro n h i H locs ls hP hD hS hl hn hi hh hN47; exact absurd hN47 (Nat.not_lt_zero _)
    | succ N47 ih47 =>
      intro n h i H locs ls hP hD hS hl hn hi hh hN47
      refine lv_iload hx hb d_Mo_round_47 (lv_at hl 4 rfl) ?_
      refine lv_iload_n hx hb d_Mo_round_49 rfl (lv_at hl 3 rfl) ?_
      refine z_icmp_ge (tgt := 89) hx hb d_Mo_round_50 rfl ⟨by omega, by omega⟩ ⟨by omega, by omega⟩ (fun hc50 => ?_) (fun hc50 => ?_)
      · refine lv_iload_n hx hb d_Mo_round_89 rfl (lv_at hl 3 rfl) ?_
        refine z_if_lt (tgt := 156) hx hb d_Mo_round_90 rfl ⟨by omega, by omega⟩ (fun hc90 => ?_) (fun hc90 => ?_)
        · have hc9 : RowOK h (max n 0) pe (rnd V (lead V + 1 - mx)) := by
            rw [show max n 0 = 0 by omega, cut_neg hE (by omega)]
            exact row_none ⟨by omega, by omega⟩
          exact z_vret hx hb hr hlk hS (zR_st zSt_MW) ⟨rfl, _, _, _, ⟨_, _, _, _, _, _, _, _, _, ⟨hK, hP, hD⟩, hrt, hbt, hE, hpe, hlm⟩, hc9⟩ d_Mo_round_156
        · refine lv_iload_n hx hb d_Mo_round_93 rfl (lv_at hl 3 rfl) ?_
          refine lv_aload_n hx hb d_Mo_round_94 rfl (lv_at hl 1 rfl) ?_
          refine va_get (D := D) (ci := 4) (v := .int (iz ne)) (C := R_4) (T := T_4) (N := 3) hx hb hts in_4 hown hK hP 2 rfl rfl 1 (by decide) (hts _ tw_383) (fun _ h9 => h9) rfl d_Mo_round_95 ?_
          refine z_icmp_ge (tgt := 156) hx hb d_Mo_round_98 rfl ⟨by omega, by omega⟩ ⟨by omega, by omega⟩ (fun hc98 => ?_) (fun hc98 => ?_)
          · have hc9 : RowOK h (max n 0) pe (rnd V (lead V + 1 - mx)) := by
              rw [show max n 0 = ne by omega, cut_all hE (by omega)]
              exact row_same hE (fun j q1 q2 => hh j q1 (by omega))
            exact z_vret hx hb hr hlk hS (zR_st zSt_MW) ⟨rfl, _, _, _, ⟨_, _, _, _, _, _, _, _, _, ⟨hK, hP, hD⟩, hrt, hbt, hE, hpe, hlm⟩, hc9⟩ d_Mo_round_156
          · have hfn := hE.2.1 n (by omega) (by omega)
            have h3n := hE.2.2.1 (by omega)
            refine lv_aload_n hx hb d_Mo_round_101 rfl (lv_at hl 1 rfl) ?_
            refine va_get (D := D) (ci := 4) (v := .ref xd) (C := R_4) (T := T_4) (N := 3) hx hb hts in_4 hown hK hP 2 rfl rfl 0 (by decide) (hts _ tw_382) (fun _ h9 => h9) rfl d_Mo_round_102 ?_
            refine lv_iload_n hx hb d_Mo_round_105 rfl (lv_at hl 3 rfl) ?_
            refine z_bald hx hb hK hP 3 0 rfl rfl (by omega) (by omega) (by decide) d_Mo_round_106 ?_
            refine lv_iconst (v := iz 5) hx hb d_Mo_round_107 rfl ?_
            refine z_icmp_lt (tgt := 156) hx hb d_Mo_round_108 rfl ⟨by omega, by omega⟩ ⟨by omega, by omega⟩ (fun hc108 => ?_) (fun hc108 => ?_)
            · have hc9 : RowOK h (max n 0) pe (rnd V (lead V + 1 - mx)) := by
                rw [show max n 0 = n by omega, show mx = n by omega, cut_at hE (by omega) (by omega), if_neg (by omega), Int.add_zero]
                exact row_cut hE (by omega) (by omega) (fun j q1 q2 => hh j q1 (by omega))
              exact z_vret hx hb hr hlk hS (zR_st zSt_MW) ⟨rfl, _, _, _, ⟨_, _, _, _, _, _, _, _, _, ⟨hK, hP, hD⟩, hrt, hbt, hE, hpe, hlm⟩, hc9⟩ d_Mo_round_156
            · refine lv_iload_n hx hb d_Mo_round_111 rfl (lv_at hl 3 rfl) ?_
              refine z_if_ne (tgt := 149) hx hb d_Mo_round_112 rfl ⟨by omega, by omega⟩ (fun hc112 => ?_) (fun hc112 => ?_)
              · refine lv_aload_n hx hb d_Mo_round_149 rfl (lv_at hl 0 rfl) ?_
                refine va_get (D := D) (ci := 3) (v := .ref cu) (C := R_3) (T := T_3) (N := 11) hx hb hts in_3 hown hK hP 0 rfl rfl 10 (by decide) (hts _ tw_402) (fun _ h9 => h9) rfl d_Mo_round_150 ?_
                have hc8 := row_cut hE (k := n) (by omega) (by omega) (h := h) (fun j q1 q2 => hh j q1 (by omega))
                rw [show max n 0 = n by omega] at hP hD
                have hw : MWc D cB cL mo rs ex xd li bo cu cd co bi le rt bt V h n pe s H := ⟨_, _, _, _, _, _, _, _, _, ⟨hK, hP, hD⟩, hrt, hbt, hE, hpe, hlm⟩
                have hct := c_Mo_more l D cB cL mo rs ex xd li bo cu cd co bi le rt bt V _ h n pe hc8 (by omega) (by omega) (by omega)
                refine z_go (va_runS (As := [.ref cu]) (rest := []) ⟨hx, hb, hml, hown, hts⟩ hct.2 (z_cwS hts w_Mo_more tw_512 (by decide)) (z_preS hct.1 hw) rfl rfl hl.1 rfl (lv_room (Nat.le_of_ble_eq_true rfl)) d_Mo_round_153 ⟨Nat.zero_le _, Nat.zero_le _⟩) hS (fun _ h9 => h9) (fun v9 t9 H locs hv9 hp9 hz9 hk9 hS => ?_)
                obtain ⟨rfl, hw⟩ := hp9
                have hw := MW.moved hv9.symm hw
                refine W.eq (g2 := F0 m 156 ls []) rfl ?_
                exact z_vret hx hb hr hlk hS (zR_st zSt_MW) ⟨rfl, by
                    rw [show mx = n by omega, cut_at hE (by omega) (by omega), if_pos (by omega)]
                    exact hw⟩ d_Mo_round_156
              · refine lv_aload_n hx hb d_Mo_round_115 rfl (lv_at hl 0 rfl) ?_
                refine va_get (D := D) (ci := 3) (v := .ref cu) (C := R_3) (T := T_3) (N := 11) hx hb hts in_3 hown hK hP 0 rfl rfl 10 (by decide) (hts _ tw_402) (fun _ h9 => h9) rfl d_Mo_round_116 ?_
                refine va_get (D := D) (ci := 4) (v := .ref cd) (C := R_4) (T := T_4) (N := 3) hx hb hts in_4 hown hK hP 6 rfl rfl 0 (by decide) (hts _ tw_382) (fun _ h9 => h9) rfl d_Mo_round_119 ?_
                refine lv_iconst (v := iz 0) hx hb d_Mo_round_122 rfl ?_
                refine lv_iconst (v := iz 1) hx hb d_Mo_round_123 rfl ?_
                refine z_bast hx hb hK hP hD hS 7 0 rfl rfl (by omega) (by omega) (by decide) ⟨by omega, by omega⟩ d_Mo_round_124 (fun H locs hP hD hS => ?_)
                have hP : va_P D vwCl [(mo, .inr (3, [.ref rs, .int (iz len), .int (iz co), .ref ex, .int (iz bi), .int (iz le), .ref li, .int (iz used), .ref bo, .int (iz bl), .ref cu])), (rs, .inl (cB, 4096, .inl (az fr))), (ex, .inr (4, [.ref xd, .int (iz ne), .int (iz pe)])), (xd, .inl (cB, 1300, .inl (az fe))), (li, .inl (cL, 160, .inr (.inl (azl lm)))), (bo, .inl (cB, 4096, .inl (az fb))), (cu, .inr (4, [.ref cd, .int (iz (max n 0)), .int (iz pe)])), (cd, .inl (cB, 1300, .inl (az (up h 0 1))))] H := hP
                have hD : va_D (AM mo rs ex xd li bo cu cd) [(mo, .inr (3, [.ref rs, .int (iz len), .int (iz co), .ref ex, .int (iz bi), .int (iz le), .ref li, .int (iz used), .ref bo, .int (iz bl), .ref cu])), (rs, .inl (cB, 4096, .inl (az fr))), (ex, .inr (4, [.ref xd, .int (iz ne), .int (iz pe)])), (xd, .inl (cB, 1300, .inl (az fe))), (li, .inl (cL, 160, .inr (.inl (azl lm)))), (bo, .inl (cB, 4096, .inl (az fb))), (cu, .inr (4, [.ref cd, .int (iz (max n 0)), .int (iz pe)])), (cd, .inl (cB, 1300, .inl (az (up h 0 1))))] := hD
                refine lv_aload_n hx hb d_Mo_round_125 rfl (lv_at hl 0 rfl) ?_
                refine va_get (D := D) (ci := 3) (v := .ref cu) (C := R_3) (T := T_3) (N := 11) hx hb hts in_3 hown hK hP 0 rfl rfl 10 (by decide) (hts _ tw_402) (fun _ h9 => h9) rfl d_Mo_round_126 ?_
                refine lv_iconst (v := iz 1) hx hb d_Mo_round_129 rfl ?_
                refine va_put (D := D) (ci := 4) (v := .int (iz 1)) (ty := .int) (C := R_4) (T := T_4) (N := 3) hx hb hts in_4 ty_4 tyok_4 nm_4 hown hK hP hD hS 6 rfl rfl 1 (by decide) (hts _ tw_383) (fun _ h9 => h9) rfl (by decide +kernel) rfl rfl (Nat.le_of_ble_eq_true rfl) d_Mo_round_130 (fun H locs hP hD hS => ?_)
                have hP : va_P D vwCl [(mo, .inr (3, [.ref rs, .int (iz len), .int (iz co), .ref ex, .int (iz bi), .int (iz le), .ref li, .int (iz used), .ref bo, .int (iz bl), .ref cu])), (rs, .inl (cB, 4096, .inl (az fr))), (ex, .inr (4, [.ref xd, .int (iz ne), .int (iz pe)])), (xd, .inl (cB, 1300, .inl (az fe))), (li, .inl (cL, 160, .inr (.inl (azl lm)))), (bo, .inl (cB, 4096, .inl (az fb))), (cu, .inr (4, [.ref cd, .int (iz 1), .int (iz pe)])), (cd, .inl (cB, 1300, .inl (az (up h 0 1))))] H := hP
                have hD : va_D (AM mo rs ex xd li bo cu cd) [(mo, .inr (3, [.ref rs, .int (iz len), .int (iz co), .ref ex, .int (iz bi), .int (iz le), .ref li, .int (iz used), .ref bo, .int (iz bl), .ref cu])), (rs, .inl (cB, 4096, .inl (az fr))), (ex, .inr (4, [.ref xd, .int (iz ne), .int (iz pe)])), (xd, .inl (cB, 1300, .inl (az fe))), (li, .inl (cL, 160, .inr (.inl (azl lm)))), (bo, .inl (cB, 4096, .inl (az fb))), (cu, .inr (4, [.ref cd, .int (iz 1), .int (iz pe)])), (cd, .inl (cB, 1300, .inl (az (up h 0 1))))] := hD
                refine lv_aload_n hx hb d_Mo_round_133 rfl (lv_at hl 0 rfl) ?_
                refine va_get (D := D) (ci := 3) (v := .ref cu) (C := R_3) (T := T_3) (N := 11) hx hb hts in_3 hown hK hP 0 rfl rfl 10 (by decide) (hts _ tw_402) (fun _ h9 => h9) rfl d_Mo_round_134 ?_
                refine lv_aload_n hx hb d_Mo_round_137 rfl (lv_at hl 1 rfl) ?_
                refine va_get (D := D) (ci := 4) (v := .int (iz pe)) (C := R_4) (T := T_4) (N := 3) hx hb hts in_4 hown hK hP 2 rfl rfl 2 (by decide) (hts _ tw_384) (fun _ h9 => h9) rfl d_Mo_round_138 ?_
                refine lv_iconst (v := iz 1) hx hb d_Mo_round_141 rfl ?_
                refine z_iadd hx hb d_Mo_round_142 ?_
                refine va_put (D := D) (ci := 4) (v := .int (iz (pe + 1))) (ty := .int) (C := R_4) (T := T_4) (N := 3) hx hb hts in_4 ty_4 tyok_4 nm_4 hown hK hP hD hS 6 rfl rfl 2 (by decide) (hts _ tw_384) (fun _ h9 => h9) rfl (by decide +kernel) rfl rfl (Nat.le_of_ble_eq_true rfl) d_Mo_round_143 (fun H locs hP hD hS => ?_)
                have hP : va_P D vwCl [(mo, .inr (3, [.ref rs, .int (iz len), .int (iz co), .ref ex, .int (iz bi), .int (iz le), .ref li, .int (iz used), .ref bo, .int (iz bl), .ref cu])), (rs, .inl (cB, 4096, .inl (az fr))), (ex, .inr (4, [.ref xd, .int (iz ne), .int (iz pe)])), (xd, .inl (cB, 1300, .inl (az fe))), (li, .inl (cL, 160, .inr (.inl (azl lm)))), (bo, .inl (cB, 4096, .inl (az fb))), (cu, .inr (4, [.ref cd, .int (iz 1), .int (iz (pe + 1))])), (cd, .inl (cB, 1300, .inl (az (up h 0 1))))] H := hP
                have hD : va_D (AM mo rs ex xd li bo cu cd) [(mo, .inr (3, [.ref rs, .int (iz len), .int (iz co), .ref ex, .int (iz bi), .int (iz le), .ref li, .int (iz used), .ref bo, .int (iz bl), .ref cu])), (rs, .inl (cB, 4096, .inl (az fr))), (ex, .inr (4, [.ref xd, .int (iz ne), .int (iz pe)])), (xd, .inl (cB, 1300, .inl (az fe))), (li, .inl (cL, 160, .inr (.inl (azl lm)))), (bo, .inl (cB, 4096, .inl (az fb))), (cu, .inr (4, [.ref cd, .int (iz 1), .int (iz (pe + 1))])), (cd, .inl (cB, 1300, .inl (az (up h 0 1))))] := hD
                refine lv_goto (tgt := 156) hx hb d_Mo_round_146 rfl ?_
                have hc9 : RowOK (up h 0 1) 1 (pe + 1) (rnd V (lead V + 1 - mx)) := by
                  rw [show mx = 0 by omega, cut_at hE (k := 0) (by omega) (by omega), if_pos (by rw [← hc112]; omega), show pe - 0 + 1080 = pe + 1080 by omega]
                  show RowOK _ _ _ (0 * _ + _)
                  rw [Int.zero_mul, Int.zero_add]
                  exact row_one ⟨by omega, by omega⟩
                exact z_vret hx hb hr hlk hS (zR_st zSt_MW) ⟨rfl, _, _, _, ⟨_, _, _, _, _, _, _, _, _, ⟨hK, hP, hD⟩, hrt, hbt, hE, hpe, hlm⟩, hc9⟩ d_Mo_round_156
      · refine lv_aload_n hx hb d_Mo_round_53 rfl (lv_at hl 0 rfl) ?_
        refine va_get (D := D) (ci := 3) (v := .ref cu) (C := R_3) (T := T_3) (N := 11) hx hb hts in_3 hown hK hP 0 rfl rfl 10 (by decide) (hts _ tw_402) (fun _ h9 => h9) rfl d_Mo_round_54 ?_
        refine va_get (D := D) (ci := 4) (v := .ref cd) (C := R_4) (T := T_4) (N := 3) hx hb hts in_4 hown hK hP 6 rfl rfl 0 (by decide) (hts _ tw_382) (fun _ h9 => h9) rfl d_Mo_round_57 ?_
        refine lv_iload hx hb d_Mo_round_60 (lv_at hl 4 rfl) ?_
        refine lv_iload hx hb d_Mo_round_62 (lv_at hl 4 rfl) ?_
        refine lv_aload_n hx hb d_Mo_round_64 rfl (lv_at hl 1 rfl) ?_
        refine va_get (D := D) (ci := 4) (v := .int (iz ne)) (C := R_4) (T := T_4) (N := 3) hx hb hts in_4 hown hK hP 2 rfl rfl 1 (by decide) (hts _ tw_383) (fun _ h9 => h9) rfl d_Mo_round_65 ?_
        refine z_icmp_ge (tgt := 81) hx hb d_Mo_round_68 rfl ⟨by omega, by omega⟩ ⟨by omega, by omega⟩ (fun hc68 => ?_) (fun hc68 => ?_)
        · exfalso
          omega
        · have hfe := hE.2.1 i (by omega) (by omega)
          refine lv_aload_n hx hb d_Mo_round_71 rfl (lv_at hl 1 rfl) ?_
          refine va_get (D := D) (ci := 4) (v := .ref xd) (C := R_4) (T := T_4) (N := 3) hx hb hts in_4 hown hK hP 2 rfl rfl 0 (by decide) (hts _ tw_382) (fun _ h9 => h9) rfl d_Mo_round_72 ?_
          refine lv_iload hx hb d_Mo_round_75 (lv_at hl 4 rfl) ?_
          refine z_bald hx hb hK hP 3 0 rfl rfl (by omega) (by omega) (by decide) d_Mo_round_77 ?_
          refine lv_goto (tgt := 82) hx hb d_Mo_round_78 rfl ?_
          refine z_bast hx hb hK hP hD hS 7 0 rfl rfl (by omega) (by omega) (by decide) ⟨by omega, by omega⟩ d_Mo_round_82 (fun H locs hP hD hS => ?_)
          have hP : va_P D vwCl [(mo, .inr (3, [.ref rs, .int (iz len), .int (iz co), .ref ex, .int (iz bi), .int (iz le), .ref li, .int (iz used), .ref bo, .int (iz bl), .ref cu])), (rs, .inl (cB, 4096, .inl (az fr))), (ex, .inr (4, [.ref xd, .int (iz ne), .int (iz pe)])), (xd, .inl (cB, 1300, .inl (az fe))), (li, .inl (cL, 160, .inr (.inl (azl lm)))), (bo, .inl (cB, 4096, .inl (az fb))), (cu, .inr (4, [.ref cd, .int (iz (max n 0)), .int (iz pe)])), (cd, .inl (cB, 1300, .inl (az (up h i (fe i)))))] H := hP
          have hD : va_D (AM mo rs ex xd li bo cu cd) [(mo, .inr (3, [.ref rs, .int (iz len), .int (iz co), .ref ex, .int (iz bi), .int (iz le), .ref li, .int (iz used), .ref bo, .int (iz bl), .ref cu])), (rs, .inl (cB, 4096, .inl (az fr))), (ex, .inr (4, [.ref xd, .int (iz ne), .int (iz pe)])), (xd, .inl (cB, 1300, .inl (az fe))), (li, .inl (cL, 160, .inr (.inl (azl lm)))), (bo, .inl (cB, 4096, .inl (az fb))), (cu, .inr (4, [.ref cd, .int (iz (max n 0)), .int (iz pe)])), (cd, .inl (cB, 1300, .inl (az (up h i (fe i)))))] := hD
          refine lv_iinc (k := 4) (v := (iz (i + 1))) hx hb d_Mo_round_83 hl rfl (by show iz _ + iz (1) = _; rw [← iz_add]; try rfl) (by decide) rfl (fun ls hl => ?_)
          have hl : lv_has ls 5 [(4, .int (iz (i + 1))), (0, .ref mo), (1, .ref ex), (2, .int (iz mx)), (3, .int (iz n))] := hl
          refine lv_goto (tgt := 47) hx hb d_Mo_round_86 rfl ?_
          exact ih47 n (up h i (fe i)) (i + 1) _ _ _ hP hD hS (lv_sub hl [1, 2, 3, 4, 0] rfl) hn ⟨by omega, by omega⟩ (fun j q1 q2 => by
                by_cases hq : j = i
                · rw [hq, up_s]
                · rw [up_n _ _ hq]; exact hh j q1 (by omega)) (by omega)
  refine lv_iload_n hx hb d_Mo_round_0 rfl (lv_at hl 2 rfl) ?_
  refine lv_aload_n hx hb d_Mo_round_1 rfl (lv_at hl 1 rfl) ?_
  refine va_get (D := D) (ci := 4) (v := .int (iz ne)) (C := R_4) (T := T_4) (N := 3) hx hb hts in_4 hown hK hP 2 rfl rfl 1 (by decide) (hts _ tw_383) (fun _ h9 => h9) rfl d_Mo_round_2 ?_
  refine z_icmp_ge (tgt := 12) hx hb d_Mo_round_5 rfl ⟨by omega, by omega⟩ ⟨by omega, by omega⟩ (fun hc5 => ?_) (fun hc5 => ?_)
  · refine lv_aload_n hx hb d_Mo_round_12 rfl (lv_at hl 1 rfl) ?_
    refine va_get (D := D) (ci := 4) (v := .int (iz ne)) (C := R_4) (T := T_4) (N := 3) hx hb hts in_4 hown hK hP 2 rfl rfl 1 (by decide) (hts _ tw_383) (fun _ h9 => h9) rfl d_Mo_round_13 ?_
    refine lv_istore_n hx hb d_Mo_round_16 rfl hl (by decide) rfl (fun ls hl => ?_)
    have hl : lv_has ls 5 [(3, .int (iz ne)), (0, .ref mo), (1, .ref ex), (2, .int (iz mx))] := hl
    refine lv_aload_n hx hb d_Mo_round_17 rfl (lv_at hl 1 rfl) ?_
    refine va_get (D := D) (ci := 3) (v := .ref cu) (C := R_3) (T := T_3) (N := 11) hx hb hts in_3 hown hK hP 0 rfl rfl 10 (by decide) (hts _ tw_402) (fun _ h9 => h9) rfl d_Mo_round_18 ?_
    refine lv_aload_n hx hb d_Mo_round_21 rfl (lv_at hl 2 rfl) ?_
    refine va_get (D := D) (ci := 4) (v := .int (iz pe)) (C := R_4) (T := T_4) (N := 3) hx hb hts in_4 hown hK hP 2 rfl rfl 2 (by decide) (hts _ tw_384) (fun _ h9 => h9) rfl d_Mo_round_22 ?_
    refine va_put (D := D) (ci := 4) (v := .int (iz pe)) (ty := .int) (C := R_4) (T := T_4) (N := 3) hx hb hts in_4 ty_4 tyok_4 nm_4 hown hK hP hD hS 6 rfl rfl 2 (by decide) (hts _ tw_384) (fun _ h9 => h9) rfl (by decide +kernel) rfl rfl (Nat.le_of_ble_eq_true rfl) d_Mo_round_25 (fun H locs hP hD hS => ?_)
    have hP : va_P D vwCl [(mo, .inr (3, [.ref rs, .int (iz len), .int (iz co), .ref ex, .int (iz bi), .int (iz le), .ref li, .int (iz used), .ref bo, .int (iz bl), .ref cu])), (rs, .inl (cB, 4096, .inl (az fr))), (ex, .inr (4, [.ref xd, .int (iz ne), .int (iz pe)])), (xd, .inl (cB, 1300, .inl (az fe))), (li, .inl (cL, 160, .inr (.inl (azl lm)))), (bo, .inl (cB, 4096, .inl (az fb))), (cu, .inr (4, [.ref cd, .int (iz nc), .int (iz pe)])), (cd, .inl (cB, 1300, .inl (az fc)))] H := hP
    have hD : va_D (AM mo rs ex xd li bo cu cd) [(mo, .inr (3, [.ref rs, .int (iz len), .int (iz co), .ref ex, .int (iz bi), .int (iz le), .ref li, .int (iz used), .ref bo, .int (iz bl), .ref cu])), (rs, .inl (cB, 4096, .inl (az fr))), (ex, .inr (4, [.ref xd, .int (iz ne), .int (iz pe)])), (xd, .inl (cB, 1300, .inl (az fe))), (li, .inl (cL, 160, .inr (.inl (azl lm)))), (bo, .inl (cB, 4096, .inl (az fb))), (cu, .inr (4, [.ref cd, .int (iz nc), .int (iz pe)])), (cd, .inl (cB, 1300, .inl (az fc)))] := hD
    refine lv_aload_n hx hb d_Mo_round_28 rfl (lv_at hl 1 rfl) ?_
    refine va_get (D := D) (ci := 3) (v := .ref cu) (C := R_3) (T := T_3) (N := 11) hx hb hts in_3 hown hK hP 0 rfl rfl 10 (by decide) (hts _ tw_402) (fun _ h9 => h9) rfl d_Mo_round_29 ?_
    refine lv_iload_n hx hb d_Mo_round_32 rfl (lv_at hl 0 rfl) ?_
    refine z_if_ge (tgt := 40) hx hb d_Mo_round_33 rfl ⟨by omega, by omega⟩ (fun hc33 => ?_) (fun hc33 => ?_)
    · refine lv_iload_n hx hb d_Mo_round_40 rfl (lv_at hl 0 rfl) ?_
      refine z_ri (b := max ne 0) (by omega) ?_
      refine va_put (D := D) (ci := 4) (v := .int (iz (max ne 0))) (ty := .int) (C := R_4) (T := T_4) (N := 3) hx hb hts in_4 ty_4 tyok_4 nm_4 hown hK hP hD hS 6 rfl rfl 1 (by decide) (hts _ tw_383) (fun _ h9 => h9) rfl (by decide +kernel) rfl rfl (Nat.le_of_ble_eq_true rfl) d_Mo_round_41 (fun H locs hP hD hS => ?_)
      have hP : va_P D vwCl [(mo, .inr (3, [.ref rs, .int (iz len), .int (iz co), .ref ex, .int (iz bi), .int (iz le), .ref li, .int (iz used), .ref bo, .int (iz bl), .ref cu])), (rs, .inl (cB, 4096, .inl (az fr))), (ex, .inr (4, [.ref xd, .int (iz ne), .int (iz pe)])), (xd, .inl (cB, 1300, .inl (az fe))), (li, .inl (cL, 160, .inr (.inl (azl lm)))), (bo, .inl (cB, 4096, .inl (az fb))), (cu, .inr (4, [.ref cd, .int (iz (max ne 0)), .int (iz pe)])), (cd, .inl (cB, 1300, .inl (az fc)))] H := hP
      have hD : va_D (AM mo rs ex xd li bo cu cd) [(mo, .inr (3, [.ref rs, .int (iz len), .int (iz co), .ref ex, .int (iz bi), .int (iz le), .ref li, .int (iz used), .ref bo, .int (iz bl), .ref cu])), (rs, .inl (cB, 4096, .inl (az fr))), (ex, .inr (4, [.ref xd, .int (iz ne), .int (iz pe)])), (xd, .inl (cB, 1300, .inl (az fe))), (li, .inl (cL, 160, .inr (.inl (azl lm)))), (bo, .inl (cB, 4096, .inl (az fb))), (cu, .inr (4, [.ref cd, .int (iz (max ne 0)), .int (iz pe)])), (cd, .inl (cB, 1300, .inl (az fc)))] := hD
      refine lv_iconst (v := iz 0) hx hb d_Mo_round_44 rfl ?_
      refine lv_istore hx hb d_Mo_round_45 hl (by decide) rfl (fun ls hl => ?_)
      have hl : lv_has ls 5 [(4, .int (iz 0)), (3, .int (iz ne)), (0, .ref mo), (1, .ref ex), (2, .int (iz mx))] := hl
      exact L47 _ ne fc 0 _ _ _ hP hD hS (lv_sub hl [2, 3, 4, 1, 0] rfl) (by omega) ⟨by omega, Or.inr rfl⟩ (fun j q1 q2 => absurd q1 (by omega)) (Nat.lt_succ_self _)
    · refine lv_iconst (v := iz 0) hx hb d_Mo_round_36 rfl ?_
      refine z_ri (b := max ne 0) (by omega) ?_
      refine lv_goto (tgt := 41) hx hb d_Mo_round_37 rfl ?_
      refine va_put (D := D) (ci := 4) (v := .int (iz (max ne 0))) (ty := .int) (C := R_4) (T := T_4) (N := 3) hx hb hts in_4 ty_4 tyok_4 nm_4 hown hK hP hD hS 6 rfl rfl 1 (by decide) (hts _ tw_383) (fun _ h9 => h9) rfl (by decide +kernel) rfl rfl (Nat.le_of_ble_eq_true rfl) d_Mo_round_41 (fun H locs hP hD hS => ?_)
      have hP : va_P D vwCl [(mo, .inr (3, [.ref rs, .int (iz len), .int (iz co), .ref ex, .int (iz bi), .int (iz le), .ref li, .int (iz used), .ref bo, .int (iz bl), .ref cu])), (rs, .inl (cB, 4096, .inl (az fr))), (ex, .inr (4, [.ref xd, .int (iz ne), .int (iz pe)])), (xd, .inl (cB, 1300, .inl (az fe))), (li, .inl (cL, 160, .inr (.inl (azl lm)))), (bo, .inl (cB, 4096, .inl (az fb))), (cu, .inr (4, [.ref cd, .int (iz (max ne 0)), .int (iz pe)])), (cd, .inl (cB, 1300, .inl (az fc)))] H := hP
      have hD : va_D (AM mo rs ex xd li bo cu cd) [(mo, .inr (3, [.ref rs, .int (iz len), .int (iz co), .ref ex, .int (iz bi), .int (iz le), .ref li, .int (iz used), .ref bo, .int (iz bl), .ref cu])), (rs, .inl (cB, 4096, .inl (az fr))), (ex, .inr (4, [.ref xd, .int (iz ne), .int (iz pe)])), (xd, .inl (cB, 1300, .inl (az fe))), (li, .inl (cL, 160, .inr (.inl (azl lm)))), (bo, .inl (cB, 4096, .inl (az fb))), (cu, .inr (4, [.ref cd, .int (iz (max ne 0)), .int (iz pe)])), (cd, .inl (cB, 1300, .inl (az fc)))] := hD
      refine lv_iconst (v := iz 0) hx hb d_Mo_round_44 rfl ?_
      refine lv_istore hx hb d_Mo_round_45 hl (by decide) rfl (fun ls hl => ?_)
      have hl : lv_has ls 5 [(4, .int (iz 0)), (3, .int (iz ne)), (0, .ref mo), (1, .ref ex), (2, .int (iz mx))] := hl
      exact L47 _ ne fc 0 _ _ _ hP hD hS (lv_sub hl [2, 3, 4, 1, 0] rfl) (by omega) ⟨by omega, Or.inr rfl⟩ (fun j q1 q2 => absurd q1 (by omega)) (Nat.lt_succ_self _)
  · refine lv_iload_n hx hb d_Mo_round_8 rfl (lv_at hl 2 rfl) ?_
    refine lv_goto (tgt := 16) hx hb d_Mo_round_9 rfl ?_
    refine lv_istore_n hx hb d_Mo_round_16 rfl hl (by decide) rfl (fun ls hl => ?_)
    have hl : lv_has ls 5 [(3, .int (iz mx)), (0, .ref mo), (1, .ref ex), (2, .int (iz mx))] := hl
    refine lv_aload_n hx hb d_Mo_round_17 rfl (lv_at hl 1 rfl) ?_
    refine va_get (D := D) (ci := 3) (v := .ref cu) (C := R_3) (T := T_3) (N := 11) hx hb hts in_3 hown hK hP 0 rfl rfl 10 (by decide) (hts _ tw_402) (fun _ h9 => h9) rfl d_Mo_round_18 ?_
    refine lv_aload_n hx hb d_Mo_round_21 rfl (lv_at hl 2 rfl) ?_
    refine va_get (D := D) (ci := 4) (v := .int (iz pe)) (C := R_4) (T := T_4) (N := 3) hx hb hts in_4 hown hK hP 2 rfl rfl 2 (by decide) (hts _ tw_384) (fun _ h9 => h9) rfl d_Mo_round_22 ?_
    refine va_put (D := D) (ci := 4) (v := .int (iz pe)) (ty := .int) (C := R_4) (T := T_4) (N := 3) hx hb hts in_4 ty_4 tyok_4 nm_4 hown hK hP hD hS 6 rfl rfl 2 (by decide) (hts _ tw_384) (fun _ h9 => h9) rfl (by decide +kernel) rfl rfl (Nat.le_of_ble_eq_true rfl) d_Mo_round_25 (fun H locs hP hD hS => ?_)
    have hP : va_P D vwCl [(mo, .inr (3, [.ref rs, .int (iz len), .int (iz co), .ref ex, .int (iz bi), .int (iz le), .ref li, .int (iz used), .ref bo, .int (iz bl), .ref cu])), (rs, .inl (cB, 4096, .inl (az fr))), (ex, .inr (4, [.ref xd, .int (iz ne), .int (iz pe)])), (xd, .inl (cB, 1300, .inl (az fe))), (li, .inl (cL, 160, .inr (.inl (azl lm)))), (bo, .inl (cB, 4096, .inl (az fb))), (cu, .inr (4, [.ref cd, .int (iz nc), .int (iz pe)])), (cd, .inl (cB, 1300, .inl (az fc)))] H := hP
    have hD : va_D (AM mo rs ex xd li bo cu cd) [(mo, .inr (3, [.ref rs, .int (iz len), .int (iz co), .ref ex, .int (iz bi), .int (iz le), .ref li, .int (iz used), .ref bo, .int (iz bl), .ref cu])), (rs, .inl (cB, 4096, .inl (az fr))), (ex, .inr (4, [.ref xd, .int (iz ne), .int (iz pe)])), (xd, .inl (cB, 1300, .inl (az fe))), (li, .inl (cL, 160, .inr (.inl (azl lm)))), (bo, .inl (cB, 4096, .inl (az fb))), (cu, .inr (4, [.ref cd, .int (iz nc), .int (iz pe)])), (cd, .inl (cB, 1300, .inl (az fc)))] := hD
    refine lv_aload_n hx hb d_Mo_round_28 rfl (lv_at hl 1 rfl) ?_
    refine va_get (D := D) (ci := 3) (v := .ref cu) (C := R_3) (T := T_3) (N := 11) hx hb hts in_3 hown hK hP 0 rfl rfl 10 (by decide) (hts _ tw_402) (fun _ h9 => h9) rfl d_Mo_round_29 ?_
    refine lv_iload_n hx hb d_Mo_round_32 rfl (lv_at hl 0 rfl) ?_
    refine z_if_ge (tgt := 40) hx hb d_Mo_round_33 rfl ⟨by omega, by omega⟩ (fun hc33 => ?_) (fun hc33 => ?_)
    · refine lv_iload_n hx hb d_Mo_round_40 rfl (lv_at hl 0 rfl) ?_
      refine z_ri (b := max mx 0) (by omega) ?_
      refine va_put (D := D) (ci := 4) (v := .int (iz (max mx 0))) (ty := .int) (C := R_4) (T := T_4) (N := 3) hx hb hts in_4 ty_4 tyok_4 nm_4 hown hK hP hD hS 6 rfl rfl 1 (by decide) (hts _ tw_383) (fun _ h9 => h9) rfl (by decide +kernel) rfl rfl (Nat.le_of_ble_eq_true rfl) d_Mo_round_41 (fun H locs hP hD hS => ?_)
      have hP : va_P D vwCl [(mo, .inr (3, [.ref rs, .int (iz len), .int (iz co), .ref ex, .int (iz bi), .int (iz le), .ref li, .int (iz used), .ref bo, .int (iz bl), .ref cu])), (rs, .inl (cB, 4096, .inl (az fr))), (ex, .inr (4, [.ref xd, .int (iz ne), .int (iz pe)])), (xd, .inl (cB, 1300, .inl (az fe))), (li, .inl (cL, 160, .inr (.inl (azl lm)))), (bo, .inl (cB, 4096, .inl (az fb))), (cu, .inr (4, [.ref cd, .int (iz (max mx 0)), .int (iz pe)])), (cd, .inl (cB, 1300, .inl (az fc)))] H := hP
      have hD : va_D (AM mo rs ex xd li bo cu cd) [(mo, .inr (3, [.ref rs, .int (iz len), .int (iz co), .ref ex, .int (iz bi), .int (iz le), .ref li, .int (iz used), .ref bo, .int (iz bl), .ref cu])), (rs, .inl (cB, 4096, .inl (az fr))), (ex, .inr (4, [.ref xd, .int (iz ne), .int (iz pe)])), (xd, .inl (cB, 1300, .inl (az fe))), (li, .inl (cL, 160, .inr (.inl (azl lm)))), (bo, .inl (cB, 4096, .inl (az fb))), (cu, .inr (4, [.ref cd, .int (iz (max mx 0)), .int (iz pe)])), (cd, .inl (cB, 1300, .inl (az fc)))] := hD
      refine lv_iconst (v := iz 0) hx hb d_Mo_round_44 rfl ?_
      refine lv_istore hx hb d_Mo_round_45 hl (by decide) rfl (fun ls hl => ?_)
      have hl : lv_has ls 5 [(4, .int (iz 0)), (3, .int (iz mx)), (0, .ref mo), (1, .ref ex), (2, .int (iz mx))] := hl
      exact L47 _ mx fc 0 _ _ _ hP hD hS (lv_sub hl [2, 3, 4, 1, 0] rfl) (by omega) ⟨by omega, Or.inr rfl⟩ (fun j q1 q2 => absurd q1 (by omega)) (Nat.lt_succ_self _)
    · refine lv_iconst (v := iz 0) hx hb d_Mo_round_36 rfl ?_
      refine z_ri (b := max mx 0) (by omega) ?_
      refine lv_goto (tgt := 41) hx hb d_Mo_round_37 rfl ?_
      refine va_put (D := D) (ci := 4) (v := .int (iz (max mx 0))) (ty := .int) (C := R_4) (T := T_4) (N := 3) hx hb hts in_4 ty_4 tyok_4 nm_4 hown hK hP hD hS 6 rfl rfl 1 (by decide) (hts _ tw_383) (fun _ h9 => h9) rfl (by decide +kernel) rfl rfl (Nat.le_of_ble_eq_true rfl) d_Mo_round_41 (fun H locs hP hD hS => ?_)
      have hP : va_P D vwCl [(mo, .inr (3, [.ref rs, .int (iz len), .int (iz co), .ref ex, .int (iz bi), .int (iz le), .ref li, .int (iz used), .ref bo, .int (iz bl), .ref cu])), (rs, .inl (cB, 4096, .inl (az fr))), (ex, .inr (4, [.ref xd, .int (iz ne), .int (iz pe)])), (xd, .inl (cB, 1300, .inl (az fe))), (li, .inl (cL, 160, .inr (.inl (azl lm)))), (bo, .inl (cB, 4096, .inl (az fb))), (cu, .inr (4, [.ref cd, .int (iz (max mx 0)), .int (iz pe)])), (cd, .inl (cB, 1300, .inl (az fc)))] H := hP
      have hD : va_D (AM mo rs ex xd li bo cu cd) [(mo, .inr (3, [.ref rs, .int (iz len), .int (iz co), .ref ex, .int (iz bi), .int (iz le), .ref li, .int (iz used), .ref bo, .int (iz bl), .ref cu])), (rs, .inl (cB, 4096, .inl (az fr))), (ex, .inr (4, [.ref xd, .int (iz ne), .int (iz pe)])), (xd, .inl (cB, 1300, .inl (az fe))), (li, .inl (cL, 160, .inr (.inl (azl lm)))), (bo, .inl (cB, 4096, .inl (az fb))), (cu, .inr (4, [.ref cd, .int (iz (max mx 0)), .int (iz pe)])), (cd, .inl (cB, 1300, .inl (az fc)))] := hD
      refine lv_iconst (v := iz 0) hx hb d_Mo_round_44 rfl ?_
      refine lv_istore hx hb d_Mo_round_45 hl (by decide) rfl (fun ls hl => ?_)
      have hl : lv_has ls 5 [(4, .int (iz 0)), (3, .int (iz mx)), (0, .ref mo), (1, .ref ex), (2, .int (iz mx))] := hl
      exact L47 _ mx fc 0 _ _ _ hP hD hS (lv_sub hl [2, 3, 4, 1, 0] rfl) (by omega) ⟨by omega, Or.inr rfl⟩ (fun j q1 q2 => absurd q1 (by omega)) (Nat.lt_succ_self _)
