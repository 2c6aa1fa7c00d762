theorem d_Mo_add_0 : decode b_Mo_add 0 = .ok (.aload_n 0, 1) := by decide +kernel
theorem d_Mo_add_1 : decode b_Mo_add 1 = .ok (.getfield 24, 3) := by decide +kernel
theorem d_Mo_add_4 : decode b_Mo_add 4 = .ok (.aload_n 0, 1) := by decide +kernel
theorem d_Mo_add_5 : decode b_Mo_add 5 = .ok (.getfield 92, 3) := by decide +kernel
theorem d_Mo_add_8 : decode b_Mo_add 8 = .ok (.iload_n 1, 1) := by decide +kernel
theorem d_Mo_add_9 : decode b_Mo_add 9 = .ok (.i2b, 1) := by decide +kernel
theorem d_Mo_add_10 : decode b_Mo_add 10 = .ok (.bastore, 1) := by decide +kernel
theorem d_Mo_add_11 : decode b_Mo_add 11 = .ok (.aload_n 0, 1) := by decide +kernel
theorem d_Mo_add_12 : decode b_Mo_add 12 = .ok (.dup, 1) := by decide +kernel
theorem d_Mo_add_13 : decode b_Mo_add 13 = .ok (.getfield 92, 3) := by decide +kernel
theorem d_Mo_add_16 : decode b_Mo_add 16 = .ok (.iconst 1, 1) := by decide +kernel
theorem d_Mo_add_17 : decode b_Mo_add 17 = .ok (.iadd, 1) := by decide +kernel
theorem d_Mo_add_18 : decode b_Mo_add 18 = .ok (.putfield 92, 3) := by decide +kernel
theorem d_Mo_add_21 : decode b_Mo_add 21 = .ok (.return_, 1) := by decide +kernel
set_option maxHeartbeats 4000000 in
set_option maxRecDepth 100000 in
theorem c_Mo_add (l : Launch) (D : va_G) (cB cL : ClassId) (mo rs ex xd li bo cu cd : Nat) (co bi le : Int) (rt bt : List Int) (V C : Int) (b : Int) (hb0 : 0 ≤ b ∧ b < 128) (hbl : bt.length < 4096) : Ct l y_Mo_add (ws_Mo_add) 0 (AM mo rs ex xd li bo cu cd) [.ref mo, .int (iz b)] (MW D cB cL mo rs ex xd li bo cu cd co bi le rt bt V C) (zR none (MW D cB cL mo rs ex xd li bo cu cd co bi le rt (bt ++ [b]) V C)) := by
  refine z_body zSt_MW (by decide +kernel) rfl (Nat.le_of_ble_eq_true rfl) ?_
  intro p e s m args below meth c ls hx hb hml hr hlk hts0 hown hpre0 H locs hpre hS hl
  have hts : ∀ w ∈ TBL, w.before args s = true := fun w hw => hts0 w (List.mem_cons_of_mem _ hw)
  have hl : lv_has ls 2 [(0, .ref mo), (1, .int (iz b))] := hl
  have hw := hpre
  refine lv_aload_n hx hb d_Mo_add_0 rfl (lv_at hl 0 rfl) ?_
  have hw9 := hw
  obtain ⟨fc, nc, pp, ⟨len, used, bl, fr, fb, lm, fe, ne, pe, ⟨hK, hP, hD⟩, hrt, hbt, hE, hpe, hlm⟩, hC⟩ := hw9
  have hr1 := hrt.1
  have hr2 := hrt.2.1
  have hb1 := hbt.1
  have hb2 := hbt.2.1
  have hE1 := hE.1
  have hC1 := hC.1
  have hP : va_P D vwCl [(mo, .inr (3, [.ref rs, .int (iz len), .int (iz co), .ref ex, .int (iz bi), .int (iz le), .ref li, .int (iz used), .ref bo, .int (iz bl), .ref cu])), (rs, .inl (cB, 4096, .inl (az fr))), (ex, .inr (4, [.ref xd, .int (iz ne), .int (iz pe)])), (xd, .inl (cB, 1300, .inl (az fe))), (li, .inl (cL, 160, .inr (.inl (azl lm)))), (bo, .inl (cB, 4096, .inl (az fb))), (cu, .inr (4, [.ref cd, .int (iz nc), .int (iz pp)])), (cd, .inl (cB, 1300, .inl (az fc)))] H := hP
  have hD : va_D (AM mo rs ex xd li bo cu cd) [(mo, .inr (3, [.ref rs, .int (iz len), .int (iz co), .ref ex, .int (iz bi), .int (iz le), .ref li, .int (iz used), .ref bo, .int (iz bl), .ref cu])), (rs, .inl (cB, 4096, .inl (az fr))), (ex, .inr (4, [.ref xd, .int (iz ne), .int (iz pe)])), (xd, .inl (cB, 1300, .inl (az fe))), (li, .inl (cL, 160, .inr (.inl (azl lm)))), (bo, .inl (cB, 4096, .inl (az fb))), (cu, .inr (4, [.ref cd, .int (iz nc), .int (iz pp)])), (cd, .inl (cB, 1300, .inl (az fc)))] := hD
  refine va_get (D := D) (ci := 3) (v := .ref bo) (C := R_3) (T := T_3) (N := 11) hx hb hts in_3 hown hK hP 0 rfl rfl 8 (by decide) (hts _ tw_400) (fun _ h9 => h9) rfl d_Mo_add_1 ?_
  refine lv_aload_n hx hb d_Mo_add_4 rfl (lv_at hl 0 rfl) ?_
  refine va_get (D := D) (ci := 3) (v := .int (iz bl)) (C := R_3) (T := T_3) (N := 11) hx hb hts in_3 hown hK hP 0 rfl rfl 9 (by decide) (hts _ tw_401) (fun _ h9 => h9) rfl d_Mo_add_5 ?_
  refine lv_iload_n hx hb d_Mo_add_8 rfl (lv_at hl 1 rfl) ?_
  refine z_i2b hx hb d_Mo_add_9 ⟨by omega, by omega⟩ ?_
  refine z_bast hx hb hK hP hD hS 5 0 rfl rfl (by omega) (by omega) (by decide) ⟨by omega, by omega⟩ d_Mo_add_10 (fun H locs hP hD hS => ?_)
  have hP : va_P D vwCl [(mo, .inr (3, [.ref rs, .int (iz len), .int (iz co), .ref ex, .int (iz bi), .int (iz le), .ref li, .int (iz used), .ref bo, .int (iz bl), .ref cu])), (rs, .inl (cB, 4096, .inl (az fr))), (ex, .inr (4, [.ref xd, .int (iz ne), .int (iz pe)])), (xd, .inl (cB, 1300, .inl (az fe))), (li, .inl (cL, 160, .inr (.inl (azl lm)))), (bo, .inl (cB, 4096, .inl (az (up fb bl b)))), (cu, .inr (4, [.ref cd, .int (iz nc), .int (iz pp)])), (cd, .inl (cB, 1300, .inl (az fc)))] H := hP
  have hD : va_D (AM mo rs ex xd li bo cu cd) [(mo, .inr (3, [.ref rs, .int (iz len), .int (iz co), .ref ex, .int (iz bi), .int (iz le), .ref li, .int (iz used), .ref bo, .int (iz bl), .ref cu])), (rs, .inl (cB, 4096, .inl (az fr))), (ex, .inr (4, [.ref xd, .int (iz ne), .int (iz pe)])), (xd, .inl (cB, 1300, .inl (az fe))), (li, .inl (cL, 160, .inr (.inl (azl lm)))), (bo, .inl (cB, 4096, .inl (az (up fb bl b)))), (cu, .inr (4, [.ref cd, .int (iz nc), .int (iz pp)])), (cd, .inl (cB, 1300, .inl (az fc)))] := hD
  refine lv_aload_n hx hb d_Mo_add_11 rfl (lv_at hl 0 rfl) ?_
  refine lv_dup hx hb d_Mo_add_12 rfl ?_
  refine va_get (D := D) (ci := 3) (v := .int (iz bl)) (C := R_3) (T := T_3) (N := 11) hx hb hts in_3 hown hK hP 0 rfl rfl 9 (by decide) (hts _ tw_401) (fun _ h9 => h9) rfl d_Mo_add_13 ?_
  refine lv_iconst (v := iz 1) hx hb d_Mo_add_16 rfl ?_
  refine z_iadd hx hb d_Mo_add_17 ?_
  refine va_put (D := D) (ci := 3) (v := .int (iz (bl + 1))) (ty := .int) (C := R_3) (T := T_3) (N := 11) hx hb hts in_3 ty_3 tyok_3 nm_3 hown hK hP hD hS 0 rfl rfl 9 (by decide) (hts _ tw_401) (fun _ h9 => h9) rfl (by decide +kernel) rfl rfl (Nat.le_of_ble_eq_true rfl) d_Mo_add_18 (fun H locs hP hD hS => ?_)
  have hP : va_P D vwCl [(mo, .inr (3, [.ref rs, .int (iz len), .int (iz co), .ref ex, .int (iz bi), .int (iz le), .ref li, .int (iz used), .ref bo, .int (iz (bl + 1)), .ref cu])), (rs, .inl (cB, 4096, .inl (az fr))), (ex, .inr (4, [.ref xd, .int (iz ne), .int (iz pe)])), (xd, .inl (cB, 1300, .inl (az fe))), (li, .inl (cL, 160, .inr (.inl (azl lm)))), (bo, .inl (cB, 4096, .inl (az (up fb bl b)))), (cu, .inr (4, [.ref cd, .int (iz nc), .int (iz pp)])), (cd, .inl (cB, 1300, .inl (az fc)))] H := hP
  have hD : va_D (AM mo rs ex xd li bo cu cd) [(mo, .inr (3, [.ref rs, .int (iz len), .int (iz co), .ref ex, .int (iz bi), .int (iz le), .ref li, .int (iz used), .ref bo, .int (iz (bl + 1)), .ref cu])), (rs, .inl (cB, 4096, .inl (az fr))), (ex, .inr (4, [.ref xd, .int (iz ne), .int (iz pe)])), (xd, .inl (cB, 1300, .inl (az fe))), (li, .inl (cL, 160, .inr (.inl (azl lm)))), (bo, .inl (cB, 4096, .inl (az (up fb bl b)))), (cu, .inr (4, [.ref cd, .int (iz nc), .int (iz pp)])), (cd, .inl (cB, 1300, .inl (az fc)))] := hD
  exact z_vret hx hb hr hlk hS (zR_st zSt_MW) ⟨rfl, _, _, _, ⟨_, _, _, _, _, _, _, _, _, ⟨hK, hP, hD⟩, hrt, (TxM_add hbt hbl hb0), hE, hpe, hlm⟩, hC⟩ d_Mo_add_21
theorem d_Mo_digit_0 : decode b_Mo_digit 0 = .ok (.iload_n 1, 1) := by decide +kernel
theorem d_Mo_digit_1 : decode b_Mo_digit 1 = .ok (.ifCond .lt (23), 3) := by decide +kernel
theorem d_Mo_digit_4 : decode b_Mo_digit 4 = .ok (.iload_n 1, 1) := by decide +kernel
theorem d_Mo_digit_5 : decode b_Mo_digit 5 = .ok (.aload_n 0, 1) := by decide +kernel
theorem d_Mo_digit_6 : decode b_Mo_digit 6 = .ok (.getfield 79, 3) := by decide +kernel
theorem d_Mo_digit_9 : decode b_Mo_digit 9 = .ok (.if_icmp .ge (15), 3) := by decide +kernel
theorem d_Mo_digit_12 : decode b_Mo_digit 12 = .ok (.bipush (48), 2) := by decide +kernel
theorem d_Mo_digit_14 : decode b_Mo_digit 14 = .ok (.aload_n 0, 1) := by decide +kernel
theorem d_Mo_digit_15 : decode b_Mo_digit 15 = .ok (.getfield 86, 3) := by decide +kernel
theorem d_Mo_digit_18 : decode b_Mo_digit 18 = .ok (.iload_n 1, 1) := by decide +kernel
theorem d_Mo_digit_19 : decode b_Mo_digit 19 = .ok (.baload, 1) := by decide +kernel
theorem d_Mo_digit_20 : decode b_Mo_digit 20 = .ok (.iadd, 1) := by decide +kernel
theorem d_Mo_digit_21 : decode b_Mo_digit 21 = .ok (.goto (5), 3) := by decide +kernel
theorem d_Mo_digit_24 : decode b_Mo_digit 24 = .ok (.bipush (48), 2) := by decide +kernel
theorem d_Mo_digit_26 : decode b_Mo_digit 26 = .ok (.ireturn, 1) := by decide +kernel
set_option maxHeartbeats 4000000 in
set_option maxRecDepth 100000 in
theorem c_Mo_digit (l : Launch) (D : va_G) (cB cL : ClassId) (mo rs ex xd li bo cu cd : Nat) (co bi le : Int) (rt bt : List Int) (V C : Int) (i : Int) (hi : iR i) : Ct l y_Mo_digit (ws_Mo_digit) 0 (AM mo rs ex xd li bo cu cd) [.ref cu, .int (iz i)] (MW D cB cL mo rs ex xd li bo cu cd co bi le rt bt V C) (zR (some (.int (iz (48 + dgt C (lead C - i))))) (MW D cB cL mo rs ex xd li bo cu cd co bi le rt bt V C)) := by
  refine z_body zSt_MW (by decide +kernel) rfl (Nat.le_of_ble_eq_true rfl) ?_
  intro p e s m args below meth c ls hx hb hml hr hlk hts0 hown hpre0 H locs hpre hS hl
  have hts : ∀ w ∈ TBL, w.before args s = true := fun w hw => hts0 w (List.mem_cons_of_mem _ hw)
  have hl : lv_has ls 2 [(0, .ref cu), (1, .int (iz i))] := hl
  have hw := hpre
  have hw9 := hw
  obtain ⟨fc, nc, pp, ⟨len, used, bl, fr, fb, lm, fe, ne, pe, ⟨hK, hP, hD⟩, hrt, hbt, hE, hpe, hlm⟩, hC⟩ := hw9
  have hr1 := hrt.1
  have hr2 := hrt.2.1
  have hb1 := hbt.1
  have hb2 := hbt.2.1
  have hE1 := hE.1
  have hC1 := hC.1
  refine lv_iload_n hx hb d_Mo_digit_0 rfl (lv_at hl 1 rfl) ?_
  refine z_if_lt (tgt := 24) hx hb d_Mo_digit_1 rfl ⟨by omega, by omega⟩ (fun hc1 => ?_) (fun hc1 => ?_)
  · refine lv_bipush (v := iz 48) hx hb d_Mo_digit_24 (by decide) ?_
    exact z_iret hx hb hr hlk hS (zR_st zSt_MW) ⟨by rw [← hC.any i, if_neg (by omega)]; rfl, hw⟩ d_Mo_digit_26
  · refine lv_iload_n hx hb d_Mo_digit_4 rfl (lv_at hl 1 rfl) ?_
    refine lv_aload_n hx hb d_Mo_digit_5 rfl (lv_at hl 0 rfl) ?_
    refine va_get (D := D) (ci := 4) (v := .int (iz nc)) (C := R_4) (T := T_4) (N := 3) hx hb hts in_4 hown hK hP 6 rfl rfl 1 (by decide) (hts _ tw_383) (fun _ h9 => h9) rfl d_Mo_digit_6 ?_
    refine z_icmp_ge (tgt := 24) hx hb d_Mo_digit_9 rfl ⟨by omega, by omega⟩ ⟨by omega, by omega⟩ (fun hc9 => ?_) (fun hc9 => ?_)
    · refine lv_bipush (v := iz 48) hx hb d_Mo_digit_24 (by decide) ?_
      exact z_iret hx hb hr hlk hS (zR_st zSt_MW) ⟨by rw [← hC.any i, if_neg (by omega)]; rfl, hw⟩ d_Mo_digit_26
    · have hfc := hC.2.1 i (by omega) (by omega)
      refine lv_bipush (v := iz 48) hx hb d_Mo_digit_12 (by decide) ?_
      refine lv_aload_n hx hb d_Mo_digit_14 rfl (lv_at hl 0 rfl) ?_
      refine va_get (D := D) (ci := 4) (v := .ref cd) (C := R_4) (T := T_4) (N := 3) hx hb hts in_4 hown hK hP 6 rfl rfl 0 (by decide) (hts _ tw_382) (fun _ h9 => h9) rfl d_Mo_digit_15 ?_
      refine lv_iload_n hx hb d_Mo_digit_18 rfl (lv_at hl 1 rfl) ?_
      refine z_bald hx hb hK hP 7 0 rfl rfl (by omega) (by omega) (by decide) d_Mo_digit_19 ?_
      refine z_iadd hx hb d_Mo_digit_20 ?_
      refine lv_goto (tgt := 26) hx hb d_Mo_digit_21 rfl ?_
      exact z_iret hx hb hr hlk hS (zR_st zSt_MW) ⟨by rw [← hC.any i, if_pos ⟨hc1, hc9⟩], hw⟩ d_Mo_digit_26
theorem d_Mo_wordOut_0 : decode b_Mo_word 0 = .ok (.aload_n 0, 1) := by decide +kernel
theorem d_Mo_wordOut_1 : decode b_Mo_word 1 = .ok (.iload_n 1, 1) := by decide +kernel
theorem d_Mo_wordOut_2 : decode b_Mo_word 2 = .ok (.ifCond .lt (15), 3) := by decide +kernel
theorem d_Mo_wordOut_5 : decode b_Mo_word 5 = .ok (.iload_n 1, 1) := by decide +kernel
theorem d_Mo_wordOut_6 : decode b_Mo_word 6 = .ok (.aload_n 0, 1) := by decide +kernel
theorem d_Mo_wordOut_7 : decode b_Mo_word 7 = .ok (.getfield 34, 3) := by decide +kernel
theorem d_Mo_wordOut_10 : decode b_Mo_word 10 = .ok (.if_icmp .ge (7), 3) := by decide +kernel
theorem d_Mo_wordOut_17 : decode b_Mo_word 17 = .ok (.iconst 0, 1) := by decide +kernel
theorem d_Mo_wordOut_18 : decode b_Mo_word 18 = .ok (.iconst 1, 1) := by decide +kernel
theorem d_Mo_wordOut_19 : decode b_Mo_word 19 = .ok (.invokevirtual 37, 3) := by decide +kernel
theorem d_Mo_wordOut_22 : decode b_Mo_word 22 = .ok (.ifCond .ne (5), 3) := by decide +kernel
theorem d_Mo_wordOut_25 : decode b_Mo_word 25 = .ok (.lconst 0, 1) := by decide +kernel
theorem d_Mo_wordOut_26 : decode b_Mo_word 26 = .ok (.lreturn, 1) := by decide +kernel
set_option maxHeartbeats 4000000 in
set_option maxRecDepth 100000 in
theorem c_Mo_wordOut (l : Launch) (D : va_G) (cB cL : ClassId) (mo rs ex xd li bo cu cd : Nat) (co bi le : Int) (rt bt : List Int) (V C : Int) (i : Int) (hi : iR i) (ho : i < 0 ∨ (rt.length : Int) ≤ i) : Ct l y_Mo_word (ws_Mo_word) 1 (AM mo rs ex xd li bo cu cd) [.ref mo, .int (iz i)] (MW D cB cL mo rs ex xd li bo cu cd co bi le rt bt V C) (zR (some (.long (lz 0))) (MW D cB cL mo rs ex xd li bo cu cd 1 bi le rt bt V C)) := by
  refine z_body zSt_MW (by decide +kernel) rfl (Nat.le_of_ble_eq_true rfl) ?_
  intro p e s m args below meth c ls hx hb hml hr hlk hts0 hown hpre0 H locs hpre hS hl
  have hts : ∀ w ∈ TBL, w.before args s = true := fun w hw => hts0 w (List.mem_cons_of_mem _ hw)
  have hl : lv_has ls 5 [(0, .ref mo), (1, .int (iz i))] := hl
  have hw := hpre
  have hw9 := hw
  obtain ⟨fc, nc, pp, ⟨len, used, bl, fr, fb, lm, fe, ne, pe, ⟨hK, hP, hD⟩, hrt, hbt, hE, hpe, hlm⟩, hC⟩ := hw9
  have hr1 := hrt.1
  have hr2 := hrt.2.1
  have hb1 := hbt.1
  have hb2 := hbt.2.1
  have hE1 := hE.1
  have hC1 := hC.1
  refine lv_aload_n hx hb d_Mo_wordOut_0 rfl (lv_at hl 0 rfl) ?_
  refine lv_iload_n hx hb d_Mo_wordOut_1 rfl (lv_at hl 1 rfl) ?_
  refine z_if_lt (tgt := 17) hx hb d_Mo_wordOut_2 rfl ⟨by omega, by omega⟩ (fun hc2 => ?_) (fun hc2 => ?_)
  · refine lv_iconst (v := iz 0) hx hb d_Mo_wordOut_17 rfl ?_
    refine lv_iconst (v := iz 1) hx hb d_Mo_wordOut_18 rfl ?_
    have hct := c_Mo_good l D cB cL mo rs ex xd li bo cu cd co bi le rt bt V C 0 1 (by omega) ⟨by omega, by omega⟩
    refine z_go (va_runV (As := [.int (iz 0), .int (iz 1)]) (rest := []) ⟨hx, hb, hml, hown, hts⟩ hct.2 (z_cwV hts w_Mo_good tw_435 (by decide)) (z_preV hct.1 (va_recv hK hP (ci := 3) (q0 := 0) rfl rfl) hw) rfl rfl hl.1 rfl (lv_room (Nat.le_of_ble_eq_true rfl)) d_Mo_wordOut_19 ⟨Nat.zero_le _, Nat.zero_le _⟩) hS (fun _ h9 => h9) (fun v9 t9 H locs hv9 hp9 hz9 hk9 hS => ?_)
    obtain ⟨rfl, hw⟩ := hp9
    have hw := MW.moved hv9.symm hw
    rw [if_pos rfl] at hw
    refine W.eq (g2 := F0 m 22 ls [.int (iz 0)]) rfl ?_
    refine z_if_ne (tgt := 27) hx hb d_Mo_wordOut_22 rfl ⟨by omega, by omega⟩ (fun hc22 => ?_) (fun hc22 => ?_)
    · exfalso
      omega
    · refine lv_lconst (v := lz 0) hx hb d_Mo_wordOut_25 (by decide) ?_
      exact z_lret hx hb hr hlk hS (zR_st zSt_MW) ⟨rfl, hw⟩ d_Mo_wordOut_26
  · refine lv_iload_n hx hb d_Mo_wordOut_5 rfl (lv_at hl 1 rfl) ?_
    refine lv_aload_n hx hb d_Mo_wordOut_6 rfl (lv_at hl 0 rfl) ?_
    refine va_get (D := D) (ci := 3) (v := .int (iz len)) (C := R_3) (T := T_3) (N := 11) hx hb hts in_3 hown hK hP 0 rfl rfl 1 (by decide) (hts _ tw_393) (fun _ h9 => h9) rfl d_Mo_wordOut_7 ?_
    refine z_icmp_ge (tgt := 17) hx hb d_Mo_wordOut_10 rfl ⟨by omega, by omega⟩ ⟨by omega, by omega⟩ (fun hc10 => ?_) (fun hc10 => ?_)
    · refine lv_iconst (v := iz 0) hx hb d_Mo_wordOut_17 rfl ?_
      refine lv_iconst (v := iz 1) hx hb d_Mo_wordOut_18 rfl ?_
      have hct := c_Mo_good l D cB cL mo rs ex xd li bo cu cd co bi le rt bt V C 0 1 (by omega) ⟨by omega, by omega⟩
      refine z_go (va_runV (As := [.int (iz 0), .int (iz 1)]) (rest := []) ⟨hx, hb, hml, hown, hts⟩ hct.2 (z_cwV hts w_Mo_good tw_435 (by decide)) (z_preV hct.1 (va_recv hK hP (ci := 3) (q0 := 0) rfl rfl) hw) rfl rfl hl.1 rfl (lv_room (Nat.le_of_ble_eq_true rfl)) d_Mo_wordOut_19 ⟨Nat.zero_le _, Nat.zero_le _⟩) hS (fun _ h9 => h9) (fun v9 t9 H locs hv9 hp9 hz9 hk9 hS => ?_)
      obtain ⟨rfl, hw⟩ := hp9
      have hw := MW.moved hv9.symm hw
      rw [if_pos rfl] at hw
      refine W.eq (g2 := F0 m 22 ls [.int (iz 0)]) rfl ?_
      refine z_if_ne (tgt := 27) hx hb d_Mo_wordOut_22 rfl ⟨by omega, by omega⟩ (fun hc22 => ?_) (fun hc22 => ?_)
      · exfalso
        omega
      · refine lv_lconst (v := lz 0) hx hb d_Mo_wordOut_25 (by decide) ?_
        exact z_lret hx hb hr hlk hS (zR_st zSt_MW) ⟨rfl, hw⟩ d_Mo_wordOut_26
    · exfalso
      omega
theorem d_Mo_wordIn_0 : decode b_Mo_word 0 = .ok (.aload_n 0, 1) := by decide +kernel
theorem d_Mo_wordIn_1 : decode b_Mo_word 1 = .ok (.iload_n 1, 1) := by decide +kernel
theorem d_Mo_wordIn_2 : decode b_Mo_word 2 = .ok (.ifCond .lt (15), 3) := by decide +kernel
theorem d_Mo_wordIn_5 : decode b_Mo_word 5 = .ok (.iload_n 1, 1) := by decide +kernel
theorem d_Mo_wordIn_6 : decode b_Mo_word 6 = .ok (.aload_n 0, 1) := by decide +kernel
theorem d_Mo_wordIn_7 : decode b_Mo_word 7 = .ok (.getfield 34, 3) := by decide +kernel
theorem d_Mo_wordIn_10 : decode b_Mo_word 10 = .ok (.if_icmp .ge (7), 3) := by decide +kernel
theorem d_Mo_wordIn_13 : decode b_Mo_word 13 = .ok (.iconst 1, 1) := by decide +kernel
theorem d_Mo_wordIn_14 : decode b_Mo_word 14 = .ok (.goto (4), 3) := by decide +kernel
theorem d_Mo_wordIn_18 : decode b_Mo_word 18 = .ok (.iconst 1, 1) := by decide +kernel
theorem d_Mo_wordIn_19 : decode b_Mo_word 19 = .ok (.invokevirtual 37, 3) := by decide +kernel
theorem d_Mo_wordIn_22 : decode b_Mo_word 22 = .ok (.ifCond .ne (5), 3) := by decide +kernel
theorem d_Mo_wordIn_27 : decode b_Mo_word 27 = .ok (.lconst 0, 1) := by decide +kernel
theorem d_Mo_wordIn_28 : decode b_Mo_word 28 = .ok (.lstore_n 2, 1) := by decide +kernel
theorem d_Mo_wordIn_29 : decode b_Mo_word 29 = .ok (.iload_n 1, 1) := by decide +kernel
theorem d_Mo_wordIn_30 : decode b_Mo_word 30 = .ok (.istore 4, 2) := by decide +kernel
theorem d_Mo_wordIn_32 : decode b_Mo_word 32 = .ok (.iload 4, 2) := by decide +kernel
theorem d_Mo_wordIn_34 : decode b_Mo_word 34 = .ok (.iload_n 1, 1) := by decide +kernel
theorem d_Mo_wordIn_35 : decode b_Mo_word 35 = .ok (.bipush (8), 2) := by decide +kernel
theorem d_Mo_wordIn_37 : decode b_Mo_word 37 = .ok (.iadd, 1) := by decide +kernel
theorem d_Mo_wordIn_38 : decode b_Mo_word 38 = .ok (.if_icmp .ge (40), 3) := by decide +kernel
theorem d_Mo_wordIn_41 : decode b_Mo_word 41 = .ok (.lload_n 2, 1) := by decide +kernel
theorem d_Mo_wordIn_42 : decode b_Mo_word 42 = .ok (.bipush (8), 2) := by decide +kernel
theorem d_Mo_wordIn_44 : decode b_Mo_word 44 = .ok (.lshl, 1) := by decide +kernel
theorem d_Mo_wordIn_45 : decode b_Mo_word 45 = .ok (.iload 4, 2) := by decide +kernel
theorem d_Mo_wordIn_47 : decode b_Mo_word 47 = .ok (.aload_n 0, 1) := by decide +kernel
theorem d_Mo_wordIn_48 : decode b_Mo_word 48 = .ok (.getfield 34, 3) := by decide +kernel
theorem d_Mo_wordIn_51 : decode b_Mo_word 51 = .ok (.if_icmp .ge (18), 3) := by decide +kernel
theorem d_Mo_wordIn_54 : decode b_Mo_word 54 = .ok (.aload_n 0, 1) := by decide +kernel
theorem d_Mo_wordIn_55 : decode b_Mo_word 55 = .ok (.getfield 7, 3) := by decide +kernel
theorem d_Mo_wordIn_58 : decode b_Mo_word 58 = .ok (.iload 4, 2) := by decide +kernel
theorem d_Mo_wordIn_60 : decode b_Mo_word 60 = .ok (.baload, 1) := by decide +kernel
theorem d_Mo_wordIn_61 : decode b_Mo_word 61 = .ok (.i2l, 1) := by decide +kernel
theorem d_Mo_wordIn_62 : decode b_Mo_word 62 = .ok (.ldc2_w 41, 3) := by decide +kernel
theorem d_Mo_wordIn_65 : decode b_Mo_word 65 = .ok (.land, 1) := by decide +kernel
theorem d_Mo_wordIn_66 : decode b_Mo_word 66 = .ok (.goto (4), 3) := by decide +kernel
theorem d_Mo_wordIn_69 : decode b_Mo_word 69 = .ok (.lconst 0, 1) := by decide +kernel
theorem d_Mo_wordIn_70 : decode b_Mo_word 70 = .ok (.lor, 1) := by decide +kernel
theorem d_Mo_wordIn_71 : decode b_Mo_word 71 = .ok (.lstore_n 2, 1) := by decide +kernel
theorem d_Mo_wordIn_72 : decode b_Mo_word 72 = .ok (.iinc 4 (1), 3) := by decide +kernel
theorem d_Mo_wordIn_75 : decode b_Mo_word 75 = .ok (.goto (-43), 3) := by decide +kernel
theorem d_Mo_wordIn_78 : decode b_Mo_word 78 = .ok (.lload_n 2, 1) := by decide +kernel
theorem d_Mo_wordIn_79 : decode b_Mo_word 79 = .ok (.lreturn, 1) := by decide +kernel
set_option maxHeartbeats 4000000 in
set_option maxRecDepth 100000 in
theorem c_Mo_wordIn (l : Launch) (D : va_G) (cB cL : ClassId) (mo rs ex xd li bo cu cd : Nat) (co bi le : Int) (rt bt : List Int) (V C : Int) (st : Nat) (hst : st < rt.length) : Ct l y_Mo_word (ws_Mo_word) 1 (AM mo rs ex xd li bo cu cd) [.ref mo, .int (iz (st : Int))] (MW D cB cL mo rs ex xd li bo cu cd co bi le rt bt V C) (zR (some (.long (lz (w8 rt st 8)))) (MW D cB cL mo rs ex xd li bo cu cd 0 bi le rt bt V C)) := by
  refine z_body zSt_MW (by decide +kernel) rfl (Nat.le_of_ble_eq_true rfl) ?_
  intro p e s m args below meth c ls hx hb hml hr hlk hts0 hown hpre0 H locs hpre hS hl
  have hts : ∀ w ∈ TBL, w.before args s = true := fun w hw => hts0 w (List.mem_cons_of_mem _ hw)
  have hl : lv_has ls 5 [(0, .ref mo), (1, .int (iz (st : Int)))] := hl
  have hw := hpre
  have hw9 := hw
  obtain ⟨fc, nc, pp, ⟨len, used, bl, fr, fb, lm, fe, ne, pe, ⟨hK, hP, hD⟩, hrt, hbt, hE, hpe, hlm⟩, hC⟩ := hw9
  have hr1 := hrt.1
  have hr2 := hrt.2.1
  have hb1 := hbt.1
  have hb2 := hbt.2.1
  have hE1 := hE.1
  have hC1 := hC.1
  have htc0 := hrt.2.2.2
  have L32 : ∀ (N32 : Nat) (j : Nat) (i : Int) (H : Heap) (locs : List Loc) (ls : Array Slot), MW D cB cL mo rs ex xd li bo cu cd 0 bi le rt bt V C s H → va_S (AM mo rs ex xd li bo cu cd) s.heap H locs → lv_has ls 5 [(0, .ref mo), (1, .int (iz (st : Int))), (2, .long (lz (w8 rt st j))), (4, .int (iz i))] → (j ≤ 8 ∧ i = (st : Int) + (j : Int)) → 8 - j < N32 → W p l e (zrm 1) s m args below meth c H locs 0 0 (MQ below (zQ (AM mo rs ex xd li bo cu cd) (zR (some (.long (lz (w8 rt st 8)))) (MW D cB cL mo rs ex xd li bo cu cd 0 bi le rt bt V C))) args s 0 0 (AM mo rs ex xd li bo cu cd)) (F0 m 32 ls []) := by
    intro N32
    induction N32 with
    | zero => intro j i H locs ls hw hS hl hj hN32; exact absurd hN32 (Nat.not_lt_zero _)
    | succ N32 ih32 =>
      intro j i H locs ls hw hS hl hj hN32
      refine lv_iload hx hb d_Mo_wordIn_32 (lv_at hl 3 rfl) ?_
      refine lv_iload_n hx hb d_Mo_wordIn_34 rfl (lv_at hl 1 rfl) ?_
      refine lv_bipush (v := iz 8) hx hb d_Mo_wordIn_35 (by decide) ?_
      refine z_iadd hx hb d_Mo_wordIn_37 ?_
      refine z_icmp_ge (tgt := 78) hx hb d_Mo_wordIn_38 rfl ⟨by omega, by omega⟩ ⟨by omega, by omega⟩ (fun hc38 => ?_) (fun hc38 => ?_)
      · refine lv_lload_n hx hb d_Mo_wordIn_78 rfl (lv_at hl 2 rfl) ?_
        exact z_lret hx hb hr hlk hS (zR_st zSt_MW) (by
            have e8 : j = 8 := by omega
            subst e8
            exact ⟨rfl, hw⟩) d_Mo_wordIn_79
      · have hgr := tx_getD htc0 (st + j)
        have hw8 := w8_le htc0 st (j := j) (by omega)
        refine lv_lload_n hx hb d_Mo_wordIn_41 rfl (lv_at hl 2 rfl) ?_
        refine lv_bipush (v := iz 8) hx hb d_Mo_wordIn_42 (by decide) ?_
        refine z_lshl hx hb 8 d_Mo_wordIn_44 rfl (by decide) ⟨by omega, by omega⟩ ⟨by omega, by omega⟩ ?_
        refine lv_iload hx hb d_Mo_wordIn_45 (lv_at hl 3 rfl) ?_
        refine lv_aload_n hx hb d_Mo_wordIn_47 rfl (lv_at hl 0 rfl) ?_
        have hw9 := hw
        obtain ⟨fc, nc, pp, ⟨len, used, bl, fr, fb, lm, fe, ne, pe, ⟨hK, hP, hD⟩, hrt, hbt, hE, hpe, hlm⟩, hC⟩ := hw9
        have hr1 := hrt.1
        have hr2 := hrt.2.1
        have hb1 := hbt.1
        have hb2 := hbt.2.1
        have hE1 := hE.1
        have hC1 := hC.1
        have hP : va_P D vwCl [(mo, .inr (3, [.ref rs, .int (iz len), .int (iz 0), .ref ex, .int (iz bi), .int (iz le), .ref li, .int (iz used), .ref bo, .int (iz bl), .ref cu])), (rs, .inl (cB, 4096, .inl (az fr))), (ex, .inr (4, [.ref xd, .int (iz ne), .int (iz pe)])), (xd, .inl (cB, 1300, .inl (az fe))), (li, .inl (cL, 160, .inr (.inl (azl lm)))), (bo, .inl (cB, 4096, .inl (az fb))), (cu, .inr (4, [.ref cd, .int (iz nc), .int (iz pp)])), (cd, .inl (cB, 1300, .inl (az fc)))] H := hP
        have hD : va_D (AM mo rs ex xd li bo cu cd) [(mo, .inr (3, [.ref rs, .int (iz len), .int (iz 0), .ref ex, .int (iz bi), .int (iz le), .ref li, .int (iz used), .ref bo, .int (iz bl), .ref cu])), (rs, .inl (cB, 4096, .inl (az fr))), (ex, .inr (4, [.ref xd, .int (iz ne), .int (iz pe)])), (xd, .inl (cB, 1300, .inl (az fe))), (li, .inl (cL, 160, .inr (.inl (azl lm)))), (bo, .inl (cB, 4096, .inl (az fb))), (cu, .inr (4, [.ref cd, .int (iz nc), .int (iz pp)])), (cd, .inl (cB, 1300, .inl (az fc)))] := hD
        refine va_get (D := D) (ci := 3) (v := .int (iz len)) (C := R_3) (T := T_3) (N := 11) hx hb hts in_3 hown hK hP 0 rfl rfl 1 (by decide) (hts _ tw_393) (fun _ h9 => h9) rfl d_Mo_wordIn_48 ?_
        refine z_icmp_ge (tgt := 69) hx hb d_Mo_wordIn_51 rfl ⟨by omega, by omega⟩ ⟨by omega, by omega⟩ (fun hc51 => ?_) (fun hc51 => ?_)
        · have hgj : rt.getD (st + j) 0 = 0 := by
            simp only [List.getD]
            rw [List.getElem?_eq_none (by omega)]
            rfl
          refine lv_lconst (v := lz 0) hx hb d_Mo_wordIn_69 (by decide) ?_
          refine z_rl (b := rt.getD (st + j) 0) hgj.symm ?_
          refine z_lorp (a := w8 rt st j) hx hb 8 d_Mo_wordIn_70 (by omega) (by omega) (by omega) (by omega) ?_
          refine z_rl (b := w8 rt st (j + 1)) rfl ?_
          refine lv_lstore_n hx hb d_Mo_wordIn_71 rfl hl (by decide) rfl (fun ls hl => ?_)
          have hl : lv_has ls 5 [(2, .long (lz (w8 rt st (j + 1)))), (0, .ref mo), (1, .int (iz (st : Int))), (4, .int (iz i))] := hl
          refine lv_iinc (k := 3) (v := (iz (i + 1))) hx hb d_Mo_wordIn_72 hl rfl (by show iz _ + iz (1) = _; rw [← iz_add]; try rfl) (by decide) rfl (fun ls hl => ?_)
          have hl : lv_has ls 5 [(4, .int (iz (i + 1))), (2, .long (lz (w8 rt st (j + 1)))), (0, .ref mo), (1, .int (iz (st : Int)))] := hl
          refine lv_goto (tgt := 32) hx hb d_Mo_wordIn_75 rfl ?_
          exact ih32 (j + 1) (i + 1) _ _ _ hw hS (lv_sub hl [2, 3, 1, 0] rfl) ⟨by omega, by omega⟩ (by omega)
        · have hgj : fr i = rt.getD (st + j) 0 := by
            have h8 := hrt.2.2.1 (st + j) (by omega)
            rw [hj.2, ← Int.natCast_add]
            exact h8
          refine lv_aload_n hx hb d_Mo_wordIn_54 rfl (lv_at hl 0 rfl) ?_
          refine va_get (D := D) (ci := 3) (v := .ref rs) (C := R_3) (T := T_3) (N := 11) hx hb hts in_3 hown hK hP 0 rfl rfl 0 (by decide) (hts _ tw_392) (fun _ h9 => h9) rfl d_Mo_wordIn_55 ?_
          refine lv_iload hx hb d_Mo_wordIn_58 (lv_at hl 3 rfl) ?_
          refine z_bald hx hb hK hP 1 0 rfl rfl (by omega) (by omega) (by decide) d_Mo_wordIn_60 ?_
          refine z_ri (b := rt.getD (st + j) 0) hgj ?_
          refine z_i2l hx hb d_Mo_wordIn_61 ⟨by omega, by omega⟩ ?_
          refine lv_ldc2 (v := (255 : Int64)) hx hb hown (hts _ tw_439) d_Mo_wordIn_62 ?_
          refine z_topl (y := lz (255)) (by decide) ?_
          refine z_landm hx hb 8 d_Mo_wordIn_65 (by decide) rfl ⟨by omega, by omega⟩ ?_
          refine z_rl (b := rt.getD (st + j) 0) (by omega) ?_
          refine lv_goto (tgt := 70) hx hb d_Mo_wordIn_66 rfl ?_
          refine z_lorp (a := w8 rt st j) hx hb 8 d_Mo_wordIn_70 (by omega) (by omega) (by omega) (by omega) ?_
          refine z_rl (b := w8 rt st (j + 1)) rfl ?_
          refine lv_lstore_n hx hb d_Mo_wordIn_71 rfl hl (by decide) rfl (fun ls hl => ?_)
          have hl : lv_has ls 5 [(2, .long (lz (w8 rt st (j + 1)))), (0, .ref mo), (1, .int (iz (st : Int))), (4, .int (iz i))] := hl
          refine lv_iinc (k := 3) (v := (iz (i + 1))) hx hb d_Mo_wordIn_72 hl rfl (by show iz _ + iz (1) = _; rw [← iz_add]; try rfl) (by decide) rfl (fun ls hl => ?_)
          have hl : lv_has ls 5 [(4, .int (iz (i + 1))), (2, .long (lz (w8 rt st (j + 1)))), (0, .ref mo), (1, .int (iz (st : Int)))] := hl
          refine lv_goto (tgt := 32) hx hb d_Mo_wordIn_75 rfl ?_
          exact ih32 (j + 1) (i + 1) _ _ _ hw hS (lv_sub hl [2, 3, 1, 0] rfl) ⟨by omega, by omega⟩ (by omega)
  refine lv_aload_n hx hb d_Mo_wordIn_0 rfl (lv_at hl 0 rfl) ?_
  refine lv_iload_n hx hb d_Mo_wordIn_1 rfl (lv_at hl 1 rfl) ?_
  refine z_if_lt (tgt := 17) hx hb d_Mo_wordIn_2 rfl ⟨by omega, by omega⟩ (fun hc2 => ?_) (fun hc2 => ?_)
  · exfalso
    omega
  · refine lv_iload_n hx hb d_Mo_wordIn_5 rfl (lv_at hl 1 rfl) ?_
    refine lv_aload_n hx hb d_Mo_wordIn_6 rfl (lv_at hl 0 rfl) ?_
    refine va_get (D := D) (ci := 3) (v := .int (iz len)) (C := R_3) (T := T_3) (N := 11) hx hb hts in_3 hown hK hP 0 rfl rfl 1 (by decide) (hts _ tw_393) (fun _ h9 => h9) rfl d_Mo_wordIn_7 ?_
    refine z_icmp_ge (tgt := 17) hx hb d_Mo_wordIn_10 rfl ⟨by omega, by omega⟩ ⟨by omega, by omega⟩ (fun hc10 => ?_) (fun hc10 => ?_)
    · exfalso
      omega
    · refine lv_iconst (v := iz 1) hx hb d_Mo_wordIn_13 rfl ?_
      refine lv_goto (tgt := 18) hx hb d_Mo_wordIn_14 rfl ?_
      refine lv_iconst (v := iz 1) hx hb d_Mo_wordIn_18 rfl ?_
      have hct := c_Mo_good l D cB cL mo rs ex xd li bo cu cd co bi le rt bt V C 1 1 (by omega) ⟨by omega, by omega⟩
      refine z_go (va_runV (As := [.int (iz 1), .int (iz 1)]) (rest := []) ⟨hx, hb, hml, hown, hts⟩ hct.2 (z_cwV hts w_Mo_good tw_435 (by decide)) (z_preV hct.1 (va_recv hK hP (ci := 3) (q0 := 0) rfl rfl) hw) rfl rfl hl.1 rfl (lv_room (Nat.le_of_ble_eq_true rfl)) d_Mo_wordIn_19 ⟨Nat.zero_le _, Nat.zero_le _⟩) hS (fun _ h9 => h9) (fun v9 t9 H locs hv9 hp9 hz9 hk9 hS => ?_)
      obtain ⟨rfl, hw⟩ := hp9
      have hw := MW.moved hv9.symm hw
      rw [if_neg (by decide)] at hw
      refine W.eq (g2 := F0 m 22 ls [.int (iz 1)]) rfl ?_
      refine z_if_ne (tgt := 27) hx hb d_Mo_wordIn_22 rfl ⟨by omega, by omega⟩ (fun hc22 => ?_) (fun hc22 => ?_)
      · refine lv_lconst (v := lz 0) hx hb d_Mo_wordIn_27 (by decide) ?_
        refine lv_lstore_n hx hb d_Mo_wordIn_28 rfl hl (by decide) rfl (fun ls hl => ?_)
        have hl : lv_has ls 5 [(2, .long (lz 0)), (0, .ref mo), (1, .int (iz (st : Int)))] := hl
        refine lv_iload_n hx hb d_Mo_wordIn_29 rfl (lv_at hl 2 rfl) ?_
        refine lv_istore hx hb d_Mo_wordIn_30 hl (by decide) rfl (fun ls hl => ?_)
        have hl : lv_has ls 5 [(4, .int (iz (st : Int))), (2, .long (lz 0)), (0, .ref mo), (1, .int (iz (st : Int)))] := hl
        exact L32 _ 0 (st : Int) _ _ _ hw hS (lv_sub hl [2, 3, 1, 0] rfl) ⟨by omega, by omega⟩ (Nat.lt_succ_self _)
      · exfalso
        omega
