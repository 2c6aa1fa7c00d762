theorem d_Mo_show_0 : decode b_Mo_show 0 = .ok (.aload_n 0, 1) := by decide +kernel
theorem d_Mo_show_1 : decode b_Mo_show 1 = .ok (.iconst 1, 1) := by decide +kernel
theorem d_Mo_show_2 : decode b_Mo_show 2 = .ok (.invokevirtual 158, 3) := by decide +kernel
theorem d_Mo_show_5 : decode b_Mo_show 5 = .ok (.aload_n 0, 1) := by decide +kernel
theorem d_Mo_show_6 : decode b_Mo_show 6 = .ok (.iload_n 1, 1) := by decide +kernel
theorem d_Mo_show_7 : decode b_Mo_show 7 = .ok (.iload_n 2, 1) := by decide +kernel
theorem d_Mo_show_8 : decode b_Mo_show 8 = .ok (.iload_n 3, 1) := by decide +kernel
theorem d_Mo_show_9 : decode b_Mo_show 9 = .ok (.iload 4, 2) := by decide +kernel
theorem d_Mo_show_11 : decode b_Mo_show 11 = .ok (.lload 5, 2) := by decide +kernel
theorem d_Mo_show_13 : decode b_Mo_show 13 = .ok (.invokevirtual 162, 3) := by decide +kernel
theorem d_Mo_show_16 : decode b_Mo_show 16 = .ok (.ireturn, 1) := by decide +kernel
set_option maxHeartbeats 4000000 in
set_option maxRecDepth 100000 in
theorem c_Mo_show (l : Launch) (D : va_G) (cB cL : ClassId) (mo rs ex xd li bo cu cd : Nat) (co : Int) (rt : List Int) (kI vI kN vN : Nat) (kd : Int) (pr : Nat) (gr pt : Int) (B : Int64) (hkd : 0 ≤ kd ∧ kd ≤ 2) (hpr : pr ≤ 1200) (hgr : gr = 0 ∨ gr = 1) (hpt : pt = 0 ∨ pt = 1) : Ct l y_Mo_show (ws_Mo_show) 5 (AM mo rs ex xd li bo cu cd) [.ref mo, .int (iz kd), .int (iz (pr : Int)), .int (iz gr), .int (iz pt), .long B] (fun U H => MR D cB cL mo rs ex xd li bo cu cd co rt U H ∧ SMo (AM mo rs ex xd li bo cu cd) kI vI kN vN U H) (zR (some (.int (iz ((outT 52 2047 (-1074) kd pr gr pt B).length : Int)))) (MR D cB cL mo rs ex xd li bo cu cd 0 (outT 52 2047 (-1074) kd pr gr pt B))) := by
  refine z_body (zSt_and zSt_MR zSt_SMo) (by decide +kernel) rfl (Nat.le_of_ble_eq_true rfl) ?_
  intro p e s m args below meth c ls hx hb hml hr hlk hts0 hown hpre0 H locs hpre hS hl
  have hts : ∀ w ∈ TBL, w.before args s = true := fun w hw => hts0 w (List.mem_cons_of_mem _ hw)
  have hl : lv_has ls 7 [(0, .ref mo), (1, .int (iz kd)), (2, .int (iz (pr : Int))), (3, .int (iz gr)), (4, .int (iz pt)), (5, .long B)] := hl
  obtain ⟨bi, le, bt, V, C, hw⟩ := hpre.1
  have hsx := hpre0.2
  refine lv_aload_n hx hb d_Mo_show_0 rfl (lv_at hl 0 rfl) ?_
  refine lv_iconst (v := iz 1) hx hb d_Mo_show_1 rfl ?_
  have hct := c_Mo_kind1 l D cB cL mo rs ex xd li bo cu cd co bi le rt bt V C
  have hw9 := hw
  obtain ⟨fc, nc, pp, ⟨len, used, bl, fr, fb, lm, fe, ne, pe, ⟨hK, hP, hD⟩, hrt, hbt, hE, hpe, hlm⟩, hC⟩ := hw9
  have hr1 := hrt.1
  have hr2 := hrt.2.1
  have hb1 := hbt.1
  have hb2 := hbt.2.1
  have hE1 := hE.1
  have hC1 := hC.1
  have hP : va_P D vwCl [(mo, .inr (3, [.ref rs, .int (iz len), .int (iz co), .ref ex, .int (iz bi), .int (iz le), .ref li, .int (iz used), .ref bo, .int (iz bl), .ref cu])), (rs, .inl (cB, 4096, .inl (az fr))), (ex, .inr (4, [.ref xd, .int (iz ne), .int (iz pe)])), (xd, .inl (cB, 1300, .inl (az fe))), (li, .inl (cL, 160, .inr (.inl (azl lm)))), (bo, .inl (cB, 4096, .inl (az fb))), (cu, .inr (4, [.ref cd, .int (iz nc), .int (iz pp)])), (cd, .inl (cB, 1300, .inl (az fc)))] H := hP
  have hD : va_D (AM mo rs ex xd li bo cu cd) [(mo, .inr (3, [.ref rs, .int (iz len), .int (iz co), .ref ex, .int (iz bi), .int (iz le), .ref li, .int (iz used), .ref bo, .int (iz bl), .ref cu])), (rs, .inl (cB, 4096, .inl (az fr))), (ex, .inr (4, [.ref xd, .int (iz ne), .int (iz pe)])), (xd, .inl (cB, 1300, .inl (az fe))), (li, .inl (cL, 160, .inr (.inl (azl lm)))), (bo, .inl (cB, 4096, .inl (az fb))), (cu, .inr (4, [.ref cd, .int (iz nc), .int (iz pp)])), (cd, .inl (cB, 1300, .inl (az fc)))] := hD
  refine z_go (va_runV (As := [.int (iz 1)]) (rest := []) ⟨hx, hb, hml, hown, hts⟩ hct.2 (z_cwV hts w_Mo_kind tw_444 (by decide)) (z_preV hct.1 (va_recv hK hP (ci := 3) (q0 := 0) rfl rfl) hw) rfl rfl hl.1 rfl (lv_room (Nat.le_of_ble_eq_true rfl)) d_Mo_show_2 ⟨Nat.zero_le _, Nat.zero_le _⟩) hS (fun _ h9 => h9) (fun v9 t9 H locs hv9 hp9 hz9 hk9 hS => ?_)
  obtain ⟨rfl, hw⟩ := hp9
  have hw := MW.moved hv9.symm hw
  refine W.eq (g2 := F0 m 5 ls []) rfl ?_
  refine lv_aload_n hx hb d_Mo_show_5 rfl (lv_at hl 0 rfl) ?_
  refine lv_iload_n hx hb d_Mo_show_6 rfl (lv_at hl 1 rfl) ?_
  refine lv_iload_n hx hb d_Mo_show_7 rfl (lv_at hl 2 rfl) ?_
  refine lv_iload_n hx hb d_Mo_show_8 rfl (lv_at hl 3 rfl) ?_
  refine lv_iload hx hb d_Mo_show_9 (lv_at hl 4 rfl) ?_
  refine lv_lload hx hb d_Mo_show_11 (lv_at hl 5 rfl) ?_
  have hct := c_Mo_shown53 l D cB cL mo rs ex xd li bo cu cd co rt bt V C kI vI kN vN kd pr gr pt B hkd hpr hgr hpt
  have hw9 := hw
  obtain ⟨fc, nc, pp, ⟨len, used, bl, fr, fb, lm, fe, ne, pe, ⟨hK, hP, hD⟩, hrt, hbt, hE, hpe, hlm⟩, hC⟩ := hw9
  have hr1 := hrt.1
  have hr2 := hrt.2.1
  have hb1 := hbt.1
  have hb2 := hbt.2.1
  have hE1 := hE.1
  have hC1 := hC.1
  have hP : va_P D vwCl [(mo, .inr (3, [.ref rs, .int (iz len), .int (iz co), .ref ex, .int (iz 53), .int (iz (-1074)), .ref li, .int (iz used), .ref bo, .int (iz bl), .ref cu])), (rs, .inl (cB, 4096, .inl (az fr))), (ex, .inr (4, [.ref xd, .int (iz ne), .int (iz pe)])), (xd, .inl (cB, 1300, .inl (az fe))), (li, .inl (cL, 160, .inr (.inl (azl lm)))), (bo, .inl (cB, 4096, .inl (az fb))), (cu, .inr (4, [.ref cd, .int (iz nc), .int (iz pp)])), (cd, .inl (cB, 1300, .inl (az fc)))] H := hP
  have hD : va_D (AM mo rs ex xd li bo cu cd) [(mo, .inr (3, [.ref rs, .int (iz len), .int (iz co), .ref ex, .int (iz 53), .int (iz (-1074)), .ref li, .int (iz used), .ref bo, .int (iz bl), .ref cu])), (rs, .inl (cB, 4096, .inl (az fr))), (ex, .inr (4, [.ref xd, .int (iz ne), .int (iz pe)])), (xd, .inl (cB, 1300, .inl (az fe))), (li, .inl (cL, 160, .inr (.inl (azl lm)))), (bo, .inl (cB, 4096, .inl (az fb))), (cu, .inr (4, [.ref cd, .int (iz nc), .int (iz pp)])), (cd, .inl (cB, 1300, .inl (az fc)))] := hD
  refine z_go (va_runV (As := [.int (iz kd), .int (iz (pr : Int)), .int (iz gr), .int (iz pt), .long B]) (rest := []) ⟨hx, hb, hml, hown, hts⟩ hct.2 (z_cwV hts w_Mo_shown tw_448 (by decide)) (z_preV hct.1 (va_recv hK hP (ci := 3) (q0 := 0) rfl rfl) ⟨hw, hsx.1.kept hS.2.1, hsx.2.1.kept hS.2.1, hsx.2.2⟩) rfl rfl hl.1 rfl (lv_room (Nat.le_of_ble_eq_true rfl)) d_Mo_show_13 ⟨Nat.zero_le _, Nat.zero_le _⟩) hS (fun _ h9 => h9) (fun v9 t9 H locs hv9 hp9 hz9 hk9 hS => ?_)
  obtain ⟨rfl, hw⟩ := hp9
  have hw := zSa_MR _ s _ hv9.symm hw
  refine W.eq (g2 := F0 m 16 ls [.int (iz ((outT 52 2047 (-1074) kd pr gr pt B).length : Int))]) rfl ?_
  exact z_iret hx hb hr hlk hS (zR_st zSt_MR) ⟨rfl, hw⟩ d_Mo_show_16
theorem d_Mo_showBad_0 : decode b_Mo_show 0 = .ok (.aload_n 0, 1) := by decide +kernel
theorem d_Mo_showBad_1 : decode b_Mo_show 1 = .ok (.iconst 1, 1) := by decide +kernel
theorem d_Mo_showBad_2 : decode b_Mo_show 2 = .ok (.invokevirtual 158, 3) := by decide +kernel
theorem d_Mo_showBad_5 : decode b_Mo_show 5 = .ok (.aload_n 0, 1) := by decide +kernel
theorem d_Mo_showBad_6 : decode b_Mo_show 6 = .ok (.iload_n 1, 1) := by decide +kernel
theorem d_Mo_showBad_7 : decode b_Mo_show 7 = .ok (.iload_n 2, 1) := by decide +kernel
theorem d_Mo_showBad_8 : decode b_Mo_show 8 = .ok (.iload_n 3, 1) := by decide +kernel
theorem d_Mo_showBad_9 : decode b_Mo_show 9 = .ok (.iload 4, 2) := by decide +kernel
theorem d_Mo_showBad_11 : decode b_Mo_show 11 = .ok (.lload 5, 2) := by decide +kernel
theorem d_Mo_showBad_13 : decode b_Mo_show 13 = .ok (.invokevirtual 162, 3) := by decide +kernel
theorem d_Mo_showBad_16 : decode b_Mo_show 16 = .ok (.ireturn, 1) := by decide +kernel
set_option maxHeartbeats 4000000 in
set_option maxRecDepth 100000 in
theorem c_Mo_showBad (l : Launch) (D : va_G) (cB cL : ClassId) (mo rs ex xd li bo cu cd : Nat) (co : Int) (rt : List Int) (kd pq gr pt : Int) (B : Int64) (hr9 : iR kd ∧ iR pq) (ho : kd < 0 ∨ 2 < kd ∨ pq < 0 ∨ 1200 < pq) : Ct l y_Mo_show (ws_Mo_show) 5 (AM mo rs ex xd li bo cu cd) [.ref mo, .int (iz kd), .int (iz pq), .int (iz gr), .int (iz pt), .long B] (MR D cB cL mo rs ex xd li bo cu cd co rt) (zR (some (.int (iz 0))) (MR D cB cL mo rs ex xd li bo cu cd 1 rt)) := by
  refine z_body zSt_MR (by decide +kernel) rfl (Nat.le_of_ble_eq_true rfl) ?_
  intro p e s m args below meth c ls hx hb hml hr hlk hts0 hown hpre0 H locs hpre hS hl
  have hts : ∀ w ∈ TBL, w.before args s = true := fun w hw => hts0 w (List.mem_cons_of_mem _ hw)
  have hl : lv_has ls 7 [(0, .ref mo), (1, .int (iz kd)), (2, .int (iz pq)), (3, .int (iz gr)), (4, .int (iz pt)), (5, .long B)] := hl
  obtain ⟨bi, le, bt, V, C, hw⟩ := hpre
  refine lv_aload_n hx hb d_Mo_showBad_0 rfl (lv_at hl 0 rfl) ?_
  refine lv_iconst (v := iz 1) hx hb d_Mo_showBad_1 rfl ?_
  have hct := c_Mo_kind1 l D cB cL mo rs ex xd li bo cu cd co bi le rt bt V C
  have hw9 := hw
  obtain ⟨fc, nc, pp, ⟨len, used, bl, fr, fb, lm, fe, ne, pe, ⟨hK, hP, hD⟩, hrt, hbt, hE, hpe, hlm⟩, hC⟩ := hw9
  have hr1 := hrt.1
  have hr2 := hrt.2.1
  have hb1 := hbt.1
  have hb2 := hbt.2.1
  have hE1 := hE.1
  have hC1 := hC.1
  have hP : va_P D vwCl [(mo, .inr (3, [.ref rs, .int (iz len), .int (iz co), .ref ex, .int (iz bi), .int (iz le), .ref li, .int (iz used), .ref bo, .int (iz bl), .ref cu])), (rs, .inl (cB, 4096, .inl (az fr))), (ex, .inr (4, [.ref xd, .int (iz ne), .int (iz pe)])), (xd, .inl (cB, 1300, .inl (az fe))), (li, .inl (cL, 160, .inr (.inl (azl lm)))), (bo, .inl (cB, 4096, .inl (az fb))), (cu, .inr (4, [.ref cd, .int (iz nc), .int (iz pp)])), (cd, .inl (cB, 1300, .inl (az fc)))] H := hP
  have hD : va_D (AM mo rs ex xd li bo cu cd) [(mo, .inr (3, [.ref rs, .int (iz len), .int (iz co), .ref ex, .int (iz bi), .int (iz le), .ref li, .int (iz used), .ref bo, .int (iz bl), .ref cu])), (rs, .inl (cB, 4096, .inl (az fr))), (ex, .inr (4, [.ref xd, .int (iz ne), .int (iz pe)])), (xd, .inl (cB, 1300, .inl (az fe))), (li, .inl (cL, 160, .inr (.inl (azl lm)))), (bo, .inl (cB, 4096, .inl (az fb))), (cu, .inr (4, [.ref cd, .int (iz nc), .int (iz pp)])), (cd, .inl (cB, 1300, .inl (az fc)))] := hD
  refine z_go (va_runV (As := [.int (iz 1)]) (rest := []) ⟨hx, hb, hml, hown, hts⟩ hct.2 (z_cwV hts w_Mo_kind tw_444 (by decide)) (z_preV hct.1 (va_recv hK hP (ci := 3) (q0 := 0) rfl rfl) hw) rfl rfl hl.1 rfl (lv_room (Nat.le_of_ble_eq_true rfl)) d_Mo_showBad_2 ⟨Nat.zero_le _, Nat.zero_le _⟩) hS (fun _ h9 => h9) (fun v9 t9 H locs hv9 hp9 hz9 hk9 hS => ?_)
  obtain ⟨rfl, hw⟩ := hp9
  have hw := MW.moved hv9.symm hw
  refine W.eq (g2 := F0 m 5 ls []) rfl ?_
  refine lv_aload_n hx hb d_Mo_showBad_5 rfl (lv_at hl 0 rfl) ?_
  refine lv_iload_n hx hb d_Mo_showBad_6 rfl (lv_at hl 1 rfl) ?_
  refine lv_iload_n hx hb d_Mo_showBad_7 rfl (lv_at hl 2 rfl) ?_
  refine lv_iload_n hx hb d_Mo_showBad_8 rfl (lv_at hl 3 rfl) ?_
  refine lv_iload hx hb d_Mo_showBad_9 (lv_at hl 4 rfl) ?_
  refine lv_lload hx hb d_Mo_showBad_11 (lv_at hl 5 rfl) ?_
  have hct := c_Mo_shownBad53 l D cB cL mo rs ex xd li bo cu cd co rt bt V C kd pq gr pt B hr9 ho
  have hw9 := hw
  obtain ⟨fc, nc, pp, ⟨len, used, bl, fr, fb, lm, fe, ne, pe, ⟨hK, hP, hD⟩, hrt, hbt, hE, hpe, hlm⟩, hC⟩ := hw9
  have hr1 := hrt.1
  have hr2 := hrt.2.1
  have hb1 := hbt.1
  have hb2 := hbt.2.1
  have hE1 := hE.1
  have hC1 := hC.1
  have hP : va_P D vwCl [(mo, .inr (3, [.ref rs, .int (iz len), .int (iz co), .ref ex, .int (iz 53), .int (iz (-1074)), .ref li, .int (iz used), .ref bo, .int (iz bl), .ref cu])), (rs, .inl (cB, 4096, .inl (az fr))), (ex, .inr (4, [.ref xd, .int (iz ne), .int (iz pe)])), (xd, .inl (cB, 1300, .inl (az fe))), (li, .inl (cL, 160, .inr (.inl (azl lm)))), (bo, .inl (cB, 4096, .inl (az fb))), (cu, .inr (4, [.ref cd, .int (iz nc), .int (iz pp)])), (cd, .inl (cB, 1300, .inl (az fc)))] H := hP
  have hD : va_D (AM mo rs ex xd li bo cu cd) [(mo, .inr (3, [.ref rs, .int (iz len), .int (iz co), .ref ex, .int (iz 53), .int (iz (-1074)), .ref li, .int (iz used), .ref bo, .int (iz bl), .ref cu])), (rs, .inl (cB, 4096, .inl (az fr))), (ex, .inr (4, [.ref xd, .int (iz ne), .int (iz pe)])), (xd, .inl (cB, 1300, .inl (az fe))), (li, .inl (cL, 160, .inr (.inl (azl lm)))), (bo, .inl (cB, 4096, .inl (az fb))), (cu, .inr (4, [.ref cd, .int (iz nc), .int (iz pp)])), (cd, .inl (cB, 1300, .inl (az fc)))] := hD
  refine z_go (va_runV (As := [.int (iz kd), .int (iz pq), .int (iz gr), .int (iz pt), .long B]) (rest := []) ⟨hx, hb, hml, hown, hts⟩ hct.2 (z_cwV hts w_Mo_shown tw_448 (by decide)) (z_preV hct.1 (va_recv hK hP (ci := 3) (q0 := 0) rfl rfl) hw) rfl rfl hl.1 rfl (lv_room (Nat.le_of_ble_eq_true rfl)) d_Mo_showBad_13 ⟨Nat.zero_le _, Nat.zero_le _⟩) hS (fun _ h9 => h9) (fun v9 t9 H locs hv9 hp9 hz9 hk9 hS => ?_)
  obtain ⟨rfl, hw⟩ := hp9
  have hw := zSa_MR _ s _ hv9.symm hw
  refine W.eq (g2 := F0 m 16 ls [.int (iz 0)]) rfl ?_
  exact z_iret hx hb hr hlk hS (zR_st zSt_MR) ⟨rfl, hw⟩ d_Mo_showBad_16
theorem d_Mo_showFloat_0 : decode b_Mo_showFloat 0 = .ok (.aload_n 0, 1) := by decide +kernel
theorem d_Mo_showFloat_1 : decode b_Mo_showFloat 1 = .ok (.iconst 0, 1) := by decide +kernel
theorem d_Mo_showFloat_2 : decode b_Mo_showFloat 2 = .ok (.invokevirtual 158, 3) := by decide +kernel
theorem d_Mo_showFloat_5 : decode b_Mo_showFloat 5 = .ok (.aload_n 0, 1) := by decide +kernel
theorem d_Mo_showFloat_6 : decode b_Mo_showFloat 6 = .ok (.iload_n 1, 1) := by decide +kernel
theorem d_Mo_showFloat_7 : decode b_Mo_showFloat 7 = .ok (.iload_n 2, 1) := by decide +kernel
theorem d_Mo_showFloat_8 : decode b_Mo_showFloat 8 = .ok (.iload_n 3, 1) := by decide +kernel
theorem d_Mo_showFloat_9 : decode b_Mo_showFloat 9 = .ok (.iload 4, 2) := by decide +kernel
theorem d_Mo_showFloat_11 : decode b_Mo_showFloat 11 = .ok (.iload 5, 2) := by decide +kernel
theorem d_Mo_showFloat_13 : decode b_Mo_showFloat 13 = .ok (.i2l, 1) := by decide +kernel
theorem d_Mo_showFloat_14 : decode b_Mo_showFloat 14 = .ok (.ldc2_w 124, 3) := by decide +kernel
theorem d_Mo_showFloat_17 : decode b_Mo_showFloat 17 = .ok (.land, 1) := by decide +kernel
theorem d_Mo_showFloat_18 : decode b_Mo_showFloat 18 = .ok (.invokevirtual 162, 3) := by decide +kernel
theorem d_Mo_showFloat_21 : decode b_Mo_showFloat 21 = .ok (.ireturn, 1) := by decide +kernel
set_option maxHeartbeats 4000000 in
set_option maxRecDepth 100000 in
theorem c_Mo_showFloat (l : Launch) (D : va_G) (cB cL : ClassId) (mo rs ex xd li bo cu cd : Nat) (co : Int) (rt : List Int) (kI vI kN vN : Nat) (kd : Int) (pr : Nat) (gr pt : Int) (B : Int32) (hkd : 0 ≤ kd ∧ kd ≤ 2) (hpr : pr ≤ 1200) (hgr : gr = 0 ∨ gr = 1) (hpt : pt = 0 ∨ pt = 1) : Ct l y_Mo_showFloat (ws_Mo_showFloat) 5 (AM mo rs ex xd li bo cu cd) [.ref mo, .int (iz kd), .int (iz (pr : Int)), .int (iz gr), .int (iz pt), .int B] (fun U H => MR D cB cL mo rs ex xd li bo cu cd co rt U H ∧ SMo (AM mo rs ex xd li bo cu cd) kI vI kN vN U H) (zR (some (.int (iz ((outT 23 255 (-149) kd pr gr pt B.toInt64).length : Int)))) (MR D cB cL mo rs ex xd li bo cu cd 0 (outT 23 255 (-149) kd pr gr pt B.toInt64))) := by
  refine z_body (zSt_and zSt_MR zSt_SMo) (by decide +kernel) rfl (Nat.le_of_ble_eq_true rfl) ?_
  intro p e s m args below meth c ls hx hb hml hr hlk hts0 hown hpre0 H locs hpre hS hl
  have hts : ∀ w ∈ TBL, w.before args s = true := fun w hw => hts0 w (List.mem_cons_of_mem _ hw)
  have hl : lv_has ls 6 [(0, .ref mo), (1, .int (iz kd)), (2, .int (iz (pr : Int))), (3, .int (iz gr)), (4, .int (iz pt)), (5, .int B)] := hl
  obtain ⟨bi, le, bt, V, C, hw⟩ := hpre.1
  have hsx := hpre0.2
  refine lv_aload_n hx hb d_Mo_showFloat_0 rfl (lv_at hl 0 rfl) ?_
  refine lv_iconst (v := iz 0) hx hb d_Mo_showFloat_1 rfl ?_
  have hct := c_Mo_kind0 l D cB cL mo rs ex xd li bo cu cd co bi le rt bt V C
  have hw9 := hw
  obtain ⟨fc, nc, pp, ⟨len, used, bl, fr, fb, lm, fe, ne, pe, ⟨hK, hP, hD⟩, hrt, hbt, hE, hpe, hlm⟩, hC⟩ := hw9
  have hr1 := hrt.1
  have hr2 := hrt.2.1
  have hb1 := hbt.1
  have hb2 := hbt.2.1
  have hE1 := hE.1
  have hC1 := hC.1
  have hP : va_P D vwCl [(mo, .inr (3, [.ref rs, .int (iz len), .int (iz co), .ref ex, .int (iz bi), .int (iz le), .ref li, .int (iz used), .ref bo, .int (iz bl), .ref cu])), (rs, .inl (cB, 4096, .inl (az fr))), (ex, .inr (4, [.ref xd, .int (iz ne), .int (iz pe)])), (xd, .inl (cB, 1300, .inl (az fe))), (li, .inl (cL, 160, .inr (.inl (azl lm)))), (bo, .inl (cB, 4096, .inl (az fb))), (cu, .inr (4, [.ref cd, .int (iz nc), .int (iz pp)])), (cd, .inl (cB, 1300, .inl (az fc)))] H := hP
  have hD : va_D (AM mo rs ex xd li bo cu cd) [(mo, .inr (3, [.ref rs, .int (iz len), .int (iz co), .ref ex, .int (iz bi), .int (iz le), .ref li, .int (iz used), .ref bo, .int (iz bl), .ref cu])), (rs, .inl (cB, 4096, .inl (az fr))), (ex, .inr (4, [.ref xd, .int (iz ne), .int (iz pe)])), (xd, .inl (cB, 1300, .inl (az fe))), (li, .inl (cL, 160, .inr (.inl (azl lm)))), (bo, .inl (cB, 4096, .inl (az fb))), (cu, .inr (4, [.ref cd, .int (iz nc), .int (iz pp)])), (cd, .inl (cB, 1300, .inl (az fc)))] := hD
  refine z_go (va_runV (As := [.int (iz 0)]) (rest := []) ⟨hx, hb, hml, hown, hts⟩ hct.2 (z_cwV hts w_Mo_kind tw_444 (by decide)) (z_preV hct.1 (va_recv hK hP (ci := 3) (q0 := 0) rfl rfl) hw) rfl rfl hl.1 rfl (lv_room (Nat.le_of_ble_eq_true rfl)) d_Mo_showFloat_2 ⟨Nat.zero_le _, Nat.zero_le _⟩) hS (fun _ h9 => h9) (fun v9 t9 H locs hv9 hp9 hz9 hk9 hS => ?_)
  obtain ⟨rfl, hw⟩ := hp9
  have hw := MW.moved hv9.symm hw
  refine W.eq (g2 := F0 m 5 ls []) rfl ?_
  refine lv_aload_n hx hb d_Mo_showFloat_5 rfl (lv_at hl 0 rfl) ?_
  refine lv_iload_n hx hb d_Mo_showFloat_6 rfl (lv_at hl 1 rfl) ?_
  refine lv_iload_n hx hb d_Mo_showFloat_7 rfl (lv_at hl 2 rfl) ?_
  refine lv_iload_n hx hb d_Mo_showFloat_8 rfl (lv_at hl 3 rfl) ?_
  refine lv_iload hx hb d_Mo_showFloat_9 (lv_at hl 4 rfl) ?_
  refine lv_iload hx hb d_Mo_showFloat_11 (lv_at hl 5 rfl) ?_
  refine lv_i2l hx hb d_Mo_showFloat_13 rfl ?_
  refine lv_ldc2 (v := (4294967295 : Int64)) hx hb hown (hts _ tw_459) d_Mo_showFloat_14 ?_
  refine z_topl (y := lz (4294967295)) (by decide) ?_
  refine lv_land hx hb d_Mo_showFloat_17 ?_
  have hct := c_Mo_shown24 l D cB cL mo rs ex xd li bo cu cd co rt bt V C kI vI kN vN kd pr gr pt (B.toInt64 &&& lz 4294967295) hkd hpr hgr hpt
  have hw9 := hw
  obtain ⟨fc, nc, pp, ⟨len, used, bl, fr, fb, lm, fe, ne, pe, ⟨hK, hP, hD⟩, hrt, hbt, hE, hpe, hlm⟩, hC⟩ := hw9
  have hr1 := hrt.1
  have hr2 := hrt.2.1
  have hb1 := hbt.1
  have hb2 := hbt.2.1
  have hE1 := hE.1
  have hC1 := hC.1
  have hP : va_P D vwCl [(mo, .inr (3, [.ref rs, .int (iz len), .int (iz co), .ref ex, .int (iz 24), .int (iz (-149)), .ref li, .int (iz used), .ref bo, .int (iz bl), .ref cu])), (rs, .inl (cB, 4096, .inl (az fr))), (ex, .inr (4, [.ref xd, .int (iz ne), .int (iz pe)])), (xd, .inl (cB, 1300, .inl (az fe))), (li, .inl (cL, 160, .inr (.inl (azl lm)))), (bo, .inl (cB, 4096, .inl (az fb))), (cu, .inr (4, [.ref cd, .int (iz nc), .int (iz pp)])), (cd, .inl (cB, 1300, .inl (az fc)))] H := hP
  have hD : va_D (AM mo rs ex xd li bo cu cd) [(mo, .inr (3, [.ref rs, .int (iz len), .int (iz co), .ref ex, .int (iz 24), .int (iz (-149)), .ref li, .int (iz used), .ref bo, .int (iz bl), .ref cu])), (rs, .inl (cB, 4096, .inl (az fr))), (ex, .inr (4, [.ref xd, .int (iz ne), .int (iz pe)])), (xd, .inl (cB, 1300, .inl (az fe))), (li, .inl (cL, 160, .inr (.inl (azl lm)))), (bo, .inl (cB, 4096, .inl (az fb))), (cu, .inr (4, [.ref cd, .int (iz nc), .int (iz pp)])), (cd, .inl (cB, 1300, .inl (az fc)))] := hD
  refine z_go (va_runV (As := [.int (iz kd), .int (iz (pr : Int)), .int (iz gr), .int (iz pt), .long (B.toInt64 &&& (lz 4294967295))]) (rest := []) ⟨hx, hb, hml, hown, hts⟩ hct.2 (z_cwV hts w_Mo_shown tw_448 (by decide)) (z_preV hct.1 (va_recv hK hP (ci := 3) (q0 := 0) rfl rfl) ⟨hw, hsx.1.kept hS.2.1, hsx.2.1.kept hS.2.1, hsx.2.2⟩) rfl rfl hl.1 rfl (lv_room (Nat.le_of_ble_eq_true rfl)) d_Mo_showFloat_18 ⟨Nat.zero_le _, Nat.zero_le _⟩) hS (fun _ h9 => h9) (fun v9 t9 H locs hv9 hp9 hz9 hk9 hS => ?_)
  obtain ⟨rfl, hw⟩ := hp9
  have hw := zSa_MR _ s _ hv9.symm hw
  refine W.eq (g2 := F0 m 21 ls [.int (iz ((outT 23 255 (-149) kd pr gr pt (B.toInt64 &&& lz 4294967295)).length : Int))]) rfl ?_
  exact z_iret hx hb hr hlk hS (zR_st zSt_MR) ⟨by rw [outT1_lo], by rw [outT1_lo] at hw; exact hw⟩ d_Mo_showFloat_21
theorem d_Mo_showFloatBad_0 : decode b_Mo_showFloat 0 = .ok (.aload_n 0, 1) := by decide +kernel
theorem d_Mo_showFloatBad_1 : decode b_Mo_showFloat 1 = .ok (.iconst 0, 1) := by decide +kernel
theorem d_Mo_showFloatBad_2 : decode b_Mo_showFloat 2 = .ok (.invokevirtual 158, 3) := by decide +kernel
theorem d_Mo_showFloatBad_5 : decode b_Mo_showFloat 5 = .ok (.aload_n 0, 1) := by decide +kernel
theorem d_Mo_showFloatBad_6 : decode b_Mo_showFloat 6 = .ok (.iload_n 1, 1) := by decide +kernel
theorem d_Mo_showFloatBad_7 : decode b_Mo_showFloat 7 = .ok (.iload_n 2, 1) := by decide +kernel
theorem d_Mo_showFloatBad_8 : decode b_Mo_showFloat 8 = .ok (.iload_n 3, 1) := by decide +kernel
theorem d_Mo_showFloatBad_9 : decode b_Mo_showFloat 9 = .ok (.iload 4, 2) := by decide +kernel
theorem d_Mo_showFloatBad_11 : decode b_Mo_showFloat 11 = .ok (.iload 5, 2) := by decide +kernel
theorem d_Mo_showFloatBad_13 : decode b_Mo_showFloat 13 = .ok (.i2l, 1) := by decide +kernel
theorem d_Mo_showFloatBad_14 : decode b_Mo_showFloat 14 = .ok (.ldc2_w 124, 3) := by decide +kernel
theorem d_Mo_showFloatBad_17 : decode b_Mo_showFloat 17 = .ok (.land, 1) := by decide +kernel
theorem d_Mo_showFloatBad_18 : decode b_Mo_showFloat 18 = .ok (.invokevirtual 162, 3) := by decide +kernel
theorem d_Mo_showFloatBad_21 : decode b_Mo_showFloat 21 = .ok (.ireturn, 1) := by decide +kernel
set_option maxHeartbeats 4000000 in
set_option maxRecDepth 100000 in
theorem c_Mo_showFloatBad (l : Launch) (D : va_G) (cB cL : ClassId) (mo rs ex xd li bo cu cd : Nat) (co : Int) (rt : List Int) (kd pq gr pt : Int) (B : Int32) (hr9 : iR kd ∧ iR pq) (ho : kd < 0 ∨ 2 < kd ∨ pq < 0 ∨ 1200 < pq) : Ct l y_Mo_showFloat (ws_Mo_showFloat) 5 (AM mo rs ex xd li bo cu cd) [.ref mo, .int (iz kd), .int (iz pq), .int (iz gr), .int (iz pt), .int B] (MR D cB cL mo rs ex xd li bo cu cd co rt) (zR (some (.int (iz 0))) (MR D cB cL mo rs ex xd li bo cu cd 1 rt)) := by
  refine z_body zSt_MR (by decide +kernel) rfl (Nat.le_of_ble_eq_true rfl) ?_
  intro p e s m args below meth c ls hx hb hml hr hlk hts0 hown hpre0 H locs hpre hS hl
  have hts : ∀ w ∈ TBL, w.before args s = true := fun w hw => hts0 w (List.mem_cons_of_mem _ hw)
  have hl : lv_has ls 6 [(0, .ref mo), (1, .int (iz kd)), (2, .int (iz pq)), (3, .int (iz gr)), (4, .int (iz pt)), (5, .int B)] := hl
  obtain ⟨bi, le, bt, V, C, hw⟩ := hpre
  refine lv_aload_n hx hb d_Mo_showFloatBad_0 rfl (lv_at hl 0 rfl) ?_
  refine lv_iconst (v := iz 0) hx hb d_Mo_showFloatBad_1 rfl ?_
  have hct := c_Mo_kind0 l D cB cL mo rs ex xd li bo cu cd co bi le rt bt V C
  have hw9 := hw
  obtain ⟨fc, nc, pp, ⟨len, used, bl, fr, fb, lm, fe, ne, pe, ⟨hK, hP, hD⟩, hrt, hbt, hE, hpe, hlm⟩, hC⟩ := hw9
  have hr1 := hrt.1
  have hr2 := hrt.2.1
  have hb1 := hbt.1
  have hb2 := hbt.2.1
  have hE1 := hE.1
  have hC1 := hC.1
  have hP : va_P D vwCl [(mo, .inr (3, [.ref rs, .int (iz len), .int (iz co), .ref ex, .int (iz bi), .int (iz le), .ref li, .int (iz used), .ref bo, .int (iz bl), .ref cu])), (rs, .inl (cB, 4096, .inl (az fr))), (ex, .inr (4, [.ref xd, .int (iz ne), .int (iz pe)])), (xd, .inl (cB, 1300, .inl (az fe))), (li, .inl (cL, 160, .inr (.inl (azl lm)))), (bo, .inl (cB, 4096, .inl (az fb))), (cu, .inr (4, [.ref cd, .int (iz nc), .int (iz pp)])), (cd, .inl (cB, 1300, .inl (az fc)))] H := hP
  have hD : va_D (AM mo rs ex xd li bo cu cd) [(mo, .inr (3, [.ref rs, .int (iz len), .int (iz co), .ref ex, .int (iz bi), .int (iz le), .ref li, .int (iz used), .ref bo, .int (iz bl), .ref cu])), (rs, .inl (cB, 4096, .inl (az fr))), (ex, .inr (4, [.ref xd, .int (iz ne), .int (iz pe)])), (xd, .inl (cB, 1300, .inl (az fe))), (li, .inl (cL, 160, .inr (.inl (azl lm)))), (bo, .inl (cB, 4096, .inl (az fb))), (cu, .inr (4, [.ref cd, .int (iz nc), .int (iz pp)])), (cd, .inl (cB, 1300, .inl (az fc)))] := hD
  refine z_go (va_runV (As := [.int (iz 0)]) (rest := []) ⟨hx, hb, hml, hown, hts⟩ hct.2 (z_cwV hts w_Mo_kind tw_444 (by decide)) (z_preV hct.1 (va_recv hK hP (ci := 3) (q0 := 0) rfl rfl) hw) rfl rfl hl.1 rfl (lv_room (Nat.le_of_ble_eq_true rfl)) d_Mo_showFloatBad_2 ⟨Nat.zero_le _, Nat.zero_le _⟩) hS (fun _ h9 => h9) (fun v9 t9 H locs hv9 hp9 hz9 hk9 hS => ?_)
  obtain ⟨rfl, hw⟩ := hp9
  have hw := MW.moved hv9.symm hw
  refine W.eq (g2 := F0 m 5 ls []) rfl ?_
  refine lv_aload_n hx hb d_Mo_showFloatBad_5 rfl (lv_at hl 0 rfl) ?_
  refine lv_iload_n hx hb d_Mo_showFloatBad_6 rfl (lv_at hl 1 rfl) ?_
  refine lv_iload_n hx hb d_Mo_showFloatBad_7 rfl (lv_at hl 2 rfl) ?_
  refine lv_iload_n hx hb d_Mo_showFloatBad_8 rfl (lv_at hl 3 rfl) ?_
  refine lv_iload hx hb d_Mo_showFloatBad_9 (lv_at hl 4 rfl) ?_
  refine lv_iload hx hb d_Mo_showFloatBad_11 (lv_at hl 5 rfl) ?_
  refine lv_i2l hx hb d_Mo_showFloatBad_13 rfl ?_
  refine lv_ldc2 (v := (4294967295 : Int64)) hx hb hown (hts _ tw_459) d_Mo_showFloatBad_14 ?_
  refine z_topl (y := lz (4294967295)) (by decide) ?_
  refine lv_land hx hb d_Mo_showFloatBad_17 ?_
  have hct := c_Mo_shownBad24 l D cB cL mo rs ex xd li bo cu cd co rt bt V C kd pq gr pt (B.toInt64 &&& lz 4294967295) hr9 ho
  have hw9 := hw
  obtain ⟨fc, nc, pp, ⟨len, used, bl, fr, fb, lm, fe, ne, pe, ⟨hK, hP, hD⟩, hrt, hbt, hE, hpe, hlm⟩, hC⟩ := hw9
  have hr1 := hrt.1
  have hr2 := hrt.2.1
  have hb1 := hbt.1
  have hb2 := hbt.2.1
  have hE1 := hE.1
  have hC1 := hC.1
  have hP : va_P D vwCl [(mo, .inr (3, [.ref rs, .int (iz len), .int (iz co), .ref ex, .int (iz 24), .int (iz (-149)), .ref li, .int (iz used), .ref bo, .int (iz bl), .ref cu])), (rs, .inl (cB, 4096, .inl (az fr))), (ex, .inr (4, [.ref xd, .int (iz ne), .int (iz pe)])), (xd, .inl (cB, 1300, .inl (az fe))), (li, .inl (cL, 160, .inr (.inl (azl lm)))), (bo, .inl (cB, 4096, .inl (az fb))), (cu, .inr (4, [.ref cd, .int (iz nc), .int (iz pp)])), (cd, .inl (cB, 1300, .inl (az fc)))] H := hP
  have hD : va_D (AM mo rs ex xd li bo cu cd) [(mo, .inr (3, [.ref rs, .int (iz len), .int (iz co), .ref ex, .int (iz 24), .int (iz (-149)), .ref li, .int (iz used), .ref bo, .int (iz bl), .ref cu])), (rs, .inl (cB, 4096, .inl (az fr))), (ex, .inr (4, [.ref xd, .int (iz ne), .int (iz pe)])), (xd, .inl (cB, 1300, .inl (az fe))), (li, .inl (cL, 160, .inr (.inl (azl lm)))), (bo, .inl (cB, 4096, .inl (az fb))), (cu, .inr (4, [.ref cd, .int (iz nc), .int (iz pp)])), (cd, .inl (cB, 1300, .inl (az fc)))] := hD
  refine z_go (va_runV (As := [.int (iz kd), .int (iz pq), .int (iz gr), .int (iz pt), .long (B.toInt64 &&& (lz 4294967295))]) (rest := []) ⟨hx, hb, hml, hown, hts⟩ hct.2 (z_cwV hts w_Mo_shown tw_448 (by decide)) (z_preV hct.1 (va_recv hK hP (ci := 3) (q0 := 0) rfl rfl) hw) rfl rfl hl.1 rfl (lv_room (Nat.le_of_ble_eq_true rfl)) d_Mo_showFloatBad_18 ⟨Nat.zero_le _, Nat.zero_le _⟩) hS (fun _ h9 => h9) (fun v9 t9 H locs hv9 hp9 hz9 hk9 hS => ?_)
  obtain ⟨rfl, hw⟩ := hp9
  have hw := zSa_MR _ s _ hv9.symm hw
  refine W.eq (g2 := F0 m 21 ls [.int (iz 0)]) rfl ?_
  exact z_iret hx hb hr hlk hS (zR_st zSt_MR) ⟨rfl, hw⟩ d_Mo_showFloatBad_21
