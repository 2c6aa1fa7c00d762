theorem d_Mo_thrown_0 : decode b_Mo_thrown 0 = .ok (.aload_n 0, 1) := by decide +kernel
theorem d_Mo_thrown_1 : decode b_Mo_thrown 1 = .ok (.getfield 30, 3) := by decide +kernel
theorem d_Mo_thrown_4 : decode b_Mo_thrown 4 = .ok (.ireturn, 1) := by decide +kernel
set_option maxHeartbeats 4000000 in
set_option maxRecDepth 100000 in
theorem c_Mo_thrown (l : Launch) (D : va_G) (cB cL : ClassId) (mo rs ex xd li bo cu cd : Nat) (co bi le : Int) (rt bt : List Int) (V C : Int)  : Ct l y_Mo_thrown (ws_Mo_thrown) 0 (AM mo rs ex xd li bo cu cd) [.ref mo] (MW D cB cL mo rs ex xd li bo cu cd co bi le rt bt V C) (zR (some (.int (iz co))) (MW D cB cL mo rs ex xd li bo cu cd co bi le rt bt V C)) := by
  refine z_body zSt_MW (by decide +kernel) rfl (Nat.le_of_ble_eq_true rfl) ?_
  intro p e s m args below meth c ls hx hb hml hr hlk hts0 hown hpre0 H locs hpre hS hl
  have hts : ∀ w ∈ TBL, w.before args s = true := fun w hw => hts0 w (List.mem_cons_of_mem _ hw)
  have hl : lv_has ls 1 [(0, .ref mo)] := hl
  have hw := hpre
  refine lv_aload_n hx hb d_Mo_thrown_0 rfl (lv_at hl 0 rfl) ?_
  have hw9 := hw
  obtain ⟨fc, nc, pp, ⟨len, used, bl, fr, fb, lm, fe, ne, pe, ⟨hK, hP, hD⟩, hrt, hbt, hE, hpe, hlm⟩, hC⟩ := hw9
  have hr1 := hrt.1
  have hr2 := hrt.2.1
  have hb1 := hbt.1
  have hb2 := hbt.2.1
  have hE1 := hE.1
  have hC1 := hC.1
  have hP : va_P D vwCl [(mo, .inr (3, [.ref rs, .int (iz len), .int (iz co), .ref ex, .int (iz bi), .int (iz le), .ref li, .int (iz used), .ref bo, .int (iz bl), .ref cu])), (rs, .inl (cB, 4096, .inl (az fr))), (ex, .inr (4, [.ref xd, .int (iz ne), .int (iz pe)])), (xd, .inl (cB, 1300, .inl (az fe))), (li, .inl (cL, 160, .inr (.inl (azl lm)))), (bo, .inl (cB, 4096, .inl (az fb))), (cu, .inr (4, [.ref cd, .int (iz nc), .int (iz pp)])), (cd, .inl (cB, 1300, .inl (az fc)))] H := hP
  have hD : va_D (AM mo rs ex xd li bo cu cd) [(mo, .inr (3, [.ref rs, .int (iz len), .int (iz co), .ref ex, .int (iz bi), .int (iz le), .ref li, .int (iz used), .ref bo, .int (iz bl), .ref cu])), (rs, .inl (cB, 4096, .inl (az fr))), (ex, .inr (4, [.ref xd, .int (iz ne), .int (iz pe)])), (xd, .inl (cB, 1300, .inl (az fe))), (li, .inl (cL, 160, .inr (.inl (azl lm)))), (bo, .inl (cB, 4096, .inl (az fb))), (cu, .inr (4, [.ref cd, .int (iz nc), .int (iz pp)])), (cd, .inl (cB, 1300, .inl (az fc)))] := hD
  refine va_get (D := D) (ci := 3) (v := .int (iz co)) (C := R_3) (T := T_3) (N := 11) hx hb hts in_3 hown hK hP 0 rfl rfl 2 (by decide) (hts _ tw_394) (fun _ h9 => h9) rfl d_Mo_thrown_1 ?_
  exact z_iret hx hb hr hlk hS (zR_st zSt_MW) ⟨rfl, hw⟩ d_Mo_thrown_4
theorem d_Mo_good_0 : decode b_Mo_good 0 = .ok (.aload_n 0, 1) := by decide +kernel
theorem d_Mo_good_1 : decode b_Mo_good 1 = .ok (.iload_n 1, 1) := by decide +kernel
theorem d_Mo_good_2 : decode b_Mo_good 2 = .ok (.ifCond .eq (7), 3) := by decide +kernel
theorem d_Mo_good_5 : decode b_Mo_good 5 = .ok (.iconst 0, 1) := by decide +kernel
theorem d_Mo_good_6 : decode b_Mo_good 6 = .ok (.goto (4), 3) := by decide +kernel
theorem d_Mo_good_9 : decode b_Mo_good 9 = .ok (.iload_n 2, 1) := by decide +kernel
theorem d_Mo_good_10 : decode b_Mo_good 10 = .ok (.putfield 30, 3) := by decide +kernel
theorem d_Mo_good_13 : decode b_Mo_good 13 = .ok (.iload_n 1, 1) := by decide +kernel
theorem d_Mo_good_14 : decode b_Mo_good 14 = .ok (.ireturn, 1) := by decide +kernel
set_option maxHeartbeats 4000000 in
set_option maxRecDepth 100000 in
theorem c_Mo_good (l : Launch) (D : va_G) (cB cL : ClassId) (mo rs ex xd li bo cu cd : Nat) (co bi le : Int) (rt bt : List Int) (V C : Int) (y k : Int) (hy : y = 0 ∨ y = 1) (hk : iR k) : Ct l y_Mo_good (ws_Mo_good) 0 (AM mo rs ex xd li bo cu cd) [.ref mo, .int (iz y), .int (iz k)] (MW D cB cL mo rs ex xd li bo cu cd co bi le rt bt V C) (zR (some (.int (iz y))) (MW D cB cL mo rs ex xd li bo cu cd (if y = 0 then k else 0) bi le rt bt V C)) := by
  refine z_body zSt_MW (by decide +kernel) rfl (Nat.le_of_ble_eq_true rfl) ?_
  intro p e s m args below meth c ls hx hb hml hr hlk hts0 hown hpre0 H locs hpre hS hl
  have hts : ∀ w ∈ TBL, w.before args s = true := fun w hw => hts0 w (List.mem_cons_of_mem _ hw)
  have hl : lv_has ls 3 [(0, .ref mo), (1, .int (iz y)), (2, .int (iz k))] := hl
  have hw := hpre
  refine lv_aload_n hx hb d_Mo_good_0 rfl (lv_at hl 0 rfl) ?_
  refine lv_iload_n hx hb d_Mo_good_1 rfl (lv_at hl 1 rfl) ?_
  refine z_if_eq (tgt := 9) hx hb d_Mo_good_2 rfl ⟨by omega, by omega⟩ (fun hc2 => ?_) (fun hc2 => ?_)
  · refine lv_iload_n hx hb d_Mo_good_9 rfl (lv_at hl 2 rfl) ?_
    have hw9 := hw
    obtain ⟨fc, nc, pp, ⟨len, used, bl, fr, fb, lm, fe, ne, pe, ⟨hK, hP, hD⟩, hrt, hbt, hE, hpe, hlm⟩, hC⟩ := hw9
    have hr1 := hrt.1
    have hr2 := hrt.2.1
    have hb1 := hbt.1
    have hb2 := hbt.2.1
    have hE1 := hE.1
    have hC1 := hC.1
    have hP : va_P D vwCl [(mo, .inr (3, [.ref rs, .int (iz len), .int (iz co), .ref ex, .int (iz bi), .int (iz le), .ref li, .int (iz used), .ref bo, .int (iz bl), .ref cu])), (rs, .inl (cB, 4096, .inl (az fr))), (ex, .inr (4, [.ref xd, .int (iz ne), .int (iz pe)])), (xd, .inl (cB, 1300, .inl (az fe))), (li, .inl (cL, 160, .inr (.inl (azl lm)))), (bo, .inl (cB, 4096, .inl (az fb))), (cu, .inr (4, [.ref cd, .int (iz nc), .int (iz pp)])), (cd, .inl (cB, 1300, .inl (az fc)))] H := hP
    have hD : va_D (AM mo rs ex xd li bo cu cd) [(mo, .inr (3, [.ref rs, .int (iz len), .int (iz co), .ref ex, .int (iz bi), .int (iz le), .ref li, .int (iz used), .ref bo, .int (iz bl), .ref cu])), (rs, .inl (cB, 4096, .inl (az fr))), (ex, .inr (4, [.ref xd, .int (iz ne), .int (iz pe)])), (xd, .inl (cB, 1300, .inl (az fe))), (li, .inl (cL, 160, .inr (.inl (azl lm)))), (bo, .inl (cB, 4096, .inl (az fb))), (cu, .inr (4, [.ref cd, .int (iz nc), .int (iz pp)])), (cd, .inl (cB, 1300, .inl (az fc)))] := hD
    refine va_put (D := D) (ci := 3) (v := .int (iz k)) (ty := .int) (C := R_3) (T := T_3) (N := 11) hx hb hts in_3 ty_3 tyok_3 nm_3 hown hK hP hD hS 0 rfl rfl 2 (by decide) (hts _ tw_394) (fun _ h9 => h9) rfl (by decide +kernel) rfl rfl (Nat.le_of_ble_eq_true rfl) d_Mo_good_10 (fun H locs hP hD hS => ?_)
    have hP : va_P D vwCl [(mo, .inr (3, [.ref rs, .int (iz len), .int (iz k), .ref ex, .int (iz bi), .int (iz le), .ref li, .int (iz used), .ref bo, .int (iz bl), .ref cu])), (rs, .inl (cB, 4096, .inl (az fr))), (ex, .inr (4, [.ref xd, .int (iz ne), .int (iz pe)])), (xd, .inl (cB, 1300, .inl (az fe))), (li, .inl (cL, 160, .inr (.inl (azl lm)))), (bo, .inl (cB, 4096, .inl (az fb))), (cu, .inr (4, [.ref cd, .int (iz nc), .int (iz pp)])), (cd, .inl (cB, 1300, .inl (az fc)))] H := hP
    have hD : va_D (AM mo rs ex xd li bo cu cd) [(mo, .inr (3, [.ref rs, .int (iz len), .int (iz k), .ref ex, .int (iz bi), .int (iz le), .ref li, .int (iz used), .ref bo, .int (iz bl), .ref cu])), (rs, .inl (cB, 4096, .inl (az fr))), (ex, .inr (4, [.ref xd, .int (iz ne), .int (iz pe)])), (xd, .inl (cB, 1300, .inl (az fe))), (li, .inl (cL, 160, .inr (.inl (azl lm)))), (bo, .inl (cB, 4096, .inl (az fb))), (cu, .inr (4, [.ref cd, .int (iz nc), .int (iz pp)])), (cd, .inl (cB, 1300, .inl (az fc)))] := hD
    refine lv_iload_n hx hb d_Mo_good_13 rfl (lv_at hl 1 rfl) ?_
    exact z_zret hx hb hr (by rcases hy with h8 | h8 <;> subst h8 <;> rfl) hlk hS (zR_st zSt_MW) ⟨rfl, by first | (rw [if_pos hc2]; exact ⟨_, _, _, ⟨_, _, _, _, _, _, _, _, _, ⟨hK, hP, hD⟩, hrt, hbt, hE, hpe, hlm⟩, hC⟩) | (rw [if_neg hc2]; exact ⟨_, _, _, ⟨_, _, _, _, _, _, _, _, _, ⟨hK, hP, hD⟩, hrt, hbt, hE, hpe, hlm⟩, hC⟩)⟩ d_Mo_good_14
  · refine lv_iconst (v := iz 0) hx hb d_Mo_good_5 rfl ?_
    refine lv_goto (tgt := 10) hx hb d_Mo_good_6 rfl ?_
    have hw9 := hw
    obtain ⟨fc, nc, pp, ⟨len, used, bl, fr, fb, lm, fe, ne, pe, ⟨hK, hP, hD⟩, hrt, hbt, hE, hpe, hlm⟩, hC⟩ := hw9
    have hr1 := hrt.1
    have hr2 := hrt.2.1
    have hb1 := hbt.1
    have hb2 := hbt.2.1
    have hE1 := hE.1
    have hC1 := hC.1
    have hP : va_P D vwCl [(mo, .inr (3, [.ref rs, .int (iz len), .int (iz co), .ref ex, .int (iz bi), .int (iz le), .ref li, .int (iz used), .ref bo, .int (iz bl), .ref cu])), (rs, .inl (cB, 4096, .inl (az fr))), (ex, .inr (4, [.ref xd, .int (iz ne), .int (iz pe)])), (xd, .inl (cB, 1300, .inl (az fe))), (li, .inl (cL, 160, .inr (.inl (azl lm)))), (bo, .inl (cB, 4096, .inl (az fb))), (cu, .inr (4, [.ref cd, .int (iz nc), .int (iz pp)])), (cd, .inl (cB, 1300, .inl (az fc)))] H := hP
    have hD : va_D (AM mo rs ex xd li bo cu cd) [(mo, .inr (3, [.ref rs, .int (iz len), .int (iz co), .ref ex, .int (iz bi), .int (iz le), .ref li, .int (iz used), .ref bo, .int (iz bl), .ref cu])), (rs, .inl (cB, 4096, .inl (az fr))), (ex, .inr (4, [.ref xd, .int (iz ne), .int (iz pe)])), (xd, .inl (cB, 1300, .inl (az fe))), (li, .inl (cL, 160, .inr (.inl (azl lm)))), (bo, .inl (cB, 4096, .inl (az fb))), (cu, .inr (4, [.ref cd, .int (iz nc), .int (iz pp)])), (cd, .inl (cB, 1300, .inl (az fc)))] := hD
    refine va_put (D := D) (ci := 3) (v := .int (iz 0)) (ty := .int) (C := R_3) (T := T_3) (N := 11) hx hb hts in_3 ty_3 tyok_3 nm_3 hown hK hP hD hS 0 rfl rfl 2 (by decide) (hts _ tw_394) (fun _ h9 => h9) rfl (by decide +kernel) rfl rfl (Nat.le_of_ble_eq_true rfl) d_Mo_good_10 (fun H locs hP hD hS => ?_)
    have hP : va_P D vwCl [(mo, .inr (3, [.ref rs, .int (iz len), .int (iz 0), .ref ex, .int (iz bi), .int (iz le), .ref li, .int (iz used), .ref bo, .int (iz bl), .ref cu])), (rs, .inl (cB, 4096, .inl (az fr))), (ex, .inr (4, [.ref xd, .int (iz ne), .int (iz pe)])), (xd, .inl (cB, 1300, .inl (az fe))), (li, .inl (cL, 160, .inr (.inl (azl lm)))), (bo, .inl (cB, 4096, .inl (az fb))), (cu, .inr (4, [.ref cd, .int (iz nc), .int (iz pp)])), (cd, .inl (cB, 1300, .inl (az fc)))] H := hP
    have hD : va_D (AM mo rs ex xd li bo cu cd) [(mo, .inr (3, [.ref rs, .int (iz len), .int (iz 0), .ref ex, .int (iz bi), .int (iz le), .ref li, .int (iz used), .ref bo, .int (iz bl), .ref cu])), (rs, .inl (cB, 4096, .inl (az fr))), (ex, .inr (4, [.ref xd, .int (iz ne), .int (iz pe)])), (xd, .inl (cB, 1300, .inl (az fe))), (li, .inl (cL, 160, .inr (.inl (azl lm)))), (bo, .inl (cB, 4096, .inl (az fb))), (cu, .inr (4, [.ref cd, .int (iz nc), .int (iz pp)])), (cd, .inl (cB, 1300, .inl (az fc)))] := hD
    refine lv_iload_n hx hb d_Mo_good_13 rfl (lv_at hl 1 rfl) ?_
    exact z_zret hx hb hr (by rcases hy with h8 | h8 <;> subst h8 <;> rfl) hlk hS (zR_st zSt_MW) ⟨rfl, by first | (rw [if_pos hc2]; exact ⟨_, _, _, ⟨_, _, _, _, _, _, _, _, _, ⟨hK, hP, hD⟩, hrt, hbt, hE, hpe, hlm⟩, hC⟩) | (rw [if_neg hc2]; exact ⟨_, _, _, ⟨_, _, _, _, _, _, _, _, _, ⟨hK, hP, hD⟩, hrt, hbt, hE, hpe, hlm⟩, hC⟩)⟩ d_Mo_good_14
theorem d_Mo_kind1_0 : decode b_Mo_kind 0 = .ok (.aload_n 0, 1) := by decide +kernel
theorem d_Mo_kind1_1 : decode b_Mo_kind 1 = .ok (.iload_n 1, 1) := by decide +kernel
theorem d_Mo_kind1_2 : decode b_Mo_kind 2 = .ok (.ifCond .eq (8), 3) := by decide +kernel
theorem d_Mo_kind1_5 : decode b_Mo_kind 5 = .ok (.bipush (53), 2) := by decide +kernel
theorem d_Mo_kind1_7 : decode b_Mo_kind 7 = .ok (.goto (5), 3) := by decide +kernel
theorem d_Mo_kind1_12 : decode b_Mo_kind 12 = .ok (.putfield 43, 3) := by decide +kernel
theorem d_Mo_kind1_15 : decode b_Mo_kind 15 = .ok (.aload_n 0, 1) := by decide +kernel
theorem d_Mo_kind1_16 : decode b_Mo_kind 16 = .ok (.iload_n 1, 1) := by decide +kernel
theorem d_Mo_kind1_17 : decode b_Mo_kind 17 = .ok (.ifCond .eq (9), 3) := by decide +kernel
theorem d_Mo_kind1_20 : decode b_Mo_kind 20 = .ok (.sipush (-1074), 3) := by decide +kernel
theorem d_Mo_kind1_23 : decode b_Mo_kind 23 = .ok (.goto (6), 3) := by decide +kernel
theorem d_Mo_kind1_29 : decode b_Mo_kind 29 = .ok (.putfield 46, 3) := by decide +kernel
theorem d_Mo_kind1_32 : decode b_Mo_kind 32 = .ok (.return_, 1) := by decide +kernel
set_option maxHeartbeats 4000000 in
set_option maxRecDepth 100000 in
theorem c_Mo_kind1 (l : Launch) (D : va_G) (cB cL : ClassId) (mo rs ex xd li bo cu cd : Nat) (co bi le : Int) (rt bt : List Int) (V C : Int)  : Ct l y_Mo_kind (ws_Mo_kind) 0 (AM mo rs ex xd li bo cu cd) [.ref mo, .int (iz 1)] (MW D cB cL mo rs ex xd li bo cu cd co bi le rt bt V C) (zR none (MW D cB cL mo rs ex xd li bo cu cd co 53 (-1074) rt bt V C)) := by
  refine z_body zSt_MW (by decide +kernel) rfl (Nat.le_of_ble_eq_true rfl) ?_
  intro p e s m args below meth c ls hx hb hml hr hlk hts0 hown hpre0 H locs hpre hS hl
  have hts : ∀ w ∈ TBL, w.before args s = true := fun w hw => hts0 w (List.mem_cons_of_mem _ hw)
  have hl : lv_has ls 2 [(0, .ref mo), (1, .int (iz 1))] := hl
  have hw := hpre
  refine lv_aload_n hx hb d_Mo_kind1_0 rfl (lv_at hl 0 rfl) ?_
  refine lv_iload_n hx hb d_Mo_kind1_1 rfl (lv_at hl 1 rfl) ?_
  refine z_if_eq (tgt := 10) hx hb d_Mo_kind1_2 rfl ⟨by omega, by omega⟩ (fun hc2 => ?_) (fun hc2 => ?_)
  · exfalso
    omega
  · refine lv_bipush (v := iz 53) hx hb d_Mo_kind1_5 (by decide) ?_
    refine lv_goto (tgt := 12) hx hb d_Mo_kind1_7 rfl ?_
    have hw9 := hw
    obtain ⟨fc, nc, pp, ⟨len, used, bl, fr, fb, lm, fe, ne, pe, ⟨hK, hP, hD⟩, hrt, hbt, hE, hpe, hlm⟩, hC⟩ := hw9
    have hr1 := hrt.1
    have hr2 := hrt.2.1
    have hb1 := hbt.1
    have hb2 := hbt.2.1
    have hE1 := hE.1
    have hC1 := hC.1
    have hP : va_P D vwCl [(mo, .inr (3, [.ref rs, .int (iz len), .int (iz co), .ref ex, .int (iz bi), .int (iz le), .ref li, .int (iz used), .ref bo, .int (iz bl), .ref cu])), (rs, .inl (cB, 4096, .inl (az fr))), (ex, .inr (4, [.ref xd, .int (iz ne), .int (iz pe)])), (xd, .inl (cB, 1300, .inl (az fe))), (li, .inl (cL, 160, .inr (.inl (azl lm)))), (bo, .inl (cB, 4096, .inl (az fb))), (cu, .inr (4, [.ref cd, .int (iz nc), .int (iz pp)])), (cd, .inl (cB, 1300, .inl (az fc)))] H := hP
    have hD : va_D (AM mo rs ex xd li bo cu cd) [(mo, .inr (3, [.ref rs, .int (iz len), .int (iz co), .ref ex, .int (iz bi), .int (iz le), .ref li, .int (iz used), .ref bo, .int (iz bl), .ref cu])), (rs, .inl (cB, 4096, .inl (az fr))), (ex, .inr (4, [.ref xd, .int (iz ne), .int (iz pe)])), (xd, .inl (cB, 1300, .inl (az fe))), (li, .inl (cL, 160, .inr (.inl (azl lm)))), (bo, .inl (cB, 4096, .inl (az fb))), (cu, .inr (4, [.ref cd, .int (iz nc), .int (iz pp)])), (cd, .inl (cB, 1300, .inl (az fc)))] := hD
    refine va_put (D := D) (ci := 3) (v := .int (iz 53)) (ty := .int) (C := R_3) (T := T_3) (N := 11) hx hb hts in_3 ty_3 tyok_3 nm_3 hown hK hP hD hS 0 rfl rfl 4 (by decide) (hts _ tw_396) (fun _ h9 => h9) rfl (by decide +kernel) rfl rfl (Nat.le_of_ble_eq_true rfl) d_Mo_kind1_12 (fun H locs hP hD hS => ?_)
    have hP : va_P D vwCl [(mo, .inr (3, [.ref rs, .int (iz len), .int (iz co), .ref ex, .int (iz 53), .int (iz le), .ref li, .int (iz used), .ref bo, .int (iz bl), .ref cu])), (rs, .inl (cB, 4096, .inl (az fr))), (ex, .inr (4, [.ref xd, .int (iz ne), .int (iz pe)])), (xd, .inl (cB, 1300, .inl (az fe))), (li, .inl (cL, 160, .inr (.inl (azl lm)))), (bo, .inl (cB, 4096, .inl (az fb))), (cu, .inr (4, [.ref cd, .int (iz nc), .int (iz pp)])), (cd, .inl (cB, 1300, .inl (az fc)))] H := hP
    have hD : va_D (AM mo rs ex xd li bo cu cd) [(mo, .inr (3, [.ref rs, .int (iz len), .int (iz co), .ref ex, .int (iz 53), .int (iz le), .ref li, .int (iz used), .ref bo, .int (iz bl), .ref cu])), (rs, .inl (cB, 4096, .inl (az fr))), (ex, .inr (4, [.ref xd, .int (iz ne), .int (iz pe)])), (xd, .inl (cB, 1300, .inl (az fe))), (li, .inl (cL, 160, .inr (.inl (azl lm)))), (bo, .inl (cB, 4096, .inl (az fb))), (cu, .inr (4, [.ref cd, .int (iz nc), .int (iz pp)])), (cd, .inl (cB, 1300, .inl (az fc)))] := hD
    refine lv_aload_n hx hb d_Mo_kind1_15 rfl (lv_at hl 0 rfl) ?_
    refine lv_iload_n hx hb d_Mo_kind1_16 rfl (lv_at hl 1 rfl) ?_
    refine z_if_eq (tgt := 26) hx hb d_Mo_kind1_17 rfl ⟨by omega, by omega⟩ (fun hc17 => ?_) (fun hc17 => ?_)
    · exfalso
      omega
    · refine lv_sipush (v := iz (-1074)) hx hb d_Mo_kind1_20 (by decide) ?_
      refine lv_goto (tgt := 29) hx hb d_Mo_kind1_23 rfl ?_
      refine va_put (D := D) (ci := 3) (v := .int (iz (-1074))) (ty := .int) (C := R_3) (T := T_3) (N := 11) hx hb hts in_3 ty_3 tyok_3 nm_3 hown hK hP hD hS 0 rfl rfl 5 (by decide) (hts _ tw_397) (fun _ h9 => h9) rfl (by decide +kernel) rfl rfl (Nat.le_of_ble_eq_true rfl) d_Mo_kind1_29 (fun H locs hP hD hS => ?_)
      have hP : va_P D vwCl [(mo, .inr (3, [.ref rs, .int (iz len), .int (iz co), .ref ex, .int (iz 53), .int (iz (-1074)), .ref li, .int (iz used), .ref bo, .int (iz bl), .ref cu])), (rs, .inl (cB, 4096, .inl (az fr))), (ex, .inr (4, [.ref xd, .int (iz ne), .int (iz pe)])), (xd, .inl (cB, 1300, .inl (az fe))), (li, .inl (cL, 160, .inr (.inl (azl lm)))), (bo, .inl (cB, 4096, .inl (az fb))), (cu, .inr (4, [.ref cd, .int (iz nc), .int (iz pp)])), (cd, .inl (cB, 1300, .inl (az fc)))] H := hP
      have hD : va_D (AM mo rs ex xd li bo cu cd) [(mo, .inr (3, [.ref rs, .int (iz len), .int (iz co), .ref ex, .int (iz 53), .int (iz (-1074)), .ref li, .int (iz used), .ref bo, .int (iz bl), .ref cu])), (rs, .inl (cB, 4096, .inl (az fr))), (ex, .inr (4, [.ref xd, .int (iz ne), .int (iz pe)])), (xd, .inl (cB, 1300, .inl (az fe))), (li, .inl (cL, 160, .inr (.inl (azl lm)))), (bo, .inl (cB, 4096, .inl (az fb))), (cu, .inr (4, [.ref cd, .int (iz nc), .int (iz pp)])), (cd, .inl (cB, 1300, .inl (az fc)))] := hD
      exact z_vret hx hb hr hlk hS (zR_st zSt_MW) ⟨rfl, _, _, _, ⟨_, _, _, _, _, _, _, _, _, ⟨hK, hP, hD⟩, hrt, hbt, hE, hpe, hlm⟩, hC⟩ d_Mo_kind1_32
theorem d_Mo_kind0_0 : decode b_Mo_kind 0 = .ok (.aload_n 0, 1) := by decide +kernel
theorem d_Mo_kind0_1 : decode b_Mo_kind 1 = .ok (.iload_n 1, 1) := by decide +kernel
theorem d_Mo_kind0_2 : decode b_Mo_kind 2 = .ok (.ifCond .eq (8), 3) := by decide +kernel
theorem d_Mo_kind0_10 : decode b_Mo_kind 10 = .ok (.bipush (24), 2) := by decide +kernel
theorem d_Mo_kind0_12 : decode b_Mo_kind 12 = .ok (.putfield 43, 3) := by decide +kernel
theorem d_Mo_kind0_15 : decode b_Mo_kind 15 = .ok (.aload_n 0, 1) := by decide +kernel
theorem d_Mo_kind0_16 : decode b_Mo_kind 16 = .ok (.iload_n 1, 1) := by decide +kernel
theorem d_Mo_kind0_17 : decode b_Mo_kind 17 = .ok (.ifCond .eq (9), 3) := by decide +kernel
theorem d_Mo_kind0_26 : decode b_Mo_kind 26 = .ok (.sipush (-149), 3) := by decide +kernel
theorem d_Mo_kind0_29 : decode b_Mo_kind 29 = .ok (.putfield 46, 3) := by decide +kernel
theorem d_Mo_kind0_32 : decode b_Mo_kind 32 = .ok (.return_, 1) := by decide +kernel
set_option maxHeartbeats 4000000 in
set_option maxRecDepth 100000 in
theorem c_Mo_kind0 (l : Launch) (D : va_G) (cB cL : ClassId) (mo rs ex xd li bo cu cd : Nat) (co bi le : Int) (rt bt : List Int) (V C : Int)  : Ct l y_Mo_kind (ws_Mo_kind) 0 (AM mo rs ex xd li bo cu cd) [.ref mo, .int (iz 0)] (MW D cB cL mo rs ex xd li bo cu cd co bi le rt bt V C) (zR none (MW D cB cL mo rs ex xd li bo cu cd co 24 (-149) rt bt V C)) := by
  refine z_body zSt_MW (by decide +kernel) rfl (Nat.le_of_ble_eq_true rfl) ?_
  intro p e s m args below meth c ls hx hb hml hr hlk hts0 hown hpre0 H locs hpre hS hl
  have hts : ∀ w ∈ TBL, w.before args s = true := fun w hw => hts0 w (List.mem_cons_of_mem _ hw)
  have hl : lv_has ls 2 [(0, .ref mo), (1, .int (iz 0))] := hl
  have hw := hpre
  refine lv_aload_n hx hb d_Mo_kind0_0 rfl (lv_at hl 0 rfl) ?_
  refine lv_iload_n hx hb d_Mo_kind0_1 rfl (lv_at hl 1 rfl) ?_
  refine z_if_eq (tgt := 10) hx hb d_Mo_kind0_2 rfl ⟨by omega, by omega⟩ (fun hc2 => ?_) (fun hc2 => ?_)
  · refine lv_bipush (v := iz 24) hx hb d_Mo_kind0_10 (by decide) ?_
    have hw9 := hw
    obtain ⟨fc, nc, pp, ⟨len, used, bl, fr, fb, lm, fe, ne, pe, ⟨hK, hP, hD⟩, hrt, hbt, hE, hpe, hlm⟩, hC⟩ := hw9
    have hr1 := hrt.1
    have hr2 := hrt.2.1
    have hb1 := hbt.1
    have hb2 := hbt.2.1
    have hE1 := hE.1
    have hC1 := hC.1
    have hP : va_P D vwCl [(mo, .inr (3, [.ref rs, .int (iz len), .int (iz co), .ref ex, .int (iz bi), .int (iz le), .ref li, .int (iz used), .ref bo, .int (iz bl), .ref cu])), (rs, .inl (cB, 4096, .inl (az fr))), (ex, .inr (4, [.ref xd, .int (iz ne), .int (iz pe)])), (xd, .inl (cB, 1300, .inl (az fe))), (li, .inl (cL, 160, .inr (.inl (azl lm)))), (bo, .inl (cB, 4096, .inl (az fb))), (cu, .inr (4, [.ref cd, .int (iz nc), .int (iz pp)])), (cd, .inl (cB, 1300, .inl (az fc)))] H := hP
    have hD : va_D (AM mo rs ex xd li bo cu cd) [(mo, .inr (3, [.ref rs, .int (iz len), .int (iz co), .ref ex, .int (iz bi), .int (iz le), .ref li, .int (iz used), .ref bo, .int (iz bl), .ref cu])), (rs, .inl (cB, 4096, .inl (az fr))), (ex, .inr (4, [.ref xd, .int (iz ne), .int (iz pe)])), (xd, .inl (cB, 1300, .inl (az fe))), (li, .inl (cL, 160, .inr (.inl (azl lm)))), (bo, .inl (cB, 4096, .inl (az fb))), (cu, .inr (4, [.ref cd, .int (iz nc), .int (iz pp)])), (cd, .inl (cB, 1300, .inl (az fc)))] := hD
    refine va_put (D := D) (ci := 3) (v := .int (iz 24)) (ty := .int) (C := R_3) (T := T_3) (N := 11) hx hb hts in_3 ty_3 tyok_3 nm_3 hown hK hP hD hS 0 rfl rfl 4 (by decide) (hts _ tw_396) (fun _ h9 => h9) rfl (by decide +kernel) rfl rfl (Nat.le_of_ble_eq_true rfl) d_Mo_kind0_12 (fun H locs hP hD hS => ?_)
    have hP : va_P D vwCl [(mo, .inr (3, [.ref rs, .int (iz len), .int (iz co), .ref ex, .int (iz 24), .int (iz le), .ref li, .int (iz used), .ref bo, .int (iz bl), .ref cu])), (rs, .inl (cB, 4096, .inl (az fr))), (ex, .inr (4, [.ref xd, .int (iz ne), .int (iz pe)])), (xd, .inl (cB, 1300, .inl (az fe))), (li, .inl (cL, 160, .inr (.inl (azl lm)))), (bo, .inl (cB, 4096, .inl (az fb))), (cu, .inr (4, [.ref cd, .int (iz nc), .int (iz pp)])), (cd, .inl (cB, 1300, .inl (az fc)))] H := hP
    have hD : va_D (AM mo rs ex xd li bo cu cd) [(mo, .inr (3, [.ref rs, .int (iz len), .int (iz co), .ref ex, .int (iz 24), .int (iz le), .ref li, .int (iz used), .ref bo, .int (iz bl), .ref cu])), (rs, .inl (cB, 4096, .inl (az fr))), (ex, .inr (4, [.ref xd, .int (iz ne), .int (iz pe)])), (xd, .inl (cB, 1300, .inl (az fe))), (li, .inl (cL, 160, .inr (.inl (azl lm)))), (bo, .inl (cB, 4096, .inl (az fb))), (cu, .inr (4, [.ref cd, .int (iz nc), .int (iz pp)])), (cd, .inl (cB, 1300, .inl (az fc)))] := hD
    refine lv_aload_n hx hb d_Mo_kind0_15 rfl (lv_at hl 0 rfl) ?_
    refine lv_iload_n hx hb d_Mo_kind0_16 rfl (lv_at hl 1 rfl) ?_
    refine z_if_eq (tgt := 26) hx hb d_Mo_kind0_17 rfl ⟨by omega, by omega⟩ (fun hc17 => ?_) (fun hc17 => ?_)
    · refine lv_sipush (v := iz (-149)) hx hb d_Mo_kind0_26 (by decide) ?_
      refine va_put (D := D) (ci := 3) (v := .int (iz (-149))) (ty := .int) (C := R_3) (T := T_3) (N := 11) hx hb hts in_3 ty_3 tyok_3 nm_3 hown hK hP hD hS 0 rfl rfl 5 (by decide) (hts _ tw_397) (fun _ h9 => h9) rfl (by decide +kernel) rfl rfl (Nat.le_of_ble_eq_true rfl) d_Mo_kind0_29 (fun H locs hP hD hS => ?_)
      have hP : va_P D vwCl [(mo, .inr (3, [.ref rs, .int (iz len), .int (iz co), .ref ex, .int (iz 24), .int (iz (-149)), .ref li, .int (iz used), .ref bo, .int (iz bl), .ref cu])), (rs, .inl (cB, 4096, .inl (az fr))), (ex, .inr (4, [.ref xd, .int (iz ne), .int (iz pe)])), (xd, .inl (cB, 1300, .inl (az fe))), (li, .inl (cL, 160, .inr (.inl (azl lm)))), (bo, .inl (cB, 4096, .inl (az fb))), (cu, .inr (4, [.ref cd, .int (iz nc), .int (iz pp)])), (cd, .inl (cB, 1300, .inl (az fc)))] H := hP
      have hD : va_D (AM mo rs ex xd li bo cu cd) [(mo, .inr (3, [.ref rs, .int (iz len), .int (iz co), .ref ex, .int (iz 24), .int (iz (-149)), .ref li, .int (iz used), .ref bo, .int (iz bl), .ref cu])), (rs, .inl (cB, 4096, .inl (az fr))), (ex, .inr (4, [.ref xd, .int (iz ne), .int (iz pe)])), (xd, .inl (cB, 1300, .inl (az fe))), (li, .inl (cL, 160, .inr (.inl (azl lm)))), (bo, .inl (cB, 4096, .inl (az fb))), (cu, .inr (4, [.ref cd, .int (iz nc), .int (iz pp)])), (cd, .inl (cB, 1300, .inl (az fc)))] := hD
      exact z_vret hx hb hr hlk hS (zR_st zSt_MW) ⟨rfl, _, _, _, ⟨_, _, _, _, _, _, _, _, _, ⟨hK, hP, hD⟩, hrt, hbt, hE, hpe, hlm⟩, hC⟩ d_Mo_kind0_32
    · exfalso
      omega
  · exfalso
    omega
theorem d_Mo_inf53_0 : decode b_Mo_infinity 0 = .ok (.aload_n 0, 1) := by decide +kernel
theorem d_Mo_inf53_1 : decode b_Mo_infinity 1 = .ok (.getfield 43, 3) := by decide +kernel
theorem d_Mo_inf53_4 : decode b_Mo_infinity 4 = .ok (.bipush (53), 2) := by decide +kernel
theorem d_Mo_inf53_6 : decode b_Mo_infinity 6 = .ok (.if_icmp .ne (9), 3) := by decide +kernel
theorem d_Mo_inf53_9 : decode b_Mo_infinity 9 = .ok (.ldc2_w 49, 3) := by decide +kernel
theorem d_Mo_inf53_12 : decode b_Mo_infinity 12 = .ok (.goto (6), 3) := by decide +kernel
theorem d_Mo_inf53_18 : decode b_Mo_infinity 18 = .ok (.lreturn, 1) := by decide +kernel
set_option maxHeartbeats 4000000 in
set_option maxRecDepth 100000 in
theorem c_Mo_inf53 (l : Launch) (D : va_G) (cB cL : ClassId) (mo rs ex xd li bo cu cd : Nat) (co : Int) (rt bt : List Int) (V C : Int)  : Ct l y_Mo_infinity (ws_Mo_infinity) 0 (AM mo rs ex xd li bo cu cd) [.ref mo] (MW D cB cL mo rs ex xd li bo cu cd co 53 (-1074) rt bt V C) (zR (some (.long (lz 9218868437227405312))) (MW D cB cL mo rs ex xd li bo cu cd co 53 (-1074) rt bt V C)) := by
  refine z_body zSt_MW (by decide +kernel) rfl (Nat.le_of_ble_eq_true rfl) ?_
  intro p e s m args below meth c ls hx hb hml hr hlk hts0 hown hpre0 H locs hpre hS hl
  have hts : ∀ w ∈ TBL, w.before args s = true := fun w hw => hts0 w (List.mem_cons_of_mem _ hw)
  have hl : lv_has ls 1 [(0, .ref mo)] := hl
  have hw := hpre
  refine lv_aload_n hx hb d_Mo_inf53_0 rfl (lv_at hl 0 rfl) ?_
  have hw9 := hw
  obtain ⟨fc, nc, pp, ⟨len, used, bl, fr, fb, lm, fe, ne, pe, ⟨hK, hP, hD⟩, hrt, hbt, hE, hpe, hlm⟩, hC⟩ := hw9
  have hr1 := hrt.1
  have hr2 := hrt.2.1
  have hb1 := hbt.1
  have hb2 := hbt.2.1
  have hE1 := hE.1
  have hC1 := hC.1
  have hP : va_P D vwCl [(mo, .inr (3, [.ref rs, .int (iz len), .int (iz co), .ref ex, .int (iz 53), .int (iz (-1074)), .ref li, .int (iz used), .ref bo, .int (iz bl), .ref cu])), (rs, .inl (cB, 4096, .inl (az fr))), (ex, .inr (4, [.ref xd, .int (iz ne), .int (iz pe)])), (xd, .inl (cB, 1300, .inl (az fe))), (li, .inl (cL, 160, .inr (.inl (azl lm)))), (bo, .inl (cB, 4096, .inl (az fb))), (cu, .inr (4, [.ref cd, .int (iz nc), .int (iz pp)])), (cd, .inl (cB, 1300, .inl (az fc)))] H := hP
  have hD : va_D (AM mo rs ex xd li bo cu cd) [(mo, .inr (3, [.ref rs, .int (iz len), .int (iz co), .ref ex, .int (iz 53), .int (iz (-1074)), .ref li, .int (iz used), .ref bo, .int (iz bl), .ref cu])), (rs, .inl (cB, 4096, .inl (az fr))), (ex, .inr (4, [.ref xd, .int (iz ne), .int (iz pe)])), (xd, .inl (cB, 1300, .inl (az fe))), (li, .inl (cL, 160, .inr (.inl (azl lm)))), (bo, .inl (cB, 4096, .inl (az fb))), (cu, .inr (4, [.ref cd, .int (iz nc), .int (iz pp)])), (cd, .inl (cB, 1300, .inl (az fc)))] := hD
  refine va_get (D := D) (ci := 3) (v := .int (iz 53)) (C := R_3) (T := T_3) (N := 11) hx hb hts in_3 hown hK hP 0 rfl rfl 4 (by decide) (hts _ tw_396) (fun _ h9 => h9) rfl d_Mo_inf53_1 ?_
  refine lv_bipush (v := iz 53) hx hb d_Mo_inf53_4 (by decide) ?_
  refine z_icmp_ne (tgt := 15) hx hb d_Mo_inf53_6 rfl ⟨by omega, by omega⟩ ⟨by omega, by omega⟩ (fun hc6 => ?_) (fun hc6 => ?_)
  · exfalso
    omega
  · refine lv_ldc2 (v := (9218868437227405312 : Int64)) hx hb hown (hts _ tw_464) d_Mo_inf53_9 ?_
    refine z_topl (y := lz (9218868437227405312)) (by decide) ?_
    refine lv_goto (tgt := 18) hx hb d_Mo_inf53_12 rfl ?_
    exact z_lret hx hb hr hlk hS (zR_st zSt_MW) ⟨rfl, hw⟩ d_Mo_inf53_18
theorem d_Mo_fra53_0 : decode b_Mo_fraction 0 = .ok (.lconst 1, 1) := by decide +kernel
theorem d_Mo_fra53_1 : decode b_Mo_fraction 1 = .ok (.aload_n 0, 1) := by decide +kernel
theorem d_Mo_fra53_2 : decode b_Mo_fraction 2 = .ok (.getfield 43, 3) := by decide +kernel
theorem d_Mo_fra53_5 : decode b_Mo_fraction 5 = .ok (.iconst 1, 1) := by decide +kernel
theorem d_Mo_fra53_6 : decode b_Mo_fraction 6 = .ok (.isub, 1) := by decide +kernel
theorem d_Mo_fra53_7 : decode b_Mo_fraction 7 = .ok (.lshl, 1) := by decide +kernel
theorem d_Mo_fra53_8 : decode b_Mo_fraction 8 = .ok (.lconst 1, 1) := by decide +kernel
theorem d_Mo_fra53_9 : decode b_Mo_fraction 9 = .ok (.lsub, 1) := by decide +kernel
theorem d_Mo_fra53_10 : decode b_Mo_fraction 10 = .ok (.lreturn, 1) := by decide +kernel
set_option maxHeartbeats 4000000 in
set_option maxRecDepth 100000 in
theorem c_Mo_fra53 (l : Launch) (D : va_G) (cB cL : ClassId) (mo rs ex xd li bo cu cd : Nat) (co : Int) (rt bt : List Int) (V C : Int)  : Ct l y_Mo_fraction (ws_Mo_fraction) 0 (AM mo rs ex xd li bo cu cd) [.ref mo] (MW D cB cL mo rs ex xd li bo cu cd co 53 (-1074) rt bt V C) (zR (some (.long (lz 4503599627370495))) (MW D cB cL mo rs ex xd li bo cu cd co 53 (-1074) rt bt V C)) := by
  refine z_body zSt_MW (by decide +kernel) rfl (Nat.le_of_ble_eq_true rfl) ?_
  intro p e s m args below meth c ls hx hb hml hr hlk hts0 hown hpre0 H locs hpre hS hl
  have hts : ∀ w ∈ TBL, w.before args s = true := fun w hw => hts0 w (List.mem_cons_of_mem _ hw)
  have hl : lv_has ls 1 [(0, .ref mo)] := hl
  have hw := hpre
  refine lv_lconst (v := lz 1) hx hb d_Mo_fra53_0 (by decide) ?_
  refine lv_aload_n hx hb d_Mo_fra53_1 rfl (lv_at hl 0 rfl) ?_
  have hw9 := hw
  obtain ⟨fc, nc, pp, ⟨len, used, bl, fr, fb, lm, fe, ne, pe, ⟨hK, hP, hD⟩, hrt, hbt, hE, hpe, hlm⟩, hC⟩ := hw9
  have hr1 := hrt.1
  have hr2 := hrt.2.1
  have hb1 := hbt.1
  have hb2 := hbt.2.1
  have hE1 := hE.1
  have hC1 := hC.1
  have hP : va_P D vwCl [(mo, .inr (3, [.ref rs, .int (iz len), .int (iz co), .ref ex, .int (iz 53), .int (iz (-1074)), .ref li, .int (iz used), .ref bo, .int (iz bl), .ref cu])), (rs, .inl (cB, 4096, .inl (az fr))), (ex, .inr (4, [.ref xd, .int (iz ne), .int (iz pe)])), (xd, .inl (cB, 1300, .inl (az fe))), (li, .inl (cL, 160, .inr (.inl (azl lm)))), (bo, .inl (cB, 4096, .inl (az fb))), (cu, .inr (4, [.ref cd, .int (iz nc), .int (iz pp)])), (cd, .inl (cB, 1300, .inl (az fc)))] H := hP
  have hD : va_D (AM mo rs ex xd li bo cu cd) [(mo, .inr (3, [.ref rs, .int (iz len), .int (iz co), .ref ex, .int (iz 53), .int (iz (-1074)), .ref li, .int (iz used), .ref bo, .int (iz bl), .ref cu])), (rs, .inl (cB, 4096, .inl (az fr))), (ex, .inr (4, [.ref xd, .int (iz ne), .int (iz pe)])), (xd, .inl (cB, 1300, .inl (az fe))), (li, .inl (cL, 160, .inr (.inl (azl lm)))), (bo, .inl (cB, 4096, .inl (az fb))), (cu, .inr (4, [.ref cd, .int (iz nc), .int (iz pp)])), (cd, .inl (cB, 1300, .inl (az fc)))] := hD
  refine va_get (D := D) (ci := 3) (v := .int (iz 53)) (C := R_3) (T := T_3) (N := 11) hx hb hts in_3 hown hK hP 0 rfl rfl 4 (by decide) (hts _ tw_396) (fun _ h9 => h9) rfl d_Mo_fra53_2 ?_
  refine lv_iconst (v := iz 1) hx hb d_Mo_fra53_5 rfl ?_
  refine z_isub hx hb d_Mo_fra53_6 ?_
  refine z_lshl hx hb 52 d_Mo_fra53_7 rfl (by decide) ⟨by omega, by omega⟩ ⟨by omega, by omega⟩ ?_
  refine lv_lconst (v := lz 1) hx hb d_Mo_fra53_8 (by decide) ?_
  refine z_lsub hx hb d_Mo_fra53_9 ?_
  refine z_rl (b := 4503599627370495) rfl ?_
  exact z_lret hx hb hr hlk hS (zR_st zSt_MW) ⟨rfl, hw⟩ d_Mo_fra53_10
theorem d_Mo_sgn53_0 : decode b_Mo_sign 0 = .ok (.aload_n 0, 1) := by decide +kernel
theorem d_Mo_sgn53_1 : decode b_Mo_sign 1 = .ok (.getfield 43, 3) := by decide +kernel
theorem d_Mo_sgn53_4 : decode b_Mo_sign 4 = .ok (.bipush (53), 2) := by decide +kernel
theorem d_Mo_sgn53_6 : decode b_Mo_sign 6 = .ok (.if_icmp .ne (9), 3) := by decide +kernel
theorem d_Mo_sgn53_9 : decode b_Mo_sign 9 = .ok (.ldc2_w 53, 3) := by decide +kernel
theorem d_Mo_sgn53_12 : decode b_Mo_sign 12 = .ok (.goto (6), 3) := by decide +kernel
theorem d_Mo_sgn53_18 : decode b_Mo_sign 18 = .ok (.lreturn, 1) := by decide +kernel
set_option maxHeartbeats 4000000 in
set_option maxRecDepth 100000 in
theorem c_Mo_sgn53 (l : Launch) (D : va_G) (cB cL : ClassId) (mo rs ex xd li bo cu cd : Nat) (co : Int) (rt bt : List Int) (V C : Int)  : Ct l y_Mo_sign (ws_Mo_sign) 0 (AM mo rs ex xd li bo cu cd) [.ref mo] (MW D cB cL mo rs ex xd li bo cu cd co 53 (-1074) rt bt V C) (zR (some (.long (lz (-9223372036854775808)))) (MW D cB cL mo rs ex xd li bo cu cd co 53 (-1074) rt bt V C)) := by
  refine z_body zSt_MW (by decide +kernel) rfl (Nat.le_of_ble_eq_true rfl) ?_
  intro p e s m args below meth c ls hx hb hml hr hlk hts0 hown hpre0 H locs hpre hS hl
  have hts : ∀ w ∈ TBL, w.before args s = true := fun w hw => hts0 w (List.mem_cons_of_mem _ hw)
  have hl : lv_has ls 1 [(0, .ref mo)] := hl
  have hw := hpre
  refine lv_aload_n hx hb d_Mo_sgn53_0 rfl (lv_at hl 0 rfl) ?_
  have hw9 := hw
  obtain ⟨fc, nc, pp, ⟨len, used, bl, fr, fb, lm, fe, ne, pe, ⟨hK, hP, hD⟩, hrt, hbt, hE, hpe, hlm⟩, hC⟩ := hw9
  have hr1 := hrt.1
  have hr2 := hrt.2.1
  have hb1 := hbt.1
  have hb2 := hbt.2.1
  have hE1 := hE.1
  have hC1 := hC.1
  have hP : va_P D vwCl [(mo, .inr (3, [.ref rs, .int (iz len), .int (iz co), .ref ex, .int (iz 53), .int (iz (-1074)), .ref li, .int (iz used), .ref bo, .int (iz bl), .ref cu])), (rs, .inl (cB, 4096, .inl (az fr))), (ex, .inr (4, [.ref xd, .int (iz ne), .int (iz pe)])), (xd, .inl (cB, 1300, .inl (az fe))), (li, .inl (cL, 160, .inr (.inl (azl lm)))), (bo, .inl (cB, 4096, .inl (az fb))), (cu, .inr (4, [.ref cd, .int (iz nc), .int (iz pp)])), (cd, .inl (cB, 1300, .inl (az fc)))] H := hP
  have hD : va_D (AM mo rs ex xd li bo cu cd) [(mo, .inr (3, [.ref rs, .int (iz len), .int (iz co), .ref ex, .int (iz 53), .int (iz (-1074)), .ref li, .int (iz used), .ref bo, .int (iz bl), .ref cu])), (rs, .inl (cB, 4096, .inl (az fr))), (ex, .inr (4, [.ref xd, .int (iz ne), .int (iz pe)])), (xd, .inl (cB, 1300, .inl (az fe))), (li, .inl (cL, 160, .inr (.inl (azl lm)))), (bo, .inl (cB, 4096, .inl (az fb))), (cu, .inr (4, [.ref cd, .int (iz nc), .int (iz pp)])), (cd, .inl (cB, 1300, .inl (az fc)))] := hD
  refine va_get (D := D) (ci := 3) (v := .int (iz 53)) (C := R_3) (T := T_3) (N := 11) hx hb hts in_3 hown hK hP 0 rfl rfl 4 (by decide) (hts _ tw_396) (fun _ h9 => h9) rfl d_Mo_sgn53_1 ?_
  refine lv_bipush (v := iz 53) hx hb d_Mo_sgn53_4 (by decide) ?_
  refine z_icmp_ne (tgt := 15) hx hb d_Mo_sgn53_6 rfl ⟨by omega, by omega⟩ ⟨by omega, by omega⟩ (fun hc6 => ?_) (fun hc6 => ?_)
  · exfalso
    omega
  · refine lv_ldc2 (v := (-9223372036854775808 : Int64)) hx hb hown (hts _ tw_456) d_Mo_sgn53_9 ?_
    refine z_topl (y := lz (-9223372036854775808)) (by decide) ?_
    refine lv_goto (tgt := 18) hx hb d_Mo_sgn53_12 rfl ?_
    exact z_lret hx hb hr hlk hS (zR_st zSt_MW) ⟨rfl, hw⟩ d_Mo_sgn53_18
theorem d_Mo_none53_0 : decode b_Mo_isNone 0 = .ok (.lload_n 1, 1) := by decide +kernel
theorem d_Mo_none53_1 : decode b_Mo_isNone 1 = .ok (.aload_n 0, 1) := by decide +kernel
theorem d_Mo_none53_2 : decode b_Mo_isNone 2 = .ok (.invokevirtual 57, 3) := by decide +kernel
theorem d_Mo_none53_5 : decode b_Mo_isNone 5 = .ok (.lcmp, 1) := by decide +kernel
theorem d_Mo_none53_6 : decode b_Mo_isNone 6 = .ok (.ifCond .le (7), 3) := by decide +kernel
theorem d_Mo_none53_9 : decode b_Mo_isNone 9 = .ok (.iconst 1, 1) := by decide +kernel
theorem d_Mo_none53_10 : decode b_Mo_isNone 10 = .ok (.goto (4), 3) := by decide +kernel
theorem d_Mo_none53_13 : decode b_Mo_isNone 13 = .ok (.iconst 0, 1) := by decide +kernel
theorem d_Mo_none53_14 : decode b_Mo_isNone 14 = .ok (.ireturn, 1) := by decide +kernel
set_option maxHeartbeats 4000000 in
set_option maxRecDepth 100000 in
theorem c_Mo_none53 (l : Launch) (D : va_G) (cB cL : ClassId) (mo rs ex xd li bo cu cd : Nat) (co : Int) (rt bt : List Int) (V C : Int) (sz : Int) (hsz : lR sz) : Ct l y_Mo_isNone (ws_Mo_isNone) 1 (AM mo rs ex xd li bo cu cd) [.ref mo, .long (lz sz)] (MW D cB cL mo rs ex xd li bo cu cd co 53 (-1074) rt bt V C) (zR (some (.int (iz (if 9218868437227405312 < sz then 1 else 0)))) (MW D cB cL mo rs ex xd li bo cu cd co 53 (-1074) rt bt V C)) := by
  refine z_body zSt_MW (by decide +kernel) rfl (Nat.le_of_ble_eq_true rfl) ?_
  intro p e s m args below meth c ls hx hb hml hr hlk hts0 hown hpre0 H locs hpre hS hl
  have hts : ∀ w ∈ TBL, w.before args s = true := fun w hw => hts0 w (List.mem_cons_of_mem _ hw)
  have hl : lv_has ls 3 [(0, .ref mo), (1, .long (lz sz))] := hl
  have hw := hpre
  refine lv_lload_n hx hb d_Mo_none53_0 rfl (lv_at hl 1 rfl) ?_
  refine lv_aload_n hx hb d_Mo_none53_1 rfl (lv_at hl 0 rfl) ?_
  have hct := c_Mo_inf53 l D cB cL mo rs ex xd li bo cu cd co rt bt V C
  have hw9 := hw
  obtain ⟨fc, nc, pp, ⟨len, used, bl, fr, fb, lm, fe, ne, pe, ⟨hK, hP, hD⟩, hrt, hbt, hE, hpe, hlm⟩, hC⟩ := hw9
  have hr1 := hrt.1
  have hr2 := hrt.2.1
  have hb1 := hbt.1
  have hb2 := hbt.2.1
  have hE1 := hE.1
  have hC1 := hC.1
  have hP : va_P D vwCl [(mo, .inr (3, [.ref rs, .int (iz len), .int (iz co), .ref ex, .int (iz 53), .int (iz (-1074)), .ref li, .int (iz used), .ref bo, .int (iz bl), .ref cu])), (rs, .inl (cB, 4096, .inl (az fr))), (ex, .inr (4, [.ref xd, .int (iz ne), .int (iz pe)])), (xd, .inl (cB, 1300, .inl (az fe))), (li, .inl (cL, 160, .inr (.inl (azl lm)))), (bo, .inl (cB, 4096, .inl (az fb))), (cu, .inr (4, [.ref cd, .int (iz nc), .int (iz pp)])), (cd, .inl (cB, 1300, .inl (az fc)))] H := hP
  have hD : va_D (AM mo rs ex xd li bo cu cd) [(mo, .inr (3, [.ref rs, .int (iz len), .int (iz co), .ref ex, .int (iz 53), .int (iz (-1074)), .ref li, .int (iz used), .ref bo, .int (iz bl), .ref cu])), (rs, .inl (cB, 4096, .inl (az fr))), (ex, .inr (4, [.ref xd, .int (iz ne), .int (iz pe)])), (xd, .inl (cB, 1300, .inl (az fe))), (li, .inl (cL, 160, .inr (.inl (azl lm)))), (bo, .inl (cB, 4096, .inl (az fb))), (cu, .inr (4, [.ref cd, .int (iz nc), .int (iz pp)])), (cd, .inl (cB, 1300, .inl (az fc)))] := hD
  refine z_go (va_runV (As := []) (rest := [.long (lz sz)]) ⟨hx, hb, hml, hown, hts⟩ hct.2 (z_cwV hts w_Mo_infinity tw_460 (by decide)) (z_preV hct.1 (va_recv hK hP (ci := 3) (q0 := 0) rfl rfl) hw) rfl rfl hl.1 rfl (lv_room (Nat.le_of_ble_eq_true rfl)) d_Mo_none53_2 ⟨Nat.zero_le _, Nat.zero_le _⟩) hS (fun _ h9 => h9) (fun v9 t9 H locs hv9 hp9 hz9 hk9 hS => ?_)
  obtain ⟨rfl, hw⟩ := hp9
  have hw := MW.moved hv9.symm hw
  refine W.eq (g2 := F0 m 5 ls [.long (lz 9218868437227405312), .long (lz sz)]) rfl ?_
  refine z_lif_le (tgt := 13) hx hb d_Mo_none53_5 d_Mo_none53_6 rfl ⟨by omega, by omega⟩ ⟨by omega, by omega⟩ (fun hc5 => ?_) (fun hc5 => ?_)
  · refine lv_iconst (v := iz 0) hx hb d_Mo_none53_13 rfl ?_
    exact z_zret hx hb hr rfl hlk hS (zR_st zSt_MW) ⟨by first | rw [if_pos hc5] | rw [if_neg (by omega)], hw⟩ d_Mo_none53_14
  · refine lv_iconst (v := iz 1) hx hb d_Mo_none53_9 rfl ?_
    refine lv_goto (tgt := 14) hx hb d_Mo_none53_10 rfl ?_
    exact z_zret hx hb hr rfl hlk hS (zR_st zSt_MW) ⟨by first | rw [if_pos hc5] | rw [if_neg (by omega)], hw⟩ d_Mo_none53_14
theorem d_Mo_c53_0 : decode b_Mo_c 0 = .ok (.lload_n 1, 1) := by decide +kernel
theorem d_Mo_c53_1 : decode b_Mo_c 1 = .ok (.aload_n 0, 1) := by decide +kernel
theorem d_Mo_c53_2 : decode b_Mo_c 2 = .ok (.invokevirtual 61, 3) := by decide +kernel
theorem d_Mo_c53_5 : decode b_Mo_c 5 = .ok (.land, 1) := by decide +kernel
theorem d_Mo_c53_6 : decode b_Mo_c 6 = .ok (.lstore_n 3, 1) := by decide +kernel
theorem d_Mo_c53_7 : decode b_Mo_c 7 = .ok (.lload_n 1, 1) := by decide +kernel
theorem d_Mo_c53_8 : decode b_Mo_c 8 = .ok (.aload_n 0, 1) := by decide +kernel
theorem d_Mo_c53_9 : decode b_Mo_c 9 = .ok (.invokevirtual 61, 3) := by decide +kernel
theorem d_Mo_c53_12 : decode b_Mo_c 12 = .ok (.lcmp, 1) := by decide +kernel
theorem d_Mo_c53_13 : decode b_Mo_c 13 = .ok (.ifCond .le (14), 3) := by decide +kernel
theorem d_Mo_c53_16 : decode b_Mo_c 16 = .ok (.lload_n 3, 1) := by decide +kernel
theorem d_Mo_c53_17 : decode b_Mo_c 17 = .ok (.aload_n 0, 1) := by decide +kernel
theorem d_Mo_c53_18 : decode b_Mo_c 18 = .ok (.invokevirtual 61, 3) := by decide +kernel
theorem d_Mo_c53_21 : decode b_Mo_c 21 = .ok (.lconst 1, 1) := by decide +kernel
theorem d_Mo_c53_22 : decode b_Mo_c 22 = .ok (.ladd, 1) := by decide +kernel
theorem d_Mo_c53_23 : decode b_Mo_c 23 = .ok (.lor, 1) := by decide +kernel
theorem d_Mo_c53_24 : decode b_Mo_c 24 = .ok (.goto (4), 3) := by decide +kernel
theorem d_Mo_c53_27 : decode b_Mo_c 27 = .ok (.lload_n 3, 1) := by decide +kernel
theorem d_Mo_c53_28 : decode b_Mo_c 28 = .ok (.lreturn, 1) := by decide +kernel
set_option maxHeartbeats 4000000 in
set_option maxRecDepth 100000 in
theorem c_Mo_c53 (l : Launch) (D : va_G) (cB cL : ClassId) (mo rs ex xd li bo cu cd : Nat) (co : Int) (rt bt : List Int) (V C : Int) (sz : Int) (hsz : 0 ≤ sz ∧ sz ≤ 9223372036854775807) : Ct l y_Mo_c (ws_Mo_c) 1 (AM mo rs ex xd li bo cu cd) [.ref mo, .long (lz sz)] (MW D cB cL mo rs ex xd li bo cu cd co 53 (-1074) rt bt V C) (zR (some (.long (lz (if 4503599627370495 < sz then 2 ^ 52 + sz % 2 ^ 52 else sz % 2 ^ 52)))) (MW D cB cL mo rs ex xd li bo cu cd co 53 (-1074) rt bt V C)) := by
  refine z_body zSt_MW (by decide +kernel) rfl (Nat.le_of_ble_eq_true rfl) ?_
  intro p e s m args below meth c ls hx hb hml hr hlk hts0 hown hpre0 H locs hpre hS hl
  have hts : ∀ w ∈ TBL, w.before args s = true := fun w hw => hts0 w (List.mem_cons_of_mem _ hw)
  have hl : lv_has ls 5 [(0, .ref mo), (1, .long (lz sz))] := hl
  have hw := hpre
  refine lv_lload_n hx hb d_Mo_c53_0 rfl (lv_at hl 1 rfl) ?_
  refine lv_aload_n hx hb d_Mo_c53_1 rfl (lv_at hl 0 rfl) ?_
  have hct := c_Mo_fra53 l D cB cL mo rs ex xd li bo cu cd co rt bt V C
  have hw9 := hw
  obtain ⟨fc, nc, pp, ⟨len, used, bl, fr, fb, lm, fe, ne, pe, ⟨hK, hP, hD⟩, hrt, hbt, hE, hpe, hlm⟩, hC⟩ := hw9
  have hr1 := hrt.1
  have hr2 := hrt.2.1
  have hb1 := hbt.1
  have hb2 := hbt.2.1
  have hE1 := hE.1
  have hC1 := hC.1
  have hP : va_P D vwCl [(mo, .inr (3, [.ref rs, .int (iz len), .int (iz co), .ref ex, .int (iz 53), .int (iz (-1074)), .ref li, .int (iz used), .ref bo, .int (iz bl), .ref cu])), (rs, .inl (cB, 4096, .inl (az fr))), (ex, .inr (4, [.ref xd, .int (iz ne), .int (iz pe)])), (xd, .inl (cB, 1300, .inl (az fe))), (li, .inl (cL, 160, .inr (.inl (azl lm)))), (bo, .inl (cB, 4096, .inl (az fb))), (cu, .inr (4, [.ref cd, .int (iz nc), .int (iz pp)])), (cd, .inl (cB, 1300, .inl (az fc)))] H := hP
  have hD : va_D (AM mo rs ex xd li bo cu cd) [(mo, .inr (3, [.ref rs, .int (iz len), .int (iz co), .ref ex, .int (iz 53), .int (iz (-1074)), .ref li, .int (iz used), .ref bo, .int (iz bl), .ref cu])), (rs, .inl (cB, 4096, .inl (az fr))), (ex, .inr (4, [.ref xd, .int (iz ne), .int (iz pe)])), (xd, .inl (cB, 1300, .inl (az fe))), (li, .inl (cL, 160, .inr (.inl (azl lm)))), (bo, .inl (cB, 4096, .inl (az fb))), (cu, .inr (4, [.ref cd, .int (iz nc), .int (iz pp)])), (cd, .inl (cB, 1300, .inl (az fc)))] := hD
  refine z_go (va_runV (As := []) (rest := [.long (lz sz)]) ⟨hx, hb, hml, hown, hts⟩ hct.2 (z_cwV hts w_Mo_fraction tw_482 (by decide)) (z_preV hct.1 (va_recv hK hP (ci := 3) (q0 := 0) rfl rfl) hw) rfl rfl hl.1 rfl (lv_room (Nat.le_of_ble_eq_true rfl)) d_Mo_c53_2 ⟨Nat.zero_le _, Nat.zero_le _⟩) hS (fun _ h9 => h9) (fun v9 t9 H locs hv9 hp9 hz9 hk9 hS => ?_)
  obtain ⟨rfl, hw⟩ := hp9
  have hw := MW.moved hv9.symm hw
  refine W.eq (g2 := F0 m 5 ls [.long (lz 4503599627370495), .long (lz sz)]) rfl ?_
  refine z_landm hx hb 52 d_Mo_c53_5 (by decide) rfl ⟨by omega, by omega⟩ ?_
  refine lv_lstore_n hx hb d_Mo_c53_6 rfl hl (by decide) rfl (fun ls hl => ?_)
  have hl : lv_has ls 5 [(3, .long (lz (sz % 2 ^ 52))), (0, .ref mo), (1, .long (lz sz))] := hl
  refine lv_lload_n hx hb d_Mo_c53_7 rfl (lv_at hl 2 rfl) ?_
  refine lv_aload_n hx hb d_Mo_c53_8 rfl (lv_at hl 1 rfl) ?_
  have hct := c_Mo_fra53 l D cB cL mo rs ex xd li bo cu cd co rt bt V C
  have hw9 := hw
  obtain ⟨fc, nc, pp, ⟨len, used, bl, fr, fb, lm, fe, ne, pe, ⟨hK, hP, hD⟩, hrt, hbt, hE, hpe, hlm⟩, hC⟩ := hw9
  have hr1 := hrt.1
  have hr2 := hrt.2.1
  have hb1 := hbt.1
  have hb2 := hbt.2.1
  have hE1 := hE.1
  have hC1 := hC.1
  have hP : va_P D vwCl [(mo, .inr (3, [.ref rs, .int (iz len), .int (iz co), .ref ex, .int (iz 53), .int (iz (-1074)), .ref li, .int (iz used), .ref bo, .int (iz bl), .ref cu])), (rs, .inl (cB, 4096, .inl (az fr))), (ex, .inr (4, [.ref xd, .int (iz ne), .int (iz pe)])), (xd, .inl (cB, 1300, .inl (az fe))), (li, .inl (cL, 160, .inr (.inl (azl lm)))), (bo, .inl (cB, 4096, .inl (az fb))), (cu, .inr (4, [.ref cd, .int (iz nc), .int (iz pp)])), (cd, .inl (cB, 1300, .inl (az fc)))] H := hP
  have hD : va_D (AM mo rs ex xd li bo cu cd) [(mo, .inr (3, [.ref rs, .int (iz len), .int (iz co), .ref ex, .int (iz 53), .int (iz (-1074)), .ref li, .int (iz used), .ref bo, .int (iz bl), .ref cu])), (rs, .inl (cB, 4096, .inl (az fr))), (ex, .inr (4, [.ref xd, .int (iz ne), .int (iz pe)])), (xd, .inl (cB, 1300, .inl (az fe))), (li, .inl (cL, 160, .inr (.inl (azl lm)))), (bo, .inl (cB, 4096, .inl (az fb))), (cu, .inr (4, [.ref cd, .int (iz nc), .int (iz pp)])), (cd, .inl (cB, 1300, .inl (az fc)))] := hD
  refine z_go (va_runV (As := []) (rest := [.long (lz sz)]) ⟨hx, hb, hml, hown, hts⟩ hct.2 (z_cwV hts w_Mo_fraction tw_482 (by decide)) (z_preV hct.1 (va_recv hK hP (ci := 3) (q0 := 0) rfl rfl) hw) rfl rfl hl.1 rfl (lv_room (Nat.le_of_ble_eq_true rfl)) d_Mo_c53_9 ⟨Nat.zero_le _, Nat.zero_le _⟩) hS (fun _ h9 => h9) (fun v9 t9 H locs hv9 hp9 hz9 hk9 hS => ?_)
  obtain ⟨rfl, hw⟩ := hp9
  have hw := MW.moved hv9.symm hw
  refine W.eq (g2 := F0 m 12 ls [.long (lz 4503599627370495), .long (lz sz)]) rfl ?_
  refine z_lif_le (tgt := 27) hx hb d_Mo_c53_12 d_Mo_c53_13 rfl ⟨by omega, by omega⟩ ⟨by omega, by omega⟩ (fun hc12 => ?_) (fun hc12 => ?_)
  · refine lv_lload_n hx hb d_Mo_c53_27 rfl (lv_at hl 0 rfl) ?_
    exact z_lret hx hb hr hlk hS (zR_st zSt_MW) ⟨by first | rw [if_pos hc12] | rw [if_neg (by omega)], hw⟩ d_Mo_c53_28
  · refine lv_lload_n hx hb d_Mo_c53_16 rfl (lv_at hl 0 rfl) ?_
    refine lv_aload_n hx hb d_Mo_c53_17 rfl (lv_at hl 1 rfl) ?_
    have hct := c_Mo_fra53 l D cB cL mo rs ex xd li bo cu cd co rt bt V C
    have hw9 := hw
    obtain ⟨fc, nc, pp, ⟨len, used, bl, fr, fb, lm, fe, ne, pe, ⟨hK, hP, hD⟩, hrt, hbt, hE, hpe, hlm⟩, hC⟩ := hw9
    have hr1 := hrt.1
    have hr2 := hrt.2.1
    have hb1 := hbt.1
    have hb2 := hbt.2.1
    have hE1 := hE.1
    have hC1 := hC.1
    have hP : va_P D vwCl [(mo, .inr (3, [.ref rs, .int (iz len), .int (iz co), .ref ex, .int (iz 53), .int (iz (-1074)), .ref li, .int (iz used), .ref bo, .int (iz bl), .ref cu])), (rs, .inl (cB, 4096, .inl (az fr))), (ex, .inr (4, [.ref xd, .int (iz ne), .int (iz pe)])), (xd, .inl (cB, 1300, .inl (az fe))), (li, .inl (cL, 160, .inr (.inl (azl lm)))), (bo, .inl (cB, 4096, .inl (az fb))), (cu, .inr (4, [.ref cd, .int (iz nc), .int (iz pp)])), (cd, .inl (cB, 1300, .inl (az fc)))] H := hP
    have hD : va_D (AM mo rs ex xd li bo cu cd) [(mo, .inr (3, [.ref rs, .int (iz len), .int (iz co), .ref ex, .int (iz 53), .int (iz (-1074)), .ref li, .int (iz used), .ref bo, .int (iz bl), .ref cu])), (rs, .inl (cB, 4096, .inl (az fr))), (ex, .inr (4, [.ref xd, .int (iz ne), .int (iz pe)])), (xd, .inl (cB, 1300, .inl (az fe))), (li, .inl (cL, 160, .inr (.inl (azl lm)))), (bo, .inl (cB, 4096, .inl (az fb))), (cu, .inr (4, [.ref cd, .int (iz nc), .int (iz pp)])), (cd, .inl (cB, 1300, .inl (az fc)))] := hD
    refine z_go (va_runV (As := []) (rest := [.long (lz (sz % 2 ^ 52))]) ⟨hx, hb, hml, hown, hts⟩ hct.2 (z_cwV hts w_Mo_fraction tw_482 (by decide)) (z_preV hct.1 (va_recv hK hP (ci := 3) (q0 := 0) rfl rfl) hw) rfl rfl hl.1 rfl (lv_room (Nat.le_of_ble_eq_true rfl)) d_Mo_c53_18 ⟨Nat.zero_le _, Nat.zero_le _⟩) hS (fun _ h9 => h9) (fun v9 t9 H locs hv9 hp9 hz9 hk9 hS => ?_)
    obtain ⟨rfl, hw⟩ := hp9
    have hw := MW.moved hv9.symm hw
    refine W.eq (g2 := F0 m 21 ls [.long (lz 4503599627370495), .long (lz (sz % 2 ^ 52))]) rfl ?_
    refine lv_lconst (v := lz 1) hx hb d_Mo_c53_21 (by decide) ?_
    refine z_ladd hx hb d_Mo_c53_22 ?_
    refine lv_lor hx hb d_Mo_c53_23 ?_
    refine z_topl (y := lz (2 ^ 52 + sz % 2 ^ 52)) (lor_c 52 (by decide) sz) ?_
    refine lv_goto (tgt := 28) hx hb d_Mo_c53_24 rfl ?_
    exact z_lret hx hb hr hlk hS (zR_st zSt_MW) ⟨by first | rw [if_pos hc12] | rw [if_neg (by omega)], hw⟩ d_Mo_c53_28
theorem d_Mo_q53_0 : decode b_Mo_q 0 = .ok (.lload_n 1, 1) := by decide +kernel
theorem d_Mo_q53_1 : decode b_Mo_q 1 = .ok (.aload_n 0, 1) := by decide +kernel
theorem d_Mo_q53_2 : decode b_Mo_q 2 = .ok (.getfield 43, 3) := by decide +kernel
theorem d_Mo_q53_5 : decode b_Mo_q 5 = .ok (.iconst 1, 1) := by decide +kernel
theorem d_Mo_q53_6 : decode b_Mo_q 6 = .ok (.isub, 1) := by decide +kernel
theorem d_Mo_q53_7 : decode b_Mo_q 7 = .ok (.lushr, 1) := by decide +kernel
theorem d_Mo_q53_8 : decode b_Mo_q 8 = .ok (.lstore_n 3, 1) := by decide +kernel
theorem d_Mo_q53_9 : decode b_Mo_q 9 = .ok (.lload_n 3, 1) := by decide +kernel
theorem d_Mo_q53_10 : decode b_Mo_q 10 = .ok (.lconst 0, 1) := by decide +kernel
theorem d_Mo_q53_11 : decode b_Mo_q 11 = .ok (.lcmp, 1) := by decide +kernel
theorem d_Mo_q53_12 : decode b_Mo_q 12 = .ok (.ifCond .ne (10), 3) := by decide +kernel
theorem d_Mo_q53_15 : decode b_Mo_q 15 = .ok (.aload_n 0, 1) := by decide +kernel
theorem d_Mo_q53_16 : decode b_Mo_q 16 = .ok (.getfield 46, 3) := by decide +kernel
theorem d_Mo_q53_19 : decode b_Mo_q 19 = .ok (.goto (12), 3) := by decide +kernel
theorem d_Mo_q53_22 : decode b_Mo_q 22 = .ok (.aload_n 0, 1) := by decide +kernel
theorem d_Mo_q53_23 : decode b_Mo_q 23 = .ok (.getfield 46, 3) := by decide +kernel
theorem d_Mo_q53_26 : decode b_Mo_q 26 = .ok (.lload_n 3, 1) := by decide +kernel
theorem d_Mo_q53_27 : decode b_Mo_q 27 = .ok (.l2i, 1) := by decide +kernel
theorem d_Mo_q53_28 : decode b_Mo_q 28 = .ok (.iadd, 1) := by decide +kernel
theorem d_Mo_q53_29 : decode b_Mo_q 29 = .ok (.iconst 1, 1) := by decide +kernel
theorem d_Mo_q53_30 : decode b_Mo_q 30 = .ok (.isub, 1) := by decide +kernel
theorem d_Mo_q53_31 : decode b_Mo_q 31 = .ok (.ireturn, 1) := by decide +kernel
set_option maxHeartbeats 4000000 in
set_option maxRecDepth 100000 in
theorem c_Mo_q53 (l : Launch) (D : va_G) (cB cL : ClassId) (mo rs ex xd li bo cu cd : Nat) (co : Int) (rt bt : List Int) (V C : Int) (sz : Int) (hsz : 0 ≤ sz ∧ sz ≤ 9223372036854775807) : Ct l y_Mo_q (ws_Mo_q) 0 (AM mo rs ex xd li bo cu cd) [.ref mo, .long (lz sz)] (MW D cB cL mo rs ex xd li bo cu cd co 53 (-1074) rt bt V C) (zR (some (.int (iz (if sz / 2 ^ 52 = 0 then -1074 else -1074 + sz / 2 ^ 52 - 1)))) (MW D cB cL mo rs ex xd li bo cu cd co 53 (-1074) rt bt V C)) := by
  refine z_body zSt_MW (by decide +kernel) rfl (Nat.le_of_ble_eq_true rfl) ?_
  intro p e s m args below meth c ls hx hb hml hr hlk hts0 hown hpre0 H locs hpre hS hl
  have hts : ∀ w ∈ TBL, w.before args s = true := fun w hw => hts0 w (List.mem_cons_of_mem _ hw)
  have hl : lv_has ls 5 [(0, .ref mo), (1, .long (lz sz))] := hl
  have hw := hpre
  refine lv_lload_n hx hb d_Mo_q53_0 rfl (lv_at hl 1 rfl) ?_
  refine lv_aload_n hx hb d_Mo_q53_1 rfl (lv_at hl 0 rfl) ?_
  have hw9 := hw
  obtain ⟨fc, nc, pp, ⟨len, used, bl, fr, fb, lm, fe, ne, pe, ⟨hK, hP, hD⟩, hrt, hbt, hE, hpe, hlm⟩, hC⟩ := hw9
  have hr1 := hrt.1
  have hr2 := hrt.2.1
  have hb1 := hbt.1
  have hb2 := hbt.2.1
  have hE1 := hE.1
  have hC1 := hC.1
  have hP : va_P D vwCl [(mo, .inr (3, [.ref rs, .int (iz len), .int (iz co), .ref ex, .int (iz 53), .int (iz (-1074)), .ref li, .int (iz used), .ref bo, .int (iz bl), .ref cu])), (rs, .inl (cB, 4096, .inl (az fr))), (ex, .inr (4, [.ref xd, .int (iz ne), .int (iz pe)])), (xd, .inl (cB, 1300, .inl (az fe))), (li, .inl (cL, 160, .inr (.inl (azl lm)))), (bo, .inl (cB, 4096, .inl (az fb))), (cu, .inr (4, [.ref cd, .int (iz nc), .int (iz pp)])), (cd, .inl (cB, 1300, .inl (az fc)))] H := hP
  have hD : va_D (AM mo rs ex xd li bo cu cd) [(mo, .inr (3, [.ref rs, .int (iz len), .int (iz co), .ref ex, .int (iz 53), .int (iz (-1074)), .ref li, .int (iz used), .ref bo, .int (iz bl), .ref cu])), (rs, .inl (cB, 4096, .inl (az fr))), (ex, .inr (4, [.ref xd, .int (iz ne), .int (iz pe)])), (xd, .inl (cB, 1300, .inl (az fe))), (li, .inl (cL, 160, .inr (.inl (azl lm)))), (bo, .inl (cB, 4096, .inl (az fb))), (cu, .inr (4, [.ref cd, .int (iz nc), .int (iz pp)])), (cd, .inl (cB, 1300, .inl (az fc)))] := hD
  refine va_get (D := D) (ci := 3) (v := .int (iz 53)) (C := R_3) (T := T_3) (N := 11) hx hb hts in_3 hown hK hP 0 rfl rfl 4 (by decide) (hts _ tw_396) (fun _ h9 => h9) rfl d_Mo_q53_2 ?_
  refine lv_iconst (v := iz 1) hx hb d_Mo_q53_5 rfl ?_
  refine z_isub hx hb d_Mo_q53_6 ?_
  refine z_lushr hx hb 52 d_Mo_q53_7 rfl (by decide) ⟨by omega, by omega⟩ ?_
  have hsq : 0 ≤ sz / 2 ^ 52 ∧ sz / 2 ^ 52 ≤ sz := by omega
  refine lv_lstore_n hx hb d_Mo_q53_8 rfl hl (by decide) rfl (fun ls hl => ?_)
  have hl : lv_has ls 5 [(3, .long (lz (sz / 2 ^ 52))), (0, .ref mo), (1, .long (lz sz))] := hl
  refine lv_lload_n hx hb d_Mo_q53_9 rfl (lv_at hl 0 rfl) ?_
  refine lv_lconst (v := lz 0) hx hb d_Mo_q53_10 (by decide) ?_
  refine z_lif_ne (tgt := 22) hx hb d_Mo_q53_11 d_Mo_q53_12 rfl ⟨by omega, by omega⟩ ⟨by omega, by omega⟩ (fun hc11 => ?_) (fun hc11 => ?_)
  · refine lv_aload_n hx hb d_Mo_q53_22 rfl (lv_at hl 1 rfl) ?_
    refine va_get (D := D) (ci := 3) (v := .int (iz (-1074))) (C := R_3) (T := T_3) (N := 11) hx hb hts in_3 hown hK hP 0 rfl rfl 5 (by decide) (hts _ tw_397) (fun _ h9 => h9) rfl d_Mo_q53_23 ?_
    refine lv_lload_n hx hb d_Mo_q53_26 rfl (lv_at hl 0 rfl) ?_
    refine z_l2i hx hb d_Mo_q53_27 ?_
    refine z_iadd hx hb d_Mo_q53_28 ?_
    refine lv_iconst (v := iz 1) hx hb d_Mo_q53_29 rfl ?_
    refine z_isub hx hb d_Mo_q53_30 ?_
    exact z_iret hx hb hr hlk hS (zR_st zSt_MW) ⟨by first | rw [if_pos hc11] | rw [if_neg hc11], hw⟩ d_Mo_q53_31
  · refine lv_aload_n hx hb d_Mo_q53_15 rfl (lv_at hl 1 rfl) ?_
    refine va_get (D := D) (ci := 3) (v := .int (iz (-1074))) (C := R_3) (T := T_3) (N := 11) hx hb hts in_3 hown hK hP 0 rfl rfl 5 (by decide) (hts _ tw_397) (fun _ h9 => h9) rfl d_Mo_q53_16 ?_
    refine lv_goto (tgt := 31) hx hb d_Mo_q53_19 rfl ?_
    exact z_iret hx hb hr hlk hS (zR_st zSt_MW) ⟨by first | rw [if_pos hc11] | rw [if_neg hc11], hw⟩ d_Mo_q53_31
theorem d_Mo_inf24_0 : decode b_Mo_infinity 0 = .ok (.aload_n 0, 1) := by decide +kernel
theorem d_Mo_inf24_1 : decode b_Mo_infinity 1 = .ok (.getfield 43, 3) := by decide +kernel
theorem d_Mo_inf24_4 : decode b_Mo_infinity 4 = .ok (.bipush (53), 2) := by decide +kernel
theorem d_Mo_inf24_6 : decode b_Mo_infinity 6 = .ok (.if_icmp .ne (9), 3) := by decide +kernel
theorem d_Mo_inf24_15 : decode b_Mo_infinity 15 = .ok (.ldc2_w 51, 3) := by decide +kernel
theorem d_Mo_inf24_18 : decode b_Mo_infinity 18 = .ok (.lreturn, 1) := by decide +kernel
set_option maxHeartbeats 4000000 in
set_option maxRecDepth 100000 in
theorem c_Mo_inf24 (l : Launch) (D : va_G) (cB cL : ClassId) (mo rs ex xd li bo cu cd : Nat) (co : Int) (rt bt : List Int) (V C : Int)  : Ct l y_Mo_infinity (ws_Mo_infinity) 0 (AM mo rs ex xd li bo cu cd) [.ref mo] (MW D cB cL mo rs ex xd li bo cu cd co 24 (-149) rt bt V C) (zR (some (.long (lz 2139095040))) (MW D cB cL mo rs ex xd li bo cu cd co 24 (-149) rt bt V C)) := by
  refine z_body zSt_MW (by decide +kernel) rfl (Nat.le_of_ble_eq_true rfl) ?_
  intro p e s m args below meth c ls hx hb hml hr hlk hts0 hown hpre0 H locs hpre hS hl
  have hts : ∀ w ∈ TBL, w.before args s = true := fun w hw => hts0 w (List.mem_cons_of_mem _ hw)
  have hl : lv_has ls 1 [(0, .ref mo)] := hl
  have hw := hpre
  refine lv_aload_n hx hb d_Mo_inf24_0 rfl (lv_at hl 0 rfl) ?_
  have hw9 := hw
  obtain ⟨fc, nc, pp, ⟨len, used, bl, fr, fb, lm, fe, ne, pe, ⟨hK, hP, hD⟩, hrt, hbt, hE, hpe, hlm⟩, hC⟩ := hw9
  have hr1 := hrt.1
  have hr2 := hrt.2.1
  have hb1 := hbt.1
  have hb2 := hbt.2.1
  have hE1 := hE.1
  have hC1 := hC.1
  have hP : va_P D vwCl [(mo, .inr (3, [.ref rs, .int (iz len), .int (iz co), .ref ex, .int (iz 24), .int (iz (-149)), .ref li, .int (iz used), .ref bo, .int (iz bl), .ref cu])), (rs, .inl (cB, 4096, .inl (az fr))), (ex, .inr (4, [.ref xd, .int (iz ne), .int (iz pe)])), (xd, .inl (cB, 1300, .inl (az fe))), (li, .inl (cL, 160, .inr (.inl (azl lm)))), (bo, .inl (cB, 4096, .inl (az fb))), (cu, .inr (4, [.ref cd, .int (iz nc), .int (iz pp)])), (cd, .inl (cB, 1300, .inl (az fc)))] H := hP
  have hD : va_D (AM mo rs ex xd li bo cu cd) [(mo, .inr (3, [.ref rs, .int (iz len), .int (iz co), .ref ex, .int (iz 24), .int (iz (-149)), .ref li, .int (iz used), .ref bo, .int (iz bl), .ref cu])), (rs, .inl (cB, 4096, .inl (az fr))), (ex, .inr (4, [.ref xd, .int (iz ne), .int (iz pe)])), (xd, .inl (cB, 1300, .inl (az fe))), (li, .inl (cL, 160, .inr (.inl (azl lm)))), (bo, .inl (cB, 4096, .inl (az fb))), (cu, .inr (4, [.ref cd, .int (iz nc), .int (iz pp)])), (cd, .inl (cB, 1300, .inl (az fc)))] := hD
  refine va_get (D := D) (ci := 3) (v := .int (iz 24)) (C := R_3) (T := T_3) (N := 11) hx hb hts in_3 hown hK hP 0 rfl rfl 4 (by decide) (hts _ tw_396) (fun _ h9 => h9) rfl d_Mo_inf24_1 ?_
  refine lv_bipush (v := iz 53) hx hb d_Mo_inf24_4 (by decide) ?_
  refine z_icmp_ne (tgt := 15) hx hb d_Mo_inf24_6 rfl ⟨by omega, by omega⟩ ⟨by omega, by omega⟩ (fun hc6 => ?_) (fun hc6 => ?_)
  · refine lv_ldc2 (v := (2139095040 : Int64)) hx hb hown (hts _ tw_465) d_Mo_inf24_15 ?_
    refine z_topl (y := lz (2139095040)) (by decide) ?_
    exact z_lret hx hb hr hlk hS (zR_st zSt_MW) ⟨rfl, hw⟩ d_Mo_inf24_18
  · exfalso
    omega
theorem d_Mo_fra24_0 : decode b_Mo_fraction 0 = .ok (.lconst 1, 1) := by decide +kernel
theorem d_Mo_fra24_1 : decode b_Mo_fraction 1 = .ok (.aload_n 0, 1) := by decide +kernel
theorem d_Mo_fra24_2 : decode b_Mo_fraction 2 = .ok (.getfield 43, 3) := by decide +kernel
theorem d_Mo_fra24_5 : decode b_Mo_fraction 5 = .ok (.iconst 1, 1) := by decide +kernel
theorem d_Mo_fra24_6 : decode b_Mo_fraction 6 = .ok (.isub, 1) := by decide +kernel
theorem d_Mo_fra24_7 : decode b_Mo_fraction 7 = .ok (.lshl, 1) := by decide +kernel
theorem d_Mo_fra24_8 : decode b_Mo_fraction 8 = .ok (.lconst 1, 1) := by decide +kernel
theorem d_Mo_fra24_9 : decode b_Mo_fraction 9 = .ok (.lsub, 1) := by decide +kernel
theorem d_Mo_fra24_10 : decode b_Mo_fraction 10 = .ok (.lreturn, 1) := by decide +kernel
set_option maxHeartbeats 4000000 in
set_option maxRecDepth 100000 in
theorem c_Mo_fra24 (l : Launch) (D : va_G) (cB cL : ClassId) (mo rs ex xd li bo cu cd : Nat) (co : Int) (rt bt : List Int) (V C : Int)  : Ct l y_Mo_fraction (ws_Mo_fraction) 0 (AM mo rs ex xd li bo cu cd) [.ref mo] (MW D cB cL mo rs ex xd li bo cu cd co 24 (-149) rt bt V C) (zR (some (.long (lz 8388607))) (MW D cB cL mo rs ex xd li bo cu cd co 24 (-149) rt bt V C)) := by
  refine z_body zSt_MW (by decide +kernel) rfl (Nat.le_of_ble_eq_true rfl) ?_
  intro p e s m args below meth c ls hx hb hml hr hlk hts0 hown hpre0 H locs hpre hS hl
  have hts : ∀ w ∈ TBL, w.before args s = true := fun w hw => hts0 w (List.mem_cons_of_mem _ hw)
  have hl : lv_has ls 1 [(0, .ref mo)] := hl
  have hw := hpre
  refine lv_lconst (v := lz 1) hx hb d_Mo_fra24_0 (by decide) ?_
  refine lv_aload_n hx hb d_Mo_fra24_1 rfl (lv_at hl 0 rfl) ?_
  have hw9 := hw
  obtain ⟨fc, nc, pp, ⟨len, used, bl, fr, fb, lm, fe, ne, pe, ⟨hK, hP, hD⟩, hrt, hbt, hE, hpe, hlm⟩, hC⟩ := hw9
  have hr1 := hrt.1
  have hr2 := hrt.2.1
  have hb1 := hbt.1
  have hb2 := hbt.2.1
  have hE1 := hE.1
  have hC1 := hC.1
  have hP : va_P D vwCl [(mo, .inr (3, [.ref rs, .int (iz len), .int (iz co), .ref ex, .int (iz 24), .int (iz (-149)), .ref li, .int (iz used), .ref bo, .int (iz bl), .ref cu])), (rs, .inl (cB, 4096, .inl (az fr))), (ex, .inr (4, [.ref xd, .int (iz ne), .int (iz pe)])), (xd, .inl (cB, 1300, .inl (az fe))), (li, .inl (cL, 160, .inr (.inl (azl lm)))), (bo, .inl (cB, 4096, .inl (az fb))), (cu, .inr (4, [.ref cd, .int (iz nc), .int (iz pp)])), (cd, .inl (cB, 1300, .inl (az fc)))] H := hP
  have hD : va_D (AM mo rs ex xd li bo cu cd) [(mo, .inr (3, [.ref rs, .int (iz len), .int (iz co), .ref ex, .int (iz 24), .int (iz (-149)), .ref li, .int (iz used), .ref bo, .int (iz bl), .ref cu])), (rs, .inl (cB, 4096, .inl (az fr))), (ex, .inr (4, [.ref xd, .int (iz ne), .int (iz pe)])), (xd, .inl (cB, 1300, .inl (az fe))), (li, .inl (cL, 160, .inr (.inl (azl lm)))), (bo, .inl (cB, 4096, .inl (az fb))), (cu, .inr (4, [.ref cd, .int (iz nc), .int (iz pp)])), (cd, .inl (cB, 1300, .inl (az fc)))] := hD
  refine va_get (D := D) (ci := 3) (v := .int (iz 24)) (C := R_3) (T := T_3) (N := 11) hx hb hts in_3 hown hK hP 0 rfl rfl 4 (by decide) (hts _ tw_396) (fun _ h9 => h9) rfl d_Mo_fra24_2 ?_
  refine lv_iconst (v := iz 1) hx hb d_Mo_fra24_5 rfl ?_
  refine z_isub hx hb d_Mo_fra24_6 ?_
  refine z_lshl hx hb 23 d_Mo_fra24_7 rfl (by decide) ⟨by omega, by omega⟩ ⟨by omega, by omega⟩ ?_
  refine lv_lconst (v := lz 1) hx hb d_Mo_fra24_8 (by decide) ?_
  refine z_lsub hx hb d_Mo_fra24_9 ?_
  refine z_rl (b := 8388607) rfl ?_
  exact z_lret hx hb hr hlk hS (zR_st zSt_MW) ⟨rfl, hw⟩ d_Mo_fra24_10
theorem d_Mo_sgn24_0 : decode b_Mo_sign 0 = .ok (.aload_n 0, 1) := by decide +kernel
theorem d_Mo_sgn24_1 : decode b_Mo_sign 1 = .ok (.getfield 43, 3) := by decide +kernel
theorem d_Mo_sgn24_4 : decode b_Mo_sign 4 = .ok (.bipush (53), 2) := by decide +kernel
theorem d_Mo_sgn24_6 : decode b_Mo_sign 6 = .ok (.if_icmp .ne (9), 3) := by decide +kernel
theorem d_Mo_sgn24_15 : decode b_Mo_sign 15 = .ok (.ldc2_w 55, 3) := by decide +kernel
theorem d_Mo_sgn24_18 : decode b_Mo_sign 18 = .ok (.lreturn, 1) := by decide +kernel
set_option maxHeartbeats 4000000 in
set_option maxRecDepth 100000 in
theorem c_Mo_sgn24 (l : Launch) (D : va_G) (cB cL : ClassId) (mo rs ex xd li bo cu cd : Nat) (co : Int) (rt bt : List Int) (V C : Int)  : Ct l y_Mo_sign (ws_Mo_sign) 0 (AM mo rs ex xd li bo cu cd) [.ref mo] (MW D cB cL mo rs ex xd li bo cu cd co 24 (-149) rt bt V C) (zR (some (.long (lz (2147483648)))) (MW D cB cL mo rs ex xd li bo cu cd co 24 (-149) rt bt V C)) := by
  refine z_body zSt_MW (by decide +kernel) rfl (Nat.le_of_ble_eq_true rfl) ?_
  intro p e s m args below meth c ls hx hb hml hr hlk hts0 hown hpre0 H locs hpre hS hl
  have hts : ∀ w ∈ TBL, w.before args s = true := fun w hw => hts0 w (List.mem_cons_of_mem _ hw)
  have hl : lv_has ls 1 [(0, .ref mo)] := hl
  have hw := hpre
  refine lv_aload_n hx hb d_Mo_sgn24_0 rfl (lv_at hl 0 rfl) ?_
  have hw9 := hw
  obtain ⟨fc, nc, pp, ⟨len, used, bl, fr, fb, lm, fe, ne, pe, ⟨hK, hP, hD⟩, hrt, hbt, hE, hpe, hlm⟩, hC⟩ := hw9
  have hr1 := hrt.1
  have hr2 := hrt.2.1
  have hb1 := hbt.1
  have hb2 := hbt.2.1
  have hE1 := hE.1
  have hC1 := hC.1
  have hP : va_P D vwCl [(mo, .inr (3, [.ref rs, .int (iz len), .int (iz co), .ref ex, .int (iz 24), .int (iz (-149)), .ref li, .int (iz used), .ref bo, .int (iz bl), .ref cu])), (rs, .inl (cB, 4096, .inl (az fr))), (ex, .inr (4, [.ref xd, .int (iz ne), .int (iz pe)])), (xd, .inl (cB, 1300, .inl (az fe))), (li, .inl (cL, 160, .inr (.inl (azl lm)))), (bo, .inl (cB, 4096, .inl (az fb))), (cu, .inr (4, [.ref cd, .int (iz nc), .int (iz pp)])), (cd, .inl (cB, 1300, .inl (az fc)))] H := hP
  have hD : va_D (AM mo rs ex xd li bo cu cd) [(mo, .inr (3, [.ref rs, .int (iz len), .int (iz co), .ref ex, .int (iz 24), .int (iz (-149)), .ref li, .int (iz used), .ref bo, .int (iz bl), .ref cu])), (rs, .inl (cB, 4096, .inl (az fr))), (ex, .inr (4, [.ref xd, .int (iz ne), .int (iz pe)])), (xd, .inl (cB, 1300, .inl (az fe))), (li, .inl (cL, 160, .inr (.inl (azl lm)))), (bo, .inl (cB, 4096, .inl (az fb))), (cu, .inr (4, [.ref cd, .int (iz nc), .int (iz pp)])), (cd, .inl (cB, 1300, .inl (az fc)))] := hD
  refine va_get (D := D) (ci := 3) (v := .int (iz 24)) (C := R_3) (T := T_3) (N := 11) hx hb hts in_3 hown hK hP 0 rfl rfl 4 (by decide) (hts _ tw_396) (fun _ h9 => h9) rfl d_Mo_sgn24_1 ?_
  refine lv_bipush (v := iz 53) hx hb d_Mo_sgn24_4 (by decide) ?_
  refine z_icmp_ne (tgt := 15) hx hb d_Mo_sgn24_6 rfl ⟨by omega, by omega⟩ ⟨by omega, by omega⟩ (fun hc6 => ?_) (fun hc6 => ?_)
  · refine lv_ldc2 (v := (2147483648 : Int64)) hx hb hown (hts _ tw_457) d_Mo_sgn24_15 ?_
    refine z_topl (y := lz (2147483648)) (by decide) ?_
    exact z_lret hx hb hr hlk hS (zR_st zSt_MW) ⟨rfl, hw⟩ d_Mo_sgn24_18
  · exfalso
    omega
theorem d_Mo_none24_0 : decode b_Mo_isNone 0 = .ok (.lload_n 1, 1) := by decide +kernel
theorem d_Mo_none24_1 : decode b_Mo_isNone 1 = .ok (.aload_n 0, 1) := by decide +kernel
theorem d_Mo_none24_2 : decode b_Mo_isNone 2 = .ok (.invokevirtual 57, 3) := by decide +kernel
theorem d_Mo_none24_5 : decode b_Mo_isNone 5 = .ok (.lcmp, 1) := by decide +kernel
theorem d_Mo_none24_6 : decode b_Mo_isNone 6 = .ok (.ifCond .le (7), 3) := by decide +kernel
theorem d_Mo_none24_9 : decode b_Mo_isNone 9 = .ok (.iconst 1, 1) := by decide +kernel
theorem d_Mo_none24_10 : decode b_Mo_isNone 10 = .ok (.goto (4), 3) := by decide +kernel
theorem d_Mo_none24_13 : decode b_Mo_isNone 13 = .ok (.iconst 0, 1) := by decide +kernel
theorem d_Mo_none24_14 : decode b_Mo_isNone 14 = .ok (.ireturn, 1) := by decide +kernel
set_option maxHeartbeats 4000000 in
set_option maxRecDepth 100000 in
theorem c_Mo_none24 (l : Launch) (D : va_G) (cB cL : ClassId) (mo rs ex xd li bo cu cd : Nat) (co : Int) (rt bt : List Int) (V C : Int) (sz : Int) (hsz : lR sz) : Ct l y_Mo_isNone (ws_Mo_isNone) 1 (AM mo rs ex xd li bo cu cd) [.ref mo, .long (lz sz)] (MW D cB cL mo rs ex xd li bo cu cd co 24 (-149) rt bt V C) (zR (some (.int (iz (if 2139095040 < sz then 1 else 0)))) (MW D cB cL mo rs ex xd li bo cu cd co 24 (-149) rt bt V C)) := by
  refine z_body zSt_MW (by decide +kernel) rfl (Nat.le_of_ble_eq_true rfl) ?_
  intro p e s m args below meth c ls hx hb hml hr hlk hts0 hown hpre0 H locs hpre hS hl
  have hts : ∀ w ∈ TBL, w.before args s = true := fun w hw => hts0 w (List.mem_cons_of_mem _ hw)
  have hl : lv_has ls 3 [(0, .ref mo), (1, .long (lz sz))] := hl
  have hw := hpre
  refine lv_lload_n hx hb d_Mo_none24_0 rfl (lv_at hl 1 rfl) ?_
  refine lv_aload_n hx hb d_Mo_none24_1 rfl (lv_at hl 0 rfl) ?_
  have hct := c_Mo_inf24 l D cB cL mo rs ex xd li bo cu cd co rt bt V C
  have hw9 := hw
  obtain ⟨fc, nc, pp, ⟨len, used, bl, fr, fb, lm, fe, ne, pe, ⟨hK, hP, hD⟩, hrt, hbt, hE, hpe, hlm⟩, hC⟩ := hw9
  have hr1 := hrt.1
  have hr2 := hrt.2.1
  have hb1 := hbt.1
  have hb2 := hbt.2.1
  have hE1 := hE.1
  have hC1 := hC.1
  have hP : va_P D vwCl [(mo, .inr (3, [.ref rs, .int (iz len), .int (iz co), .ref ex, .int (iz 24), .int (iz (-149)), .ref li, .int (iz used), .ref bo, .int (iz bl), .ref cu])), (rs, .inl (cB, 4096, .inl (az fr))), (ex, .inr (4, [.ref xd, .int (iz ne), .int (iz pe)])), (xd, .inl (cB, 1300, .inl (az fe))), (li, .inl (cL, 160, .inr (.inl (azl lm)))), (bo, .inl (cB, 4096, .inl (az fb))), (cu, .inr (4, [.ref cd, .int (iz nc), .int (iz pp)])), (cd, .inl (cB, 1300, .inl (az fc)))] H := hP
  have hD : va_D (AM mo rs ex xd li bo cu cd) [(mo, .inr (3, [.ref rs, .int (iz len), .int (iz co), .ref ex, .int (iz 24), .int (iz (-149)), .ref li, .int (iz used), .ref bo, .int (iz bl), .ref cu])), (rs, .inl (cB, 4096, .inl (az fr))), (ex, .inr (4, [.ref xd, .int (iz ne), .int (iz pe)])), (xd, .inl (cB, 1300, .inl (az fe))), (li, .inl (cL, 160, .inr (.inl (azl lm)))), (bo, .inl (cB, 4096, .inl (az fb))), (cu, .inr (4, [.ref cd, .int (iz nc), .int (iz pp)])), (cd, .inl (cB, 1300, .inl (az fc)))] := hD
  refine z_go (va_runV (As := []) (rest := [.long (lz sz)]) ⟨hx, hb, hml, hown, hts⟩ hct.2 (z_cwV hts w_Mo_infinity tw_460 (by decide)) (z_preV hct.1 (va_recv hK hP (ci := 3) (q0 := 0) rfl rfl) hw) rfl rfl hl.1 rfl (lv_room (Nat.le_of_ble_eq_true rfl)) d_Mo_none24_2 ⟨Nat.zero_le _, Nat.zero_le _⟩) hS (fun _ h9 => h9) (fun v9 t9 H locs hv9 hp9 hz9 hk9 hS => ?_)
  obtain ⟨rfl, hw⟩ := hp9
  have hw := MW.moved hv9.symm hw
  refine W.eq (g2 := F0 m 5 ls [.long (lz 2139095040), .long (lz sz)]) rfl ?_
  refine z_lif_le (tgt := 13) hx hb d_Mo_none24_5 d_Mo_none24_6 rfl ⟨by omega, by omega⟩ ⟨by omega, by omega⟩ (fun hc5 => ?_) (fun hc5 => ?_)
  · refine lv_iconst (v := iz 0) hx hb d_Mo_none24_13 rfl ?_
    exact z_zret hx hb hr rfl hlk hS (zR_st zSt_MW) ⟨by first | rw [if_pos hc5] | rw [if_neg (by omega)], hw⟩ d_Mo_none24_14
  · refine lv_iconst (v := iz 1) hx hb d_Mo_none24_9 rfl ?_
    refine lv_goto (tgt := 14) hx hb d_Mo_none24_10 rfl ?_
    exact z_zret hx hb hr rfl hlk hS (zR_st zSt_MW) ⟨by first | rw [if_pos hc5] | rw [if_neg (by omega)], hw⟩ d_Mo_none24_14
theorem d_Mo_c24_0 : decode b_Mo_c 0 = .ok (.lload_n 1, 1) := by decide +kernel
theorem d_Mo_c24_1 : decode b_Mo_c 1 = .ok (.aload_n 0, 1) := by decide +kernel
theorem d_Mo_c24_2 : decode b_Mo_c 2 = .ok (.invokevirtual 61, 3) := by decide +kernel
theorem d_Mo_c24_5 : decode b_Mo_c 5 = .ok (.land, 1) := by decide +kernel
theorem d_Mo_c24_6 : decode b_Mo_c 6 = .ok (.lstore_n 3, 1) := by decide +kernel
theorem d_Mo_c24_7 : decode b_Mo_c 7 = .ok (.lload_n 1, 1) := by decide +kernel
theorem d_Mo_c24_8 : decode b_Mo_c 8 = .ok (.aload_n 0, 1) := by decide +kernel
theorem d_Mo_c24_9 : decode b_Mo_c 9 = .ok (.invokevirtual 61, 3) := by decide +kernel
theorem d_Mo_c24_12 : decode b_Mo_c 12 = .ok (.lcmp, 1) := by decide +kernel
theorem d_Mo_c24_13 : decode b_Mo_c 13 = .ok (.ifCond .le (14), 3) := by decide +kernel
theorem d_Mo_c24_16 : decode b_Mo_c 16 = .ok (.lload_n 3, 1) := by decide +kernel
theorem d_Mo_c24_17 : decode b_Mo_c 17 = .ok (.aload_n 0, 1) := by decide +kernel
theorem d_Mo_c24_18 : decode b_Mo_c 18 = .ok (.invokevirtual 61, 3) := by decide +kernel
theorem d_Mo_c24_21 : decode b_Mo_c 21 = .ok (.lconst 1, 1) := by decide +kernel
theorem d_Mo_c24_22 : decode b_Mo_c 22 = .ok (.ladd, 1) := by decide +kernel
theorem d_Mo_c24_23 : decode b_Mo_c 23 = .ok (.lor, 1) := by decide +kernel
theorem d_Mo_c24_24 : decode b_Mo_c 24 = .ok (.goto (4), 3) := by decide +kernel
theorem d_Mo_c24_27 : decode b_Mo_c 27 = .ok (.lload_n 3, 1) := by decide +kernel
theorem d_Mo_c24_28 : decode b_Mo_c 28 = .ok (.lreturn, 1) := by decide +kernel
set_option maxHeartbeats 4000000 in
set_option maxRecDepth 100000 in
theorem c_Mo_c24 (l : Launch) (D : va_G) (cB cL : ClassId) (mo rs ex xd li bo cu cd : Nat) (co : Int) (rt bt : List Int) (V C : Int) (sz : Int) (hsz : 0 ≤ sz ∧ sz ≤ 9223372036854775807) : Ct l y_Mo_c (ws_Mo_c) 1 (AM mo rs ex xd li bo cu cd) [.ref mo, .long (lz sz)] (MW D cB cL mo rs ex xd li bo cu cd co 24 (-149) rt bt V C) (zR (some (.long (lz (if 8388607 < sz then 2 ^ 23 + sz % 2 ^ 23 else sz % 2 ^ 23)))) (MW D cB cL mo rs ex xd li bo cu cd co 24 (-149) rt bt V C)) := by
  refine z_body zSt_MW (by decide +kernel) rfl (Nat.le_of_ble_eq_true rfl) ?_
  intro p e s m args below meth c ls hx hb hml hr hlk hts0 hown hpre0 H locs hpre hS hl
  have hts : ∀ w ∈ TBL, w.before args s = true := fun w hw => hts0 w (List.mem_cons_of_mem _ hw)
  have hl : lv_has ls 5 [(0, .ref mo), (1, .long (lz sz))] := hl
  have hw := hpre
  refine lv_lload_n hx hb d_Mo_c24_0 rfl (lv_at hl 1 rfl) ?_
  refine lv_aload_n hx hb d_Mo_c24_1 rfl (lv_at hl 0 rfl) ?_
  have hct := c_Mo_fra24 l D cB cL mo rs ex xd li bo cu cd co rt bt V C
  have hw9 := hw
  obtain ⟨fc, nc, pp, ⟨len, used, bl, fr, fb, lm, fe, ne, pe, ⟨hK, hP, hD⟩, hrt, hbt, hE, hpe, hlm⟩, hC⟩ := hw9
  have hr1 := hrt.1
  have hr2 := hrt.2.1
  have hb1 := hbt.1
  have hb2 := hbt.2.1
  have hE1 := hE.1
  have hC1 := hC.1
  have hP : va_P D vwCl [(mo, .inr (3, [.ref rs, .int (iz len), .int (iz co), .ref ex, .int (iz 24), .int (iz (-149)), .ref li, .int (iz used), .ref bo, .int (iz bl), .ref cu])), (rs, .inl (cB, 4096, .inl (az fr))), (ex, .inr (4, [.ref xd, .int (iz ne), .int (iz pe)])), (xd, .inl (cB, 1300, .inl (az fe))), (li, .inl (cL, 160, .inr (.inl (azl lm)))), (bo, .inl (cB, 4096, .inl (az fb))), (cu, .inr (4, [.ref cd, .int (iz nc), .int (iz pp)])), (cd, .inl (cB, 1300, .inl (az fc)))] H := hP
  have hD : va_D (AM mo rs ex xd li bo cu cd) [(mo, .inr (3, [.ref rs, .int (iz len), .int (iz co), .ref ex, .int (iz 24), .int (iz (-149)), .ref li, .int (iz used), .ref bo, .int (iz bl), .ref cu])), (rs, .inl (cB, 4096, .inl (az fr))), (ex, .inr (4, [.ref xd, .int (iz ne), .int (iz pe)])), (xd, .inl (cB, 1300, .inl (az fe))), (li, .inl (cL, 160, .inr (.inl (azl lm)))), (bo, .inl (cB, 4096, .inl (az fb))), (cu, .inr (4, [.ref cd, .int (iz nc), .int (iz pp)])), (cd, .inl (cB, 1300, .inl (az fc)))] := hD
  refine z_go (va_runV (As := []) (rest := [.long (lz sz)]) ⟨hx, hb, hml, hown, hts⟩ hct.2 (z_cwV hts w_Mo_fraction tw_482 (by decide)) (z_preV hct.1 (va_recv hK hP (ci := 3) (q0 := 0) rfl rfl) hw) rfl rfl hl.1 rfl (lv_room (Nat.le_of_ble_eq_true rfl)) d_Mo_c24_2 ⟨Nat.zero_le _, Nat.zero_le _⟩) hS (fun _ h9 => h9) (fun v9 t9 H locs hv9 hp9 hz9 hk9 hS => ?_)
  obtain ⟨rfl, hw⟩ := hp9
  have hw := MW.moved hv9.symm hw
  refine W.eq (g2 := F0 m 5 ls [.long (lz 8388607), .long (lz sz)]) rfl ?_
  refine z_landm hx hb 23 d_Mo_c24_5 (by decide) rfl ⟨by omega, by omega⟩ ?_
  refine lv_lstore_n hx hb d_Mo_c24_6 rfl hl (by decide) rfl (fun ls hl => ?_)
  have hl : lv_has ls 5 [(3, .long (lz (sz % 2 ^ 23))), (0, .ref mo), (1, .long (lz sz))] := hl
  refine lv_lload_n hx hb d_Mo_c24_7 rfl (lv_at hl 2 rfl) ?_
  refine lv_aload_n hx hb d_Mo_c24_8 rfl (lv_at hl 1 rfl) ?_
  have hct := c_Mo_fra24 l D cB cL mo rs ex xd li bo cu cd co rt bt V C
  have hw9 := hw
  obtain ⟨fc, nc, pp, ⟨len, used, bl, fr, fb, lm, fe, ne, pe, ⟨hK, hP, hD⟩, hrt, hbt, hE, hpe, hlm⟩, hC⟩ := hw9
  have hr1 := hrt.1
  have hr2 := hrt.2.1
  have hb1 := hbt.1
  have hb2 := hbt.2.1
  have hE1 := hE.1
  have hC1 := hC.1
  have hP : va_P D vwCl [(mo, .inr (3, [.ref rs, .int (iz len), .int (iz co), .ref ex, .int (iz 24), .int (iz (-149)), .ref li, .int (iz used), .ref bo, .int (iz bl), .ref cu])), (rs, .inl (cB, 4096, .inl (az fr))), (ex, .inr (4, [.ref xd, .int (iz ne), .int (iz pe)])), (xd, .inl (cB, 1300, .inl (az fe))), (li, .inl (cL, 160, .inr (.inl (azl lm)))), (bo, .inl (cB, 4096, .inl (az fb))), (cu, .inr (4, [.ref cd, .int (iz nc), .int (iz pp)])), (cd, .inl (cB, 1300, .inl (az fc)))] H := hP
  have hD : va_D (AM mo rs ex xd li bo cu cd) [(mo, .inr (3, [.ref rs, .int (iz len), .int (iz co), .ref ex, .int (iz 24), .int (iz (-149)), .ref li, .int (iz used), .ref bo, .int (iz bl), .ref cu])), (rs, .inl (cB, 4096, .inl (az fr))), (ex, .inr (4, [.ref xd, .int (iz ne), .int (iz pe)])), (xd, .inl (cB, 1300, .inl (az fe))), (li, .inl (cL, 160, .inr (.inl (azl lm)))), (bo, .inl (cB, 4096, .inl (az fb))), (cu, .inr (4, [.ref cd, .int (iz nc), .int (iz pp)])), (cd, .inl (cB, 1300, .inl (az fc)))] := hD
  refine z_go (va_runV (As := []) (rest := [.long (lz sz)]) ⟨hx, hb, hml, hown, hts⟩ hct.2 (z_cwV hts w_Mo_fraction tw_482 (by decide)) (z_preV hct.1 (va_recv hK hP (ci := 3) (q0 := 0) rfl rfl) hw) rfl rfl hl.1 rfl (lv_room (Nat.le_of_ble_eq_true rfl)) d_Mo_c24_9 ⟨Nat.zero_le _, Nat.zero_le _⟩) hS (fun _ h9 => h9) (fun v9 t9 H locs hv9 hp9 hz9 hk9 hS => ?_)
  obtain ⟨rfl, hw⟩ := hp9
  have hw := MW.moved hv9.symm hw
  refine W.eq (g2 := F0 m 12 ls [.long (lz 8388607), .long (lz sz)]) rfl ?_
  refine z_lif_le (tgt := 27) hx hb d_Mo_c24_12 d_Mo_c24_13 rfl ⟨by omega, by omega⟩ ⟨by omega, by omega⟩ (fun hc12 => ?_) (fun hc12 => ?_)
  · refine lv_lload_n hx hb d_Mo_c24_27 rfl (lv_at hl 0 rfl) ?_
    exact z_lret hx hb hr hlk hS (zR_st zSt_MW) ⟨by first | rw [if_pos hc12] | rw [if_neg (by omega)], hw⟩ d_Mo_c24_28
  · refine lv_lload_n hx hb d_Mo_c24_16 rfl (lv_at hl 0 rfl) ?_
    refine lv_aload_n hx hb d_Mo_c24_17 rfl (lv_at hl 1 rfl) ?_
    have hct := c_Mo_fra24 l D cB cL mo rs ex xd li bo cu cd co rt bt V C
    have hw9 := hw
    obtain ⟨fc, nc, pp, ⟨len, used, bl, fr, fb, lm, fe, ne, pe, ⟨hK, hP, hD⟩, hrt, hbt, hE, hpe, hlm⟩, hC⟩ := hw9
    have hr1 := hrt.1
    have hr2 := hrt.2.1
    have hb1 := hbt.1
    have hb2 := hbt.2.1
    have hE1 := hE.1
    have hC1 := hC.1
    have hP : va_P D vwCl [(mo, .inr (3, [.ref rs, .int (iz len), .int (iz co), .ref ex, .int (iz 24), .int (iz (-149)), .ref li, .int (iz used), .ref bo, .int (iz bl), .ref cu])), (rs, .inl (cB, 4096, .inl (az fr))), (ex, .inr (4, [.ref xd, .int (iz ne), .int (iz pe)])), (xd, .inl (cB, 1300, .inl (az fe))), (li, .inl (cL, 160, .inr (.inl (azl lm)))), (bo, .inl (cB, 4096, .inl (az fb))), (cu, .inr (4, [.ref cd, .int (iz nc), .int (iz pp)])), (cd, .inl (cB, 1300, .inl (az fc)))] H := hP
    have hD : va_D (AM mo rs ex xd li bo cu cd) [(mo, .inr (3, [.ref rs, .int (iz len), .int (iz co), .ref ex, .int (iz 24), .int (iz (-149)), .ref li, .int (iz used), .ref bo, .int (iz bl), .ref cu])), (rs, .inl (cB, 4096, .inl (az fr))), (ex, .inr (4, [.ref xd, .int (iz ne), .int (iz pe)])), (xd, .inl (cB, 1300, .inl (az fe))), (li, .inl (cL, 160, .inr (.inl (azl lm)))), (bo, .inl (cB, 4096, .inl (az fb))), (cu, .inr (4, [.ref cd, .int (iz nc), .int (iz pp)])), (cd, .inl (cB, 1300, .inl (az fc)))] := hD
    refine z_go (va_runV (As := []) (rest := [.long (lz (sz % 2 ^ 23))]) ⟨hx, hb, hml, hown, hts⟩ hct.2 (z_cwV hts w_Mo_fraction tw_482 (by decide)) (z_preV hct.1 (va_recv hK hP (ci := 3) (q0 := 0) rfl rfl) hw) rfl rfl hl.1 rfl (lv_room (Nat.le_of_ble_eq_true rfl)) d_Mo_c24_18 ⟨Nat.zero_le _, Nat.zero_le _⟩) hS (fun _ h9 => h9) (fun v9 t9 H locs hv9 hp9 hz9 hk9 hS => ?_)
    obtain ⟨rfl, hw⟩ := hp9
    have hw := MW.moved hv9.symm hw
    refine W.eq (g2 := F0 m 21 ls [.long (lz 8388607), .long (lz (sz % 2 ^ 23))]) rfl ?_
    refine lv_lconst (v := lz 1) hx hb d_Mo_c24_21 (by decide) ?_
    refine z_ladd hx hb d_Mo_c24_22 ?_
    refine lv_lor hx hb d_Mo_c24_23 ?_
    refine z_topl (y := lz (2 ^ 23 + sz % 2 ^ 23)) (lor_c 23 (by decide) sz) ?_
    refine lv_goto (tgt := 28) hx hb d_Mo_c24_24 rfl ?_
    exact z_lret hx hb hr hlk hS (zR_st zSt_MW) ⟨by first | rw [if_pos hc12] | rw [if_neg (by omega)], hw⟩ d_Mo_c24_28
theorem d_Mo_q24_0 : decode b_Mo_q 0 = .ok (.lload_n 1, 1) := by decide +kernel
theorem d_Mo_q24_1 : decode b_Mo_q 1 = .ok (.aload_n 0, 1) := by decide +kernel
theorem d_Mo_q24_2 : decode b_Mo_q 2 = .ok (.getfield 43, 3) := by decide +kernel
theorem d_Mo_q24_5 : decode b_Mo_q 5 = .ok (.iconst 1, 1) := by decide +kernel
theorem d_Mo_q24_6 : decode b_Mo_q 6 = .ok (.isub, 1) := by decide +kernel
theorem d_Mo_q24_7 : decode b_Mo_q 7 = .ok (.lushr, 1) := by decide +kernel
theorem d_Mo_q24_8 : decode b_Mo_q 8 = .ok (.lstore_n 3, 1) := by decide +kernel
theorem d_Mo_q24_9 : decode b_Mo_q 9 = .ok (.lload_n 3, 1) := by decide +kernel
theorem d_Mo_q24_10 : decode b_Mo_q 10 = .ok (.lconst 0, 1) := by decide +kernel
theorem d_Mo_q24_11 : decode b_Mo_q 11 = .ok (.lcmp, 1) := by decide +kernel
theorem d_Mo_q24_12 : decode b_Mo_q 12 = .ok (.ifCond .ne (10), 3) := by decide +kernel
theorem d_Mo_q24_15 : decode b_Mo_q 15 = .ok (.aload_n 0, 1) := by decide +kernel
theorem d_Mo_q24_16 : decode b_Mo_q 16 = .ok (.getfield 46, 3) := by decide +kernel
theorem d_Mo_q24_19 : decode b_Mo_q 19 = .ok (.goto (12), 3) := by decide +kernel
theorem d_Mo_q24_22 : decode b_Mo_q 22 = .ok (.aload_n 0, 1) := by decide +kernel
theorem d_Mo_q24_23 : decode b_Mo_q 23 = .ok (.getfield 46, 3) := by decide +kernel
theorem d_Mo_q24_26 : decode b_Mo_q 26 = .ok (.lload_n 3, 1) := by decide +kernel
theorem d_Mo_q24_27 : decode b_Mo_q 27 = .ok (.l2i, 1) := by decide +kernel
theorem d_Mo_q24_28 : decode b_Mo_q 28 = .ok (.iadd, 1) := by decide +kernel
theorem d_Mo_q24_29 : decode b_Mo_q 29 = .ok (.iconst 1, 1) := by decide +kernel
theorem d_Mo_q24_30 : decode b_Mo_q 30 = .ok (.isub, 1) := by decide +kernel
theorem d_Mo_q24_31 : decode b_Mo_q 31 = .ok (.ireturn, 1) := by decide +kernel
set_option maxHeartbeats 4000000 in
set_option maxRecDepth 100000 in
theorem c_Mo_q24 (l : Launch) (D : va_G) (cB cL : ClassId) (mo rs ex xd li bo cu cd : Nat) (co : Int) (rt bt : List Int) (V C : Int) (sz : Int) (hsz : 0 ≤ sz ∧ sz ≤ 9223372036854775807) : Ct l y_Mo_q (ws_Mo_q) 0 (AM mo rs ex xd li bo cu cd) [.ref mo, .long (lz sz)] (MW D cB cL mo rs ex xd li bo cu cd co 24 (-149) rt bt V C) (zR (some (.int (iz (if sz / 2 ^ 23 = 0 then -149 else -149 + sz / 2 ^ 23 - 1)))) (MW D cB cL mo rs ex xd li bo cu cd co 24 (-149) rt bt V C)) := by
  refine z_body zSt_MW (by decide +kernel) rfl (Nat.le_of_ble_eq_true rfl) ?_
  intro p e s m args below meth c ls hx hb hml hr hlk hts0 hown hpre0 H locs hpre hS hl
  have hts : ∀ w ∈ TBL, w.before args s = true := fun w hw => hts0 w (List.mem_cons_of_mem _ hw)
  have hl : lv_has ls 5 [(0, .ref mo), (1, .long (lz sz))] := hl
  have hw := hpre
  refine lv_lload_n hx hb d_Mo_q24_0 rfl (lv_at hl 1 rfl) ?_
  refine lv_aload_n hx hb d_Mo_q24_1 rfl (lv_at hl 0 rfl) ?_
  have hw9 := hw
  obtain ⟨fc, nc, pp, ⟨len, used, bl, fr, fb, lm, fe, ne, pe, ⟨hK, hP, hD⟩, hrt, hbt, hE, hpe, hlm⟩, hC⟩ := hw9
  have hr1 := hrt.1
  have hr2 := hrt.2.1
  have hb1 := hbt.1
  have hb2 := hbt.2.1
  have hE1 := hE.1
  have hC1 := hC.1
  have hP : va_P D vwCl [(mo, .inr (3, [.ref rs, .int (iz len), .int (iz co), .ref ex, .int (iz 24), .int (iz (-149)), .ref li, .int (iz used), .ref bo, .int (iz bl), .ref cu])), (rs, .inl (cB, 4096, .inl (az fr))), (ex, .inr (4, [.ref xd, .int (iz ne), .int (iz pe)])), (xd, .inl (cB, 1300, .inl (az fe))), (li, .inl (cL, 160, .inr (.inl (azl lm)))), (bo, .inl (cB, 4096, .inl (az fb))), (cu, .inr (4, [.ref cd, .int (iz nc), .int (iz pp)])), (cd, .inl (cB, 1300, .inl (az fc)))] H := hP
  have hD : va_D (AM mo rs ex xd li bo cu cd) [(mo, .inr (3, [.ref rs, .int (iz len), .int (iz co), .ref ex, .int (iz 24), .int (iz (-149)), .ref li, .int (iz used), .ref bo, .int (iz bl), .ref cu])), (rs, .inl (cB, 4096, .inl (az fr))), (ex, .inr (4, [.ref xd, .int (iz ne), .int (iz pe)])), (xd, .inl (cB, 1300, .inl (az fe))), (li, .inl (cL, 160, .inr (.inl (azl lm)))), (bo, .inl (cB, 4096, .inl (az fb))), (cu, .inr (4, [.ref cd, .int (iz nc), .int (iz pp)])), (cd, .inl (cB, 1300, .inl (az fc)))] := hD
  refine va_get (D := D) (ci := 3) (v := .int (iz 24)) (C := R_3) (T := T_3) (N := 11) hx hb hts in_3 hown hK hP 0 rfl rfl 4 (by decide) (hts _ tw_396) (fun _ h9 => h9) rfl d_Mo_q24_2 ?_
  refine lv_iconst (v := iz 1) hx hb d_Mo_q24_5 rfl ?_
  refine z_isub hx hb d_Mo_q24_6 ?_
  refine z_lushr hx hb 23 d_Mo_q24_7 rfl (by decide) ⟨by omega, by omega⟩ ?_
  have hsq : 0 ≤ sz / 2 ^ 23 ∧ sz / 2 ^ 23 ≤ sz := by omega
  refine lv_lstore_n hx hb d_Mo_q24_8 rfl hl (by decide) rfl (fun ls hl => ?_)
  have hl : lv_has ls 5 [(3, .long (lz (sz / 2 ^ 23))), (0, .ref mo), (1, .long (lz sz))] := hl
  refine lv_lload_n hx hb d_Mo_q24_9 rfl (lv_at hl 0 rfl) ?_
  refine lv_lconst (v := lz 0) hx hb d_Mo_q24_10 (by decide) ?_
  refine z_lif_ne (tgt := 22) hx hb d_Mo_q24_11 d_Mo_q24_12 rfl ⟨by omega, by omega⟩ ⟨by omega, by omega⟩ (fun hc11 => ?_) (fun hc11 => ?_)
  · refine lv_aload_n hx hb d_Mo_q24_22 rfl (lv_at hl 1 rfl) ?_
    refine va_get (D := D) (ci := 3) (v := .int (iz (-149))) (C := R_3) (T := T_3) (N := 11) hx hb hts in_3 hown hK hP 0 rfl rfl 5 (by decide) (hts _ tw_397) (fun _ h9 => h9) rfl d_Mo_q24_23 ?_
    refine lv_lload_n hx hb d_Mo_q24_26 rfl (lv_at hl 0 rfl) ?_
    refine z_l2i hx hb d_Mo_q24_27 ?_
    refine z_iadd hx hb d_Mo_q24_28 ?_
    refine lv_iconst (v := iz 1) hx hb d_Mo_q24_29 rfl ?_
    refine z_isub hx hb d_Mo_q24_30 ?_
    exact z_iret hx hb hr hlk hS (zR_st zSt_MW) ⟨by first | rw [if_pos hc11] | rw [if_neg hc11], hw⟩ d_Mo_q24_31
  · refine lv_aload_n hx hb d_Mo_q24_15 rfl (lv_at hl 1 rfl) ?_
    refine va_get (D := D) (ci := 3) (v := .int (iz (-149))) (C := R_3) (T := T_3) (N := 11) hx hb hts in_3 hown hK hP 0 rfl rfl 5 (by decide) (hts _ tw_397) (fun _ h9 => h9) rfl d_Mo_q24_16 ?_
    refine lv_goto (tgt := 31) hx hb d_Mo_q24_19 rfl ?_
    exact z_iret hx hb hr hlk hS (zR_st zSt_MW) ⟨by first | rw [if_pos hc11] | rw [if_neg hc11], hw⟩ d_Mo_q24_31
