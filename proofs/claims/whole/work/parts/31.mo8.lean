theorem d_Mo_times_0 : decode b_Mo_times 0 = .ok (.lconst 0, 1) := by decide +kernel
theorem d_Mo_times_1 : decode b_Mo_times 1 = .ok (.lstore_n 3, 1) := by decide +kernel
theorem d_Mo_times_2 : decode b_Mo_times 2 = .ok (.iconst 0, 1) := by decide +kernel
theorem d_Mo_times_3 : decode b_Mo_times 3 = .ok (.istore 5, 2) := by decide +kernel
theorem d_Mo_times_5 : decode b_Mo_times 5 = .ok (.iload 5, 2) := by decide +kernel
theorem d_Mo_times_7 : decode b_Mo_times 7 = .ok (.aload_n 0, 1) := by decide +kernel
theorem d_Mo_times_8 : decode b_Mo_times 8 = .ok (.getfield 64, 3) := by decide +kernel
theorem d_Mo_times_11 : decode b_Mo_times 11 = .ok (.if_icmp .ge (39), 3) := by decide +kernel
theorem d_Mo_times_14 : decode b_Mo_times 14 = .ok (.lload_n 3, 1) := by decide +kernel
theorem d_Mo_times_15 : decode b_Mo_times 15 = .ok (.aload_n 0, 1) := by decide +kernel
theorem d_Mo_times_16 : decode b_Mo_times 16 = .ok (.getfield 20, 3) := by decide +kernel
theorem d_Mo_times_19 : decode b_Mo_times 19 = .ok (.iload 5, 2) := by decide +kernel
theorem d_Mo_times_21 : decode b_Mo_times 21 = .ok (.laload, 1) := by decide +kernel
theorem d_Mo_times_22 : decode b_Mo_times 22 = .ok (.lload_n 1, 1) := by decide +kernel
theorem d_Mo_times_23 : decode b_Mo_times 23 = .ok (.lmul, 1) := by decide +kernel
theorem d_Mo_times_24 : decode b_Mo_times 24 = .ok (.ladd, 1) := by decide +kernel
theorem d_Mo_times_25 : decode b_Mo_times 25 = .ok (.lstore_n 3, 1) := by decide +kernel
theorem d_Mo_times_26 : decode b_Mo_times 26 = .ok (.aload_n 0, 1) := by decide +kernel
theorem d_Mo_times_27 : decode b_Mo_times 27 = .ok (.getfield 20, 3) := by decide +kernel
theorem d_Mo_times_30 : decode b_Mo_times 30 = .ok (.iload 5, 2) := by decide +kernel
theorem d_Mo_times_32 : decode b_Mo_times 32 = .ok (.lload_n 3, 1) := by decide +kernel
theorem d_Mo_times_33 : decode b_Mo_times 33 = .ok (.ldc2_w 67, 3) := by decide +kernel
theorem d_Mo_times_36 : decode b_Mo_times 36 = .ok (.lrem, 1) := by decide +kernel
theorem d_Mo_times_37 : decode b_Mo_times 37 = .ok (.lastore, 1) := by decide +kernel
theorem d_Mo_times_38 : decode b_Mo_times 38 = .ok (.lload_n 3, 1) := by decide +kernel
theorem d_Mo_times_39 : decode b_Mo_times 39 = .ok (.ldc2_w 67, 3) := by decide +kernel
theorem d_Mo_times_42 : decode b_Mo_times 42 = .ok (.ldiv, 1) := by decide +kernel
theorem d_Mo_times_43 : decode b_Mo_times 43 = .ok (.lstore_n 3, 1) := by decide +kernel
theorem d_Mo_times_44 : decode b_Mo_times 44 = .ok (.iinc 5 (1), 3) := by decide +kernel
theorem d_Mo_times_47 : decode b_Mo_times 47 = .ok (.goto (-42), 3) := by decide +kernel
theorem d_Mo_times_50 : decode b_Mo_times 50 = .ok (.lload_n 3, 1) := by decide +kernel
theorem d_Mo_times_51 : decode b_Mo_times 51 = .ok (.lconst 0, 1) := by decide +kernel
theorem d_Mo_times_52 : decode b_Mo_times 52 = .ok (.lcmp, 1) := by decide +kernel
theorem d_Mo_times_53 : decode b_Mo_times 53 = .ok (.ifCond .le (23), 3) := by decide +kernel
theorem d_Mo_times_56 : decode b_Mo_times 56 = .ok (.aload_n 0, 1) := by decide +kernel
theorem d_Mo_times_57 : decode b_Mo_times 57 = .ok (.getfield 20, 3) := by decide +kernel
theorem d_Mo_times_60 : decode b_Mo_times 60 = .ok (.aload_n 0, 1) := by decide +kernel
theorem d_Mo_times_61 : decode b_Mo_times 61 = .ok (.getfield 64, 3) := by decide +kernel
theorem d_Mo_times_64 : decode b_Mo_times 64 = .ok (.lload_n 3, 1) := by decide +kernel
theorem d_Mo_times_65 : decode b_Mo_times 65 = .ok (.lastore, 1) := by decide +kernel
theorem d_Mo_times_66 : decode b_Mo_times 66 = .ok (.aload_n 0, 1) := by decide +kernel
theorem d_Mo_times_67 : decode b_Mo_times 67 = .ok (.dup, 1) := by decide +kernel
theorem d_Mo_times_68 : decode b_Mo_times 68 = .ok (.getfield 64, 3) := by decide +kernel
theorem d_Mo_times_71 : decode b_Mo_times 71 = .ok (.iconst 1, 1) := by decide +kernel
theorem d_Mo_times_72 : decode b_Mo_times 72 = .ok (.iadd, 1) := by decide +kernel
theorem d_Mo_times_73 : decode b_Mo_times 73 = .ok (.putfield 64, 3) := by decide +kernel
theorem d_Mo_times_76 : decode b_Mo_times 76 = .ok (.return_, 1) := by decide +kernel
set_option maxHeartbeats 4000000 in
set_option maxRecDepth 100000 in
theorem c_Mo_times (l : Launch) (D : va_G) (cB cL : ClassId) (mo rs ex xd li bo cu cd : Nat) (co bi le : Int) (rt bt : List Int) (V C : Int) (L bb : Int) (hbb : 0 < bb ∧ bb ≤ 536870912) (hLb : bb * L < 1000000000 ^ 160) : Ct l y_Mo_times (ws_Mo_times) 0 (AM mo rs ex xd li bo cu cd) [.ref mo, .long (lz bb)] (MWL D cB cL mo rs ex xd li bo cu cd co bi le rt bt V C L) (zR none (MWL D cB cL mo rs ex xd li bo cu cd co bi le rt bt V C (bb * L))) := by
  refine z_body zSt_MWL (by decide +kernel) rfl (Nat.le_of_ble_eq_true rfl) ?_
  intro p e s m args below meth c ls hx hb hml hr hlk hts0 hown hpre0 H locs hpre hS hl
  have hts : ∀ w ∈ TBL, w.before args s = true := fun w hw => hts0 w (List.mem_cons_of_mem _ hw)
  have hl : lv_has ls 6 [(0, .ref mo), (1, .long (lz bb))] := hl
  have hw := hpre
  have hw9 := hw
  obtain ⟨len, used, bl, fr, fb, lm, fe, ne, pe, fc, nc, pp, ⟨hK, hP, hD⟩, hrt, hbt, hE, hpe, hC, hL⟩ := hw9
  have hL1 := hL.1
  have L5 : ∀ (N5 : Nat) (h : Int → Int) (i : Int) (cy : Int) (H : Heap) (locs : List Loc) (ls : Array Slot), va_P D vwCl [(mo, .inr (3, [.ref rs, .int (iz len), .int (iz co), .ref ex, .int (iz bi), .int (iz le), .ref li, .int (iz used), .ref bo, .int (iz bl), .ref cu])), (rs, .inl (cB, 4096, .inl (az fr))), (ex, .inr (4, [.ref xd, .int (iz ne), .int (iz pe)])), (xd, .inl (cB, 1300, .inl (az fe))), (li, .inl (cL, 160, .inr (.inl (azl h)))), (bo, .inl (cB, 4096, .inl (az fb))), (cu, .inr (4, [.ref cd, .int (iz nc), .int (iz pp)])), (cd, .inl (cB, 1300, .inl (az fc)))] H → va_D (AM mo rs ex xd li bo cu cd) [(mo, .inr (3, [.ref rs, .int (iz len), .int (iz co), .ref ex, .int (iz bi), .int (iz le), .ref li, .int (iz used), .ref bo, .int (iz bl), .ref cu])), (rs, .inl (cB, 4096, .inl (az fr))), (ex, .inr (4, [.ref xd, .int (iz ne), .int (iz pe)])), (xd, .inl (cB, 1300, .inl (az fe))), (li, .inl (cL, 160, .inr (.inl (azl h)))), (bo, .inl (cB, 4096, .inl (az fb))), (cu, .inr (4, [.ref cd, .int (iz nc), .int (iz pp)])), (cd, .inl (cB, 1300, .inl (az fc)))] → va_S (AM mo rs ex xd li bo cu cd) s.heap H locs → lv_has ls 6 [(0, .ref mo), (1, .long (lz bb)), (3, .long (lz cy)), (5, .int (iz i))] → (TimI lm h bb i cy) → (i ≤ used) → (used - i).toNat < N5 → W p l e (zrm 0) s m args below meth c H locs 0 0 (MQ below (zQ (AM mo rs ex xd li bo cu cd) (zR none (MWL D cB cL mo rs ex xd li bo cu cd co bi le rt bt V C (bb * L)))) args s 0 0 (AM mo rs ex xd li bo cu cd)) (F0 m 5 ls []) := by
    intro N5
    induction N5 with
    | zero => intro h i cy H locs ls hP hD hS hl hT hiu hN5; exact absurd hN5 (Nat.not_lt_zero _)
    | succ N5 ih5 =>
      intro h i cy H locs ls hP hD hS hl hT hiu hN5
      have hT1 := hT.1
      have hT2 := hT.2.1
      have hTb := hT.b hbb.2
      refine lv_iload hx hb d_Mo_times_5 (lv_at hl 3 rfl) ?_
      refine lv_aload_n hx hb d_Mo_times_7 rfl (lv_at hl 0 rfl) ?_
      refine va_get (D := D) (ci := 3) (v := .int (iz used)) (C := R_3) (T := T_3) (N := 11) hx hb hts in_3 hown hK hP 0 rfl rfl 7 (by decide) (hts _ tw_399) (fun _ h9 => h9) rfl d_Mo_times_8 ?_
      refine z_icmp_ge (tgt := 50) hx hb d_Mo_times_11 rfl ⟨by omega, by omega⟩ ⟨by omega, by omega⟩ (fun hc11 => ?_) (fun hc11 => ?_)
      · have e8 : i = used := by omega
        rw [e8] at hT
        refine lv_lload_n hx hb d_Mo_times_50 rfl (lv_at hl 2 rfl) ?_
        refine lv_lconst (v := lz 0) hx hb d_Mo_times_51 (by decide) ?_
        refine z_lif_le (tgt := 76) hx hb d_Mo_times_52 d_Mo_times_53 rfl ⟨by omega, by omega⟩ ⟨by omega, by omega⟩ (fun hc52 => ?_) (fun hc52 => ?_)
        · exact z_vret hx hb hr hlk hS (zR_st zSt_MWL) (by
              first
                | exact ⟨rfl, _, _, _, _, _, _, _, _, _, _, _, _, ⟨hK, hP, hD⟩, hrt, hbt, hE, hpe, hC, (by rw [show cy = 0 by omega] at hT; exact hT.stop0 hL)⟩
                | exact ⟨rfl, _, _, _, _, _, _, _, _, _, _, _, _, ⟨hK, hP, hD⟩, hrt, hbt, hE, hpe, hC, (hT.stop1 hL (by omega) hu8)⟩) d_Mo_times_76
        · have hu8 := TimI.lt hL hT (by omega) hLb
          refine lv_aload_n hx hb d_Mo_times_56 rfl (lv_at hl 0 rfl) ?_
          refine va_get (D := D) (ci := 3) (v := .ref li) (C := R_3) (T := T_3) (N := 11) hx hb hts in_3 hown hK hP 0 rfl rfl 6 (by decide) (hts _ tw_398) (fun _ h9 => h9) rfl d_Mo_times_57 ?_
          refine lv_aload_n hx hb d_Mo_times_60 rfl (lv_at hl 0 rfl) ?_
          refine va_get (D := D) (ci := 3) (v := .int (iz used)) (C := R_3) (T := T_3) (N := 11) hx hb hts in_3 hown hK hP 0 rfl rfl 7 (by decide) (hts _ tw_399) (fun _ h9 => h9) rfl d_Mo_times_61 ?_
          refine lv_lload_n hx hb d_Mo_times_64 rfl (lv_at hl 2 rfl) ?_
          refine z_last hx hb hK hP hD hS 4 1 rfl rfl (by omega) (by omega) (by decide) d_Mo_times_65 (fun H locs hP hD hS => ?_)
          have hP : va_P D vwCl [(mo, .inr (3, [.ref rs, .int (iz len), .int (iz co), .ref ex, .int (iz bi), .int (iz le), .ref li, .int (iz used), .ref bo, .int (iz bl), .ref cu])), (rs, .inl (cB, 4096, .inl (az fr))), (ex, .inr (4, [.ref xd, .int (iz ne), .int (iz pe)])), (xd, .inl (cB, 1300, .inl (az fe))), (li, .inl (cL, 160, .inr (.inl (azl (up h used cy))))), (bo, .inl (cB, 4096, .inl (az fb))), (cu, .inr (4, [.ref cd, .int (iz nc), .int (iz pp)])), (cd, .inl (cB, 1300, .inl (az fc)))] H := hP
          have hD : va_D (AM mo rs ex xd li bo cu cd) [(mo, .inr (3, [.ref rs, .int (iz len), .int (iz co), .ref ex, .int (iz bi), .int (iz le), .ref li, .int (iz used), .ref bo, .int (iz bl), .ref cu])), (rs, .inl (cB, 4096, .inl (az fr))), (ex, .inr (4, [.ref xd, .int (iz ne), .int (iz pe)])), (xd, .inl (cB, 1300, .inl (az fe))), (li, .inl (cL, 160, .inr (.inl (azl (up h used cy))))), (bo, .inl (cB, 4096, .inl (az fb))), (cu, .inr (4, [.ref cd, .int (iz nc), .int (iz pp)])), (cd, .inl (cB, 1300, .inl (az fc)))] := hD
          refine lv_aload_n hx hb d_Mo_times_66 rfl (lv_at hl 0 rfl) ?_
          refine lv_dup hx hb d_Mo_times_67 rfl ?_
          refine va_get (D := D) (ci := 3) (v := .int (iz used)) (C := R_3) (T := T_3) (N := 11) hx hb hts in_3 hown hK hP 0 rfl rfl 7 (by decide) (hts _ tw_399) (fun _ h9 => h9) rfl d_Mo_times_68 ?_
          refine lv_iconst (v := iz 1) hx hb d_Mo_times_71 rfl ?_
          refine z_iadd hx hb d_Mo_times_72 ?_
          refine va_put (D := D) (ci := 3) (v := .int (iz (used + 1))) (ty := .int) (C := R_3) (T := T_3) (N := 11) hx hb hts in_3 ty_3 tyok_3 nm_3 hown hK hP hD hS 0 rfl rfl 7 (by decide) (hts _ tw_399) (fun _ h9 => h9) rfl (by decide +kernel) rfl rfl (Nat.le_of_ble_eq_true rfl) d_Mo_times_73 (fun H locs hP hD hS => ?_)
          have hP : va_P D vwCl [(mo, .inr (3, [.ref rs, .int (iz len), .int (iz co), .ref ex, .int (iz bi), .int (iz le), .ref li, .int (iz (used + 1)), .ref bo, .int (iz bl), .ref cu])), (rs, .inl (cB, 4096, .inl (az fr))), (ex, .inr (4, [.ref xd, .int (iz ne), .int (iz pe)])), (xd, .inl (cB, 1300, .inl (az fe))), (li, .inl (cL, 160, .inr (.inl (azl (up h used cy))))), (bo, .inl (cB, 4096, .inl (az fb))), (cu, .inr (4, [.ref cd, .int (iz nc), .int (iz pp)])), (cd, .inl (cB, 1300, .inl (az fc)))] H := hP
          have hD : va_D (AM mo rs ex xd li bo cu cd) [(mo, .inr (3, [.ref rs, .int (iz len), .int (iz co), .ref ex, .int (iz bi), .int (iz le), .ref li, .int (iz (used + 1)), .ref bo, .int (iz bl), .ref cu])), (rs, .inl (cB, 4096, .inl (az fr))), (ex, .inr (4, [.ref xd, .int (iz ne), .int (iz pe)])), (xd, .inl (cB, 1300, .inl (az fe))), (li, .inl (cL, 160, .inr (.inl (azl (up h used cy))))), (bo, .inl (cB, 4096, .inl (az fb))), (cu, .inr (4, [.ref cd, .int (iz nc), .int (iz pp)])), (cd, .inl (cB, 1300, .inl (az fc)))] := hD
          exact z_vret hx hb hr hlk hS (zR_st zSt_MWL) (by
              first
                | exact ⟨rfl, _, _, _, _, _, _, _, _, _, _, _, _, ⟨hK, hP, hD⟩, hrt, hbt, hE, hpe, hC, (by rw [show cy = 0 by omega] at hT; exact hT.stop0 hL)⟩
                | exact ⟨rfl, _, _, _, _, _, _, _, _, _, _, _, _, ⟨hK, hP, hD⟩, hrt, hbt, hE, hpe, hC, (hT.stop1 hL (by omega) hu8)⟩) d_Mo_times_76
      · refine lv_lload_n hx hb d_Mo_times_14 rfl (lv_at hl 2 rfl) ?_
        refine lv_aload_n hx hb d_Mo_times_15 rfl (lv_at hl 0 rfl) ?_
        refine va_get (D := D) (ci := 3) (v := .ref li) (C := R_3) (T := T_3) (N := 11) hx hb hts in_3 hown hK hP 0 rfl rfl 6 (by decide) (hts _ tw_398) (fun _ h9 => h9) rfl d_Mo_times_16 ?_
        refine lv_iload hx hb d_Mo_times_19 (lv_at hl 3 rfl) ?_
        refine z_lald hx hb hK hP 4 1 rfl rfl (by omega) (by omega) (by decide) d_Mo_times_21 ?_
        refine lv_lload_n hx hb d_Mo_times_22 rfl (lv_at hl 1 rfl) ?_
        refine z_lmul hx hb d_Mo_times_23 ?_
        refine z_ladd hx hb d_Mo_times_24 ?_
        refine lv_lstore_n hx hb d_Mo_times_25 rfl hl (by decide) rfl (fun ls hl => ?_)
        have hl : lv_has ls 6 [(3, .long (lz (cy + ((h i) * bb)))), (0, .ref mo), (1, .long (lz bb)), (5, .int (iz i))] := hl
        refine lv_aload_n hx hb d_Mo_times_26 rfl (lv_at hl 1 rfl) ?_
        refine va_get (D := D) (ci := 3) (v := .ref li) (C := R_3) (T := T_3) (N := 11) hx hb hts in_3 hown hK hP 0 rfl rfl 6 (by decide) (hts _ tw_398) (fun _ h9 => h9) rfl d_Mo_times_27 ?_
        refine lv_iload hx hb d_Mo_times_30 (lv_at hl 3 rfl) ?_
        refine lv_lload_n hx hb d_Mo_times_32 rfl (lv_at hl 0 rfl) ?_
        refine lv_ldc2 (v := (1000000000 : Int64)) hx hb hown (hts _ tw_494) d_Mo_times_33 ?_
        refine z_topl (y := lz (1000000000)) (by decide) ?_
        refine z_lrem hx hb d_Mo_times_36 ⟨by omega, by omega⟩ ⟨by omega, by omega⟩ ?_
        refine z_last hx hb hK hP hD hS 4 1 rfl rfl (by omega) (by omega) (by decide) d_Mo_times_37 (fun H locs hP hD hS => ?_)
        have hP : va_P D vwCl [(mo, .inr (3, [.ref rs, .int (iz len), .int (iz co), .ref ex, .int (iz bi), .int (iz le), .ref li, .int (iz used), .ref bo, .int (iz bl), .ref cu])), (rs, .inl (cB, 4096, .inl (az fr))), (ex, .inr (4, [.ref xd, .int (iz ne), .int (iz pe)])), (xd, .inl (cB, 1300, .inl (az fe))), (li, .inl (cL, 160, .inr (.inl (azl (up h i ((cy + ((h i) * bb)) % 1000000000)))))), (bo, .inl (cB, 4096, .inl (az fb))), (cu, .inr (4, [.ref cd, .int (iz nc), .int (iz pp)])), (cd, .inl (cB, 1300, .inl (az fc)))] H := hP
        have hD : va_D (AM mo rs ex xd li bo cu cd) [(mo, .inr (3, [.ref rs, .int (iz len), .int (iz co), .ref ex, .int (iz bi), .int (iz le), .ref li, .int (iz used), .ref bo, .int (iz bl), .ref cu])), (rs, .inl (cB, 4096, .inl (az fr))), (ex, .inr (4, [.ref xd, .int (iz ne), .int (iz pe)])), (xd, .inl (cB, 1300, .inl (az fe))), (li, .inl (cL, 160, .inr (.inl (azl (up h i ((cy + ((h i) * bb)) % 1000000000)))))), (bo, .inl (cB, 4096, .inl (az fb))), (cu, .inr (4, [.ref cd, .int (iz nc), .int (iz pp)])), (cd, .inl (cB, 1300, .inl (az fc)))] := hD
        refine lv_lload_n hx hb d_Mo_times_38 rfl (lv_at hl 0 rfl) ?_
        refine lv_ldc2 (v := (1000000000 : Int64)) hx hb hown (hts _ tw_494) d_Mo_times_39 ?_
        refine z_topl (y := lz (1000000000)) (by decide) ?_
        refine z_ldiv hx hb d_Mo_times_42 ⟨by omega, by omega⟩ ⟨by omega, by omega⟩ ?_
        refine lv_lstore_n hx hb d_Mo_times_43 rfl hl (by decide) rfl (fun ls hl => ?_)
        have hl : lv_has ls 6 [(3, .long (lz ((cy + ((h i) * bb)) / 1000000000))), (0, .ref mo), (1, .long (lz bb)), (5, .int (iz i))] := hl
        refine lv_iinc (k := 3) (v := (iz (i + 1))) hx hb d_Mo_times_44 hl rfl (by show iz _ + iz (1) = _; rw [← iz_add]; try rfl) (by decide) rfl (fun ls hl => ?_)
        have hl : lv_has ls 6 [(5, .int (iz (i + 1))), (3, .long (lz ((cy + ((h i) * bb)) / 1000000000))), (0, .ref mo), (1, .long (lz bb))] := hl
        refine lv_goto (tgt := 5) hx hb d_Mo_times_47 rfl ?_
        exact ih5 (up h i ((cy + h i * bb) % 1000000000)) (i + 1) ((cy + h i * bb) / 1000000000) _ _ _ hP hD hS (lv_sub hl [2, 3, 1, 0] rfl) hT.step (by omega) (by omega)
  refine lv_lconst (v := lz 0) hx hb d_Mo_times_0 (by decide) ?_
  refine lv_lstore_n hx hb d_Mo_times_1 rfl hl (by decide) rfl (fun ls hl => ?_)
  have hl : lv_has ls 6 [(3, .long (lz 0)), (0, .ref mo), (1, .long (lz bb))] := hl
  refine lv_iconst (v := iz 0) hx hb d_Mo_times_2 rfl ?_
  refine lv_istore hx hb d_Mo_times_3 hl (by decide) rfl (fun ls hl => ?_)
  have hl : lv_has ls 6 [(5, .int (iz 0)), (3, .long (lz 0)), (0, .ref mo), (1, .long (lz bb))] := hl
  exact L5 _ lm 0 0 _ _ _ hP hD hS (lv_sub hl [2, 3, 1, 0] rfl) (TimI.start hL.2.1 hbb.1) hL1.1 (Nat.lt_succ_self _)
