theorem d_Mo_more_0 : decode b_Mo_more 0 = .ok (.aload_n 0, 1) := by decide +kernel
theorem d_Mo_more_1 : decode b_Mo_more 1 = .ok (.getfield 79, 3) := by decide +kernel
theorem d_Mo_more_4 : decode b_Mo_more 4 = .ok (.iconst 1, 1) := by decide +kernel
theorem d_Mo_more_5 : decode b_Mo_more 5 = .ok (.isub, 1) := by decide +kernel
theorem d_Mo_more_6 : decode b_Mo_more 6 = .ok (.istore_n 1, 1) := by decide +kernel
theorem d_Mo_more_7 : decode b_Mo_more 7 = .ok (.iload_n 1, 1) := by decide +kernel
theorem d_Mo_more_8 : decode b_Mo_more 8 = .ok (.ifCond .lt (27), 3) := by decide +kernel
theorem d_Mo_more_11 : decode b_Mo_more 11 = .ok (.aload_n 0, 1) := by decide +kernel
theorem d_Mo_more_12 : decode b_Mo_more 12 = .ok (.getfield 86, 3) := by decide +kernel
theorem d_Mo_more_15 : decode b_Mo_more 15 = .ok (.iload_n 1, 1) := by decide +kernel
theorem d_Mo_more_16 : decode b_Mo_more 16 = .ok (.baload, 1) := by decide +kernel
theorem d_Mo_more_17 : decode b_Mo_more 17 = .ok (.bipush (9), 2) := by decide +kernel
theorem d_Mo_more_19 : decode b_Mo_more 19 = .ok (.if_icmp .ne (16), 3) := by decide +kernel
theorem d_Mo_more_22 : decode b_Mo_more 22 = .ok (.aload_n 0, 1) := by decide +kernel
theorem d_Mo_more_23 : decode b_Mo_more 23 = .ok (.getfield 86, 3) := by decide +kernel
theorem d_Mo_more_26 : decode b_Mo_more 26 = .ok (.iload_n 1, 1) := by decide +kernel
theorem d_Mo_more_27 : decode b_Mo_more 27 = .ok (.iconst 0, 1) := by decide +kernel
theorem d_Mo_more_28 : decode b_Mo_more 28 = .ok (.bastore, 1) := by decide +kernel
theorem d_Mo_more_29 : decode b_Mo_more 29 = .ok (.iinc 1 (-1), 3) := by decide +kernel
theorem d_Mo_more_32 : decode b_Mo_more 32 = .ok (.goto (-25), 3) := by decide +kernel
theorem d_Mo_more_35 : decode b_Mo_more 35 = .ok (.iload_n 1, 1) := by decide +kernel
theorem d_Mo_more_36 : decode b_Mo_more 36 = .ok (.ifCond .lt (17), 3) := by decide +kernel
theorem d_Mo_more_39 : decode b_Mo_more 39 = .ok (.aload_n 0, 1) := by decide +kernel
theorem d_Mo_more_40 : decode b_Mo_more 40 = .ok (.getfield 86, 3) := by decide +kernel
theorem d_Mo_more_43 : decode b_Mo_more 43 = .ok (.iload_n 1, 1) := by decide +kernel
theorem d_Mo_more_44 : decode b_Mo_more 44 = .ok (.dup2, 1) := by decide +kernel
theorem d_Mo_more_45 : decode b_Mo_more 45 = .ok (.baload, 1) := by decide +kernel
theorem d_Mo_more_46 : decode b_Mo_more 46 = .ok (.iconst 1, 1) := by decide +kernel
theorem d_Mo_more_47 : decode b_Mo_more 47 = .ok (.iadd, 1) := by decide +kernel
theorem d_Mo_more_48 : decode b_Mo_more 48 = .ok (.i2b, 1) := by decide +kernel
theorem d_Mo_more_49 : decode b_Mo_more 49 = .ok (.bastore, 1) := by decide +kernel
theorem d_Mo_more_50 : decode b_Mo_more 50 = .ok (.goto (59), 3) := by decide +kernel
theorem d_Mo_more_53 : decode b_Mo_more 53 = .ok (.aload_n 0, 1) := by decide +kernel
theorem d_Mo_more_54 : decode b_Mo_more 54 = .ok (.getfield 79, 3) := by decide +kernel
theorem d_Mo_more_57 : decode b_Mo_more 57 = .ok (.istore_n 2, 1) := by decide +kernel
theorem d_Mo_more_58 : decode b_Mo_more 58 = .ok (.iload_n 2, 1) := by decide +kernel
theorem d_Mo_more_59 : decode b_Mo_more 59 = .ok (.ifCond .le (23), 3) := by decide +kernel
theorem d_Mo_more_62 : decode b_Mo_more 62 = .ok (.aload_n 0, 1) := by decide +kernel
theorem d_Mo_more_63 : decode b_Mo_more 63 = .ok (.getfield 86, 3) := by decide +kernel
theorem d_Mo_more_66 : decode b_Mo_more 66 = .ok (.iload_n 2, 1) := by decide +kernel
theorem d_Mo_more_67 : decode b_Mo_more 67 = .ok (.aload_n 0, 1) := by decide +kernel
theorem d_Mo_more_68 : decode b_Mo_more 68 = .ok (.getfield 86, 3) := by decide +kernel
theorem d_Mo_more_71 : decode b_Mo_more 71 = .ok (.iload_n 2, 1) := by decide +kernel
theorem d_Mo_more_72 : decode b_Mo_more 72 = .ok (.iconst 1, 1) := by decide +kernel
theorem d_Mo_more_73 : decode b_Mo_more 73 = .ok (.isub, 1) := by decide +kernel
theorem d_Mo_more_74 : decode b_Mo_more 74 = .ok (.baload, 1) := by decide +kernel
theorem d_Mo_more_75 : decode b_Mo_more 75 = .ok (.bastore, 1) := by decide +kernel
theorem d_Mo_more_76 : decode b_Mo_more 76 = .ok (.iinc 2 (-1), 3) := by decide +kernel
theorem d_Mo_more_79 : decode b_Mo_more 79 = .ok (.goto (-21), 3) := by decide +kernel
theorem d_Mo_more_82 : decode b_Mo_more 82 = .ok (.aload_n 0, 1) := by decide +kernel
theorem d_Mo_more_83 : decode b_Mo_more 83 = .ok (.getfield 86, 3) := by decide +kernel
theorem d_Mo_more_86 : decode b_Mo_more 86 = .ok (.iconst 0, 1) := by decide +kernel
theorem d_Mo_more_87 : decode b_Mo_more 87 = .ok (.iconst 1, 1) := by decide +kernel
theorem d_Mo_more_88 : decode b_Mo_more 88 = .ok (.bastore, 1) := by decide +kernel
theorem d_Mo_more_89 : decode b_Mo_more 89 = .ok (.aload_n 0, 1) := by decide +kernel
theorem d_Mo_more_90 : decode b_Mo_more 90 = .ok (.dup, 1) := by decide +kernel
theorem d_Mo_more_91 : decode b_Mo_more 91 = .ok (.getfield 79, 3) := by decide +kernel
theorem d_Mo_more_94 : decode b_Mo_more 94 = .ok (.iconst 1, 1) := by decide +kernel
theorem d_Mo_more_95 : decode b_Mo_more 95 = .ok (.iadd, 1) := by decide +kernel
theorem d_Mo_more_96 : decode b_Mo_more 96 = .ok (.putfield 79, 3) := by decide +kernel
theorem d_Mo_more_99 : decode b_Mo_more 99 = .ok (.aload_n 0, 1) := by decide +kernel
theorem d_Mo_more_100 : decode b_Mo_more 100 = .ok (.dup, 1) := by decide +kernel
theorem d_Mo_more_101 : decode b_Mo_more 101 = .ok (.getfield 89, 3) := by decide +kernel
theorem d_Mo_more_104 : decode b_Mo_more 104 = .ok (.iconst 1, 1) := by decide +kernel
theorem d_Mo_more_105 : decode b_Mo_more 105 = .ok (.iadd, 1) := by decide +kernel
theorem d_Mo_more_106 : decode b_Mo_more 106 = .ok (.putfield 89, 3) := by decide +kernel
theorem d_Mo_more_109 : decode b_Mo_more 109 = .ok (.return_, 1) := by decide +kernel
set_option maxHeartbeats 4000000 in
set_option maxRecDepth 100000 in
theorem c_Mo_more (l : Launch) (D : va_G) (cB cL : ClassId) (mo rs ex xd li bo cu cd : Nat) (co bi le : Int) (rt bt : List Int) (V C : Int) (fc : Int → Int) (nc pp : Int) (hC : RowOK fc nc pp C) (hn0 : 0 < nc) (hn1 : nc ≤ 1249) (hp1 : pp ≤ 1499) : Ct l y_Mo_more (ws_Mo_more) 0 (AM mo rs ex xd li bo cu cd) [.ref cu] (MWc D cB cL mo rs ex xd li bo cu cd co bi le rt bt V fc nc pp) (zR none (MW D cB cL mo rs ex xd li bo cu cd co bi le rt bt V (C + 10 ^ (pp - nc + 1080).toNat))) := by
  refine z_body zSt_MWc (by decide +kernel) rfl (Nat.le_of_ble_eq_true rfl) ?_
  intro p e s m args below meth c ls hx hb hml hr hlk hts0 hown hpre0 H locs hpre hS hl
  have hts : ∀ w ∈ TBL, w.before args s = true := fun w hw => hts0 w (List.mem_cons_of_mem _ hw)
  have hl : lv_has ls 3 [(0, .ref cu)] := hl
  have hw := hpre
  have hw9 := hw
  obtain ⟨len, used, bl, fr, fb, lm, fe, ne, pe, ⟨hK, hP, hD⟩, hrt, hbt, hE, hpe, hlm⟩ := hw9
  have L58 : ∀ (N58 : Nat) (h : Int → Int) (k : Int) (H : Heap) (locs : List Loc) (ls : Array Slot), va_P D vwCl [(mo, .inr (3, [.ref rs, .int (iz len), .int (iz co), .ref ex, .int (iz bi), .int (iz le), .ref li, .int (iz used), .ref bo, .int (iz bl), .ref cu])), (rs, .inl (cB, 4096, .inl (az fr))), (ex, .inr (4, [.ref xd, .int (iz ne), .int (iz pe)])), (xd, .inl (cB, 1300, .inl (az fe))), (li, .inl (cL, 160, .inr (.inl (azl lm)))), (bo, .inl (cB, 4096, .inl (az fb))), (cu, .inr (4, [.ref cd, .int (iz nc), .int (iz pp)])), (cd, .inl (cB, 1300, .inl (az h)))] H → va_D (AM mo rs ex xd li bo cu cd) [(mo, .inr (3, [.ref rs, .int (iz len), .int (iz co), .ref ex, .int (iz bi), .int (iz le), .ref li, .int (iz used), .ref bo, .int (iz bl), .ref cu])), (rs, .inl (cB, 4096, .inl (az fr))), (ex, .inr (4, [.ref xd, .int (iz ne), .int (iz pe)])), (xd, .inl (cB, 1300, .inl (az fe))), (li, .inl (cL, 160, .inr (.inl (azl lm)))), (bo, .inl (cB, 4096, .inl (az fb))), (cu, .inr (4, [.ref cd, .int (iz nc), .int (iz pp)])), (cd, .inl (cB, 1300, .inl (az h)))] → va_S (AM mo rs ex xd li bo cu cd) s.heap H locs → lv_has ls 3 [(0, .ref cu), (2, .int (iz k))] → (0 ≤ k ∧ k ≤ nc) → (∀ j, 0 ≤ j → j < nc → h j = 0) → (k < nc → h nc = 0) → (MoreI fc (fun j => if 0 ≤ j ∧ j < nc then 0 else fc j) nc (-1)) → k.toNat < N58 → W p l e (zrm 0) s m args below meth c H locs 0 0 (MQ below (zQ (AM mo rs ex xd li bo cu cd) (zR none (MW D cB cL mo rs ex xd li bo cu cd co bi le rt bt V (C + 10 ^ (pp - nc + 1080).toNat)))) args s 0 0 (AM mo rs ex xd li bo cu cd)) (F0 m 58 ls []) := by
    intro N58
    induction N58 with
    | zero => intro h k H locs ls hP hD hS hl hk hz hz2 hA hN58; exact absurd hN58 (Nat.not_lt_zero _)
    | succ N58 ih58 =>
      intro h k H locs ls hP hD hS hl hk hz hz2 hA hN58
      refine lv_iload_n hx hb d_Mo_more_58 rfl (lv_at hl 1 rfl) ?_
      refine z_if_le (tgt := 82) hx hb d_Mo_more_59 rfl ⟨by omega, by omega⟩ (fun hc59 => ?_) (fun hc59 => ?_)
      · refine lv_aload_n hx hb d_Mo_more_82 rfl (lv_at hl 0 rfl) ?_
        refine va_get (D := D) (ci := 4) (v := .ref cd) (C := R_4) (T := T_4) (N := 3) hx hb hts in_4 hown hK hP 6 rfl rfl 0 (by decide) (hts _ tw_382) (fun _ h9 => h9) rfl d_Mo_more_83 ?_
        refine lv_iconst (v := iz 0) hx hb d_Mo_more_86 rfl ?_
        refine lv_iconst (v := iz 1) hx hb d_Mo_more_87 rfl ?_
        refine z_bast hx hb hK hP hD hS 7 0 rfl rfl (by omega) (by omega) (by decide) ⟨by omega, by omega⟩ d_Mo_more_88 (fun H locs hP hD hS => ?_)
        have hP : va_P D vwCl [(mo, .inr (3, [.ref rs, .int (iz len), .int (iz co), .ref ex, .int (iz bi), .int (iz le), .ref li, .int (iz used), .ref bo, .int (iz bl), .ref cu])), (rs, .inl (cB, 4096, .inl (az fr))), (ex, .inr (4, [.ref xd, .int (iz ne), .int (iz pe)])), (xd, .inl (cB, 1300, .inl (az fe))), (li, .inl (cL, 160, .inr (.inl (azl lm)))), (bo, .inl (cB, 4096, .inl (az fb))), (cu, .inr (4, [.ref cd, .int (iz nc), .int (iz pp)])), (cd, .inl (cB, 1300, .inl (az (up h 0 1))))] H := hP
        have hD : va_D (AM mo rs ex xd li bo cu cd) [(mo, .inr (3, [.ref rs, .int (iz len), .int (iz co), .ref ex, .int (iz bi), .int (iz le), .ref li, .int (iz used), .ref bo, .int (iz bl), .ref cu])), (rs, .inl (cB, 4096, .inl (az fr))), (ex, .inr (4, [.ref xd, .int (iz ne), .int (iz pe)])), (xd, .inl (cB, 1300, .inl (az fe))), (li, .inl (cL, 160, .inr (.inl (azl lm)))), (bo, .inl (cB, 4096, .inl (az fb))), (cu, .inr (4, [.ref cd, .int (iz nc), .int (iz pp)])), (cd, .inl (cB, 1300, .inl (az (up h 0 1))))] := hD
        refine lv_aload_n hx hb d_Mo_more_89 rfl (lv_at hl 0 rfl) ?_
        refine lv_dup hx hb d_Mo_more_90 rfl ?_
        refine va_get (D := D) (ci := 4) (v := .int (iz nc)) (C := R_4) (T := T_4) (N := 3) hx hb hts in_4 hown hK hP 6 rfl rfl 1 (by decide) (hts _ tw_383) (fun _ h9 => h9) rfl d_Mo_more_91 ?_
        refine lv_iconst (v := iz 1) hx hb d_Mo_more_94 rfl ?_
        refine z_iadd hx hb d_Mo_more_95 ?_
        refine va_put (D := D) (ci := 4) (v := .int (iz (nc + 1))) (ty := .int) (C := R_4) (T := T_4) (N := 3) hx hb hts in_4 ty_4 tyok_4 nm_4 hown hK hP hD hS 6 rfl rfl 1 (by decide) (hts _ tw_383) (fun _ h9 => h9) rfl (by decide +kernel) rfl rfl (Nat.le_of_ble_eq_true rfl) d_Mo_more_96 (fun H locs hP hD hS => ?_)
        have hP : va_P D vwCl [(mo, .inr (3, [.ref rs, .int (iz len), .int (iz co), .ref ex, .int (iz bi), .int (iz le), .ref li, .int (iz used), .ref bo, .int (iz bl), .ref cu])), (rs, .inl (cB, 4096, .inl (az fr))), (ex, .inr (4, [.ref xd, .int (iz ne), .int (iz pe)])), (xd, .inl (cB, 1300, .inl (az fe))), (li, .inl (cL, 160, .inr (.inl (azl lm)))), (bo, .inl (cB, 4096, .inl (az fb))), (cu, .inr (4, [.ref cd, .int (iz (nc + 1)), .int (iz pp)])), (cd, .inl (cB, 1300, .inl (az (up h 0 1))))] H := hP
        have hD : va_D (AM mo rs ex xd li bo cu cd) [(mo, .inr (3, [.ref rs, .int (iz len), .int (iz co), .ref ex, .int (iz bi), .int (iz le), .ref li, .int (iz used), .ref bo, .int (iz bl), .ref cu])), (rs, .inl (cB, 4096, .inl (az fr))), (ex, .inr (4, [.ref xd, .int (iz ne), .int (iz pe)])), (xd, .inl (cB, 1300, .inl (az fe))), (li, .inl (cL, 160, .inr (.inl (azl lm)))), (bo, .inl (cB, 4096, .inl (az fb))), (cu, .inr (4, [.ref cd, .int (iz (nc + 1)), .int (iz pp)])), (cd, .inl (cB, 1300, .inl (az (up h 0 1))))] := hD
        refine lv_aload_n hx hb d_Mo_more_99 rfl (lv_at hl 0 rfl) ?_
        refine lv_dup hx hb d_Mo_more_100 rfl ?_
        refine va_get (D := D) (ci := 4) (v := .int (iz pp)) (C := R_4) (T := T_4) (N := 3) hx hb hts in_4 hown hK hP 6 rfl rfl 2 (by decide) (hts _ tw_384) (fun _ h9 => h9) rfl d_Mo_more_101 ?_
        refine lv_iconst (v := iz 1) hx hb d_Mo_more_104 rfl ?_
        refine z_iadd hx hb d_Mo_more_105 ?_
        refine va_put (D := D) (ci := 4) (v := .int (iz (pp + 1))) (ty := .int) (C := R_4) (T := T_4) (N := 3) hx hb hts in_4 ty_4 tyok_4 nm_4 hown hK hP hD hS 6 rfl rfl 2 (by decide) (hts _ tw_384) (fun _ h9 => h9) rfl (by decide +kernel) rfl rfl (Nat.le_of_ble_eq_true rfl) d_Mo_more_106 (fun H locs hP hD hS => ?_)
        have hP : va_P D vwCl [(mo, .inr (3, [.ref rs, .int (iz len), .int (iz co), .ref ex, .int (iz bi), .int (iz le), .ref li, .int (iz used), .ref bo, .int (iz bl), .ref cu])), (rs, .inl (cB, 4096, .inl (az fr))), (ex, .inr (4, [.ref xd, .int (iz ne), .int (iz pe)])), (xd, .inl (cB, 1300, .inl (az fe))), (li, .inl (cL, 160, .inr (.inl (azl lm)))), (bo, .inl (cB, 4096, .inl (az fb))), (cu, .inr (4, [.ref cd, .int (iz (nc + 1)), .int (iz (pp + 1))])), (cd, .inl (cB, 1300, .inl (az (up h 0 1))))] H := hP
        have hD : va_D (AM mo rs ex xd li bo cu cd) [(mo, .inr (3, [.ref rs, .int (iz len), .int (iz co), .ref ex, .int (iz bi), .int (iz le), .ref li, .int (iz used), .ref bo, .int (iz bl), .ref cu])), (rs, .inl (cB, 4096, .inl (az fr))), (ex, .inr (4, [.ref xd, .int (iz ne), .int (iz pe)])), (xd, .inl (cB, 1300, .inl (az fe))), (li, .inl (cL, 160, .inr (.inl (azl lm)))), (bo, .inl (cB, 4096, .inl (az fb))), (cu, .inr (4, [.ref cd, .int (iz (nc + 1)), .int (iz (pp + 1))])), (cd, .inl (cB, 1300, .inl (az (up h 0 1))))] := hD
        exact z_vret hx hb hr hlk hS (zR_st zSt_MW) ⟨rfl, _, _, _, ⟨_, _, _, _, _, _, _, _, _, ⟨hK, hP, hD⟩, hrt, hbt, hE, hpe, hlm⟩, (more_all hC hn0 hn1 hp1 hA (g := h) (fun j q1 q2 => by
              by_cases hq : j = nc
              · rw [hq]; exact hz2 (by omega)
              · exact hz j q1 (by omega)))⟩ d_Mo_more_109
      · have hz9 := hz (k - 1) (by omega) (by omega)
        refine lv_aload_n hx hb d_Mo_more_62 rfl (lv_at hl 0 rfl) ?_
        refine va_get (D := D) (ci := 4) (v := .ref cd) (C := R_4) (T := T_4) (N := 3) hx hb hts in_4 hown hK hP 6 rfl rfl 0 (by decide) (hts _ tw_382) (fun _ h9 => h9) rfl d_Mo_more_63 ?_
        refine lv_iload_n hx hb d_Mo_more_66 rfl (lv_at hl 1 rfl) ?_
        refine lv_aload_n hx hb d_Mo_more_67 rfl (lv_at hl 0 rfl) ?_
        refine va_get (D := D) (ci := 4) (v := .ref cd) (C := R_4) (T := T_4) (N := 3) hx hb hts in_4 hown hK hP 6 rfl rfl 0 (by decide) (hts _ tw_382) (fun _ h9 => h9) rfl d_Mo_more_68 ?_
        refine lv_iload_n hx hb d_Mo_more_71 rfl (lv_at hl 1 rfl) ?_
        refine lv_iconst (v := iz 1) hx hb d_Mo_more_72 rfl ?_
        refine z_isub hx hb d_Mo_more_73 ?_
        refine z_bald hx hb hK hP 7 0 rfl rfl (by omega) (by omega) (by decide) d_Mo_more_74 ?_
        refine z_bast hx hb hK hP hD hS 7 0 rfl rfl (by omega) (by omega) (by decide) ⟨by omega, by omega⟩ d_Mo_more_75 (fun H locs hP hD hS => ?_)
        have hP : va_P D vwCl [(mo, .inr (3, [.ref rs, .int (iz len), .int (iz co), .ref ex, .int (iz bi), .int (iz le), .ref li, .int (iz used), .ref bo, .int (iz bl), .ref cu])), (rs, .inl (cB, 4096, .inl (az fr))), (ex, .inr (4, [.ref xd, .int (iz ne), .int (iz pe)])), (xd, .inl (cB, 1300, .inl (az fe))), (li, .inl (cL, 160, .inr (.inl (azl lm)))), (bo, .inl (cB, 4096, .inl (az fb))), (cu, .inr (4, [.ref cd, .int (iz nc), .int (iz pp)])), (cd, .inl (cB, 1300, .inl (az (up h k (h (k - 1))))))] H := hP
        have hD : va_D (AM mo rs ex xd li bo cu cd) [(mo, .inr (3, [.ref rs, .int (iz len), .int (iz co), .ref ex, .int (iz bi), .int (iz le), .ref li, .int (iz used), .ref bo, .int (iz bl), .ref cu])), (rs, .inl (cB, 4096, .inl (az fr))), (ex, .inr (4, [.ref xd, .int (iz ne), .int (iz pe)])), (xd, .inl (cB, 1300, .inl (az fe))), (li, .inl (cL, 160, .inr (.inl (azl lm)))), (bo, .inl (cB, 4096, .inl (az fb))), (cu, .inr (4, [.ref cd, .int (iz nc), .int (iz pp)])), (cd, .inl (cB, 1300, .inl (az (up h k (h (k - 1))))))] := hD
        refine lv_iinc (k := 1) (v := (iz (k - 1))) hx hb d_Mo_more_76 hl rfl (by show iz _ + iz (-1) = _; rw [← iz_add]; try rfl) (by decide) rfl (fun ls hl => ?_)
        have hl : lv_has ls 3 [(2, .int (iz (k - 1))), (0, .ref cu)] := hl
        refine lv_goto (tgt := 58) hx hb d_Mo_more_79 rfl ?_
        exact ih58 (up h k (h (k - 1))) (k - 1) _ _ _ hP hD hS (lv_sub hl [1, 0] rfl) ⟨by omega, by omega⟩ (fun j q1 q2 => by
              by_cases hq : j = k
              · rw [hq, up_s]; exact hz (k - 1) (by omega) (by omega)
              · rw [up_n _ _ hq]; exact hz j q1 q2) (fun q => by
              by_cases hq : nc = k
              · rw [hq, up_s]; exact hz (k - 1) (by omega) (by omega)
              · rw [up_n _ _ hq]; exact hz2 (by omega)) hA (by omega)
  have L7 : ∀ (N7 : Nat) (h : Int → Int) (i : Int) (H : Heap) (locs : List Loc) (ls : Array Slot), va_P D vwCl [(mo, .inr (3, [.ref rs, .int (iz len), .int (iz co), .ref ex, .int (iz bi), .int (iz le), .ref li, .int (iz used), .ref bo, .int (iz bl), .ref cu])), (rs, .inl (cB, 4096, .inl (az fr))), (ex, .inr (4, [.ref xd, .int (iz ne), .int (iz pe)])), (xd, .inl (cB, 1300, .inl (az fe))), (li, .inl (cL, 160, .inr (.inl (azl lm)))), (bo, .inl (cB, 4096, .inl (az fb))), (cu, .inr (4, [.ref cd, .int (iz nc), .int (iz pp)])), (cd, .inl (cB, 1300, .inl (az h)))] H → va_D (AM mo rs ex xd li bo cu cd) [(mo, .inr (3, [.ref rs, .int (iz len), .int (iz co), .ref ex, .int (iz bi), .int (iz le), .ref li, .int (iz used), .ref bo, .int (iz bl), .ref cu])), (rs, .inl (cB, 4096, .inl (az fr))), (ex, .inr (4, [.ref xd, .int (iz ne), .int (iz pe)])), (xd, .inl (cB, 1300, .inl (az fe))), (li, .inl (cL, 160, .inr (.inl (azl lm)))), (bo, .inl (cB, 4096, .inl (az fb))), (cu, .inr (4, [.ref cd, .int (iz nc), .int (iz pp)])), (cd, .inl (cB, 1300, .inl (az h)))] → va_S (AM mo rs ex xd li bo cu cd) s.heap H locs → lv_has ls 3 [(0, .ref cu), (1, .int (iz i))] → (MoreI fc h nc i) → (i + 1).toNat < N7 → W p l e (zrm 0) s m args below meth c H locs 0 0 (MQ below (zQ (AM mo rs ex xd li bo cu cd) (zR none (MW D cB cL mo rs ex xd li bo cu cd co bi le rt bt V (C + 10 ^ (pp - nc + 1080).toNat)))) args s 0 0 (AM mo rs ex xd li bo cu cd)) (F0 m 7 ls []) := by
    intro N7
    induction N7 with
    | zero => intro h i H locs ls hP hD hS hl hM hN7; exact absurd hN7 (Nat.not_lt_zero _)
    | succ N7 ih7 =>
      intro h i H locs ls hP hD hS hl hM hN7
      have hM1 := hM.1
      refine lv_iload_n hx hb d_Mo_more_7 rfl (lv_at hl 1 rfl) ?_
      refine z_if_lt (tgt := 35) hx hb d_Mo_more_8 rfl ⟨by omega, by omega⟩ (fun hc8 => ?_) (fun hc8 => ?_)
      · refine lv_iload_n hx hb d_Mo_more_35 rfl (lv_at hl 1 rfl) ?_
        refine z_if_lt (tgt := 53) hx hb d_Mo_more_36 rfl ⟨by omega, by omega⟩ (fun hc36 => ?_) (fun hc36 => ?_)
        · refine lv_aload_n hx hb d_Mo_more_53 rfl (lv_at hl 0 rfl) ?_
          refine va_get (D := D) (ci := 4) (v := .int (iz nc)) (C := R_4) (T := T_4) (N := 3) hx hb hts in_4 hown hK hP 6 rfl rfl 1 (by decide) (hts _ tw_383) (fun _ h9 => h9) rfl d_Mo_more_54 ?_
          refine lv_istore_n hx hb d_Mo_more_57 rfl hl (by decide) rfl (fun ls hl => ?_)
          have hl : lv_has ls 3 [(2, .int (iz nc)), (0, .ref cu), (1, .int (iz i))] := hl
          exact L58 _ h nc _ _ _ hP hD hS (lv_sub hl [1, 0] rfl) ⟨by omega, by omega⟩ (fun j q1 q2 => (hM.2.2 j (by omega) q2).1) (fun q => absurd q (by omega)) (more_A hM (by omega)) (Nat.lt_succ_self _)
        · exfalso
          omega
      · have hfi := hC.2.1 i (by omega) (by omega)
        have hhi := hM.2.1 i (Int.le_refl _)
        refine lv_aload_n hx hb d_Mo_more_11 rfl (lv_at hl 0 rfl) ?_
        refine va_get (D := D) (ci := 4) (v := .ref cd) (C := R_4) (T := T_4) (N := 3) hx hb hts in_4 hown hK hP 6 rfl rfl 0 (by decide) (hts _ tw_382) (fun _ h9 => h9) rfl d_Mo_more_12 ?_
        refine lv_iload_n hx hb d_Mo_more_15 rfl (lv_at hl 1 rfl) ?_
        refine z_bald hx hb hK hP 7 0 rfl rfl (by omega) (by omega) (by decide) d_Mo_more_16 ?_
        refine lv_bipush (v := iz 9) hx hb d_Mo_more_17 (by decide) ?_
        refine z_icmp_ne (tgt := 35) hx hb d_Mo_more_19 rfl ⟨by omega, by omega⟩ ⟨by omega, by omega⟩ (fun hc19 => ?_) (fun hc19 => ?_)
        · refine lv_iload_n hx hb d_Mo_more_35 rfl (lv_at hl 1 rfl) ?_
          refine z_if_lt (tgt := 53) hx hb d_Mo_more_36 rfl ⟨by omega, by omega⟩ (fun hc36 => ?_) (fun hc36 => ?_)
          · exfalso
            omega
          · refine lv_aload_n hx hb d_Mo_more_39 rfl (lv_at hl 0 rfl) ?_
            refine va_get (D := D) (ci := 4) (v := .ref cd) (C := R_4) (T := T_4) (N := 3) hx hb hts in_4 hown hK hP 6 rfl rfl 0 (by decide) (hts _ tw_382) (fun _ h9 => h9) rfl d_Mo_more_40 ?_
            refine lv_iload_n hx hb d_Mo_more_43 rfl (lv_at hl 1 rfl) ?_
            refine lv_dup2_11 hx hb d_Mo_more_44 rfl rfl ?_
            refine z_bald hx hb hK hP 7 0 rfl rfl (by omega) (by omega) (by decide) d_Mo_more_45 ?_
            refine lv_iconst (v := iz 1) hx hb d_Mo_more_46 rfl ?_
            refine z_iadd hx hb d_Mo_more_47 ?_
            refine z_i2b hx hb d_Mo_more_48 ⟨by omega, by omega⟩ ?_
            refine z_bast hx hb hK hP hD hS 7 0 rfl rfl (by omega) (by omega) (by decide) ⟨by omega, by omega⟩ d_Mo_more_49 (fun H locs hP hD hS => ?_)
            have hP : va_P D vwCl [(mo, .inr (3, [.ref rs, .int (iz len), .int (iz co), .ref ex, .int (iz bi), .int (iz le), .ref li, .int (iz used), .ref bo, .int (iz bl), .ref cu])), (rs, .inl (cB, 4096, .inl (az fr))), (ex, .inr (4, [.ref xd, .int (iz ne), .int (iz pe)])), (xd, .inl (cB, 1300, .inl (az fe))), (li, .inl (cL, 160, .inr (.inl (azl lm)))), (bo, .inl (cB, 4096, .inl (az fb))), (cu, .inr (4, [.ref cd, .int (iz nc), .int (iz pp)])), (cd, .inl (cB, 1300, .inl (az (up h i ((h i) + 1)))))] H := hP
            have hD : va_D (AM mo rs ex xd li bo cu cd) [(mo, .inr (3, [.ref rs, .int (iz len), .int (iz co), .ref ex, .int (iz bi), .int (iz le), .ref li, .int (iz used), .ref bo, .int (iz bl), .ref cu])), (rs, .inl (cB, 4096, .inl (az fr))), (ex, .inr (4, [.ref xd, .int (iz ne), .int (iz pe)])), (xd, .inl (cB, 1300, .inl (az fe))), (li, .inl (cL, 160, .inr (.inl (azl lm)))), (bo, .inl (cB, 4096, .inl (az fb))), (cu, .inr (4, [.ref cd, .int (iz nc), .int (iz pp)])), (cd, .inl (cB, 1300, .inl (az (up h i ((h i) + 1)))))] := hD
            refine lv_goto (tgt := 109) hx hb d_Mo_more_50 rfl ?_
            exact z_vret hx hb hr hlk hS (zR_st zSt_MW) ⟨rfl, _, _, _, ⟨_, _, _, _, _, _, _, _, _, ⟨hK, hP, hD⟩, hrt, hbt, hE, hpe, hlm⟩, (more_inc hC hM (by omega) hc19)⟩ d_Mo_more_109
        · refine lv_aload_n hx hb d_Mo_more_22 rfl (lv_at hl 0 rfl) ?_
          refine va_get (D := D) (ci := 4) (v := .ref cd) (C := R_4) (T := T_4) (N := 3) hx hb hts in_4 hown hK hP 6 rfl rfl 0 (by decide) (hts _ tw_382) (fun _ h9 => h9) rfl d_Mo_more_23 ?_
          refine lv_iload_n hx hb d_Mo_more_26 rfl (lv_at hl 1 rfl) ?_
          refine lv_iconst (v := iz 0) hx hb d_Mo_more_27 rfl ?_
          refine z_bast hx hb hK hP hD hS 7 0 rfl rfl (by omega) (by omega) (by decide) ⟨by omega, by omega⟩ d_Mo_more_28 (fun H locs hP hD hS => ?_)
          have hP : va_P D vwCl [(mo, .inr (3, [.ref rs, .int (iz len), .int (iz co), .ref ex, .int (iz bi), .int (iz le), .ref li, .int (iz used), .ref bo, .int (iz bl), .ref cu])), (rs, .inl (cB, 4096, .inl (az fr))), (ex, .inr (4, [.ref xd, .int (iz ne), .int (iz pe)])), (xd, .inl (cB, 1300, .inl (az fe))), (li, .inl (cL, 160, .inr (.inl (azl lm)))), (bo, .inl (cB, 4096, .inl (az fb))), (cu, .inr (4, [.ref cd, .int (iz nc), .int (iz pp)])), (cd, .inl (cB, 1300, .inl (az (up h i 0))))] H := hP
          have hD : va_D (AM mo rs ex xd li bo cu cd) [(mo, .inr (3, [.ref rs, .int (iz len), .int (iz co), .ref ex, .int (iz bi), .int (iz le), .ref li, .int (iz used), .ref bo, .int (iz bl), .ref cu])), (rs, .inl (cB, 4096, .inl (az fr))), (ex, .inr (4, [.ref xd, .int (iz ne), .int (iz pe)])), (xd, .inl (cB, 1300, .inl (az fe))), (li, .inl (cL, 160, .inr (.inl (azl lm)))), (bo, .inl (cB, 4096, .inl (az fb))), (cu, .inr (4, [.ref cd, .int (iz nc), .int (iz pp)])), (cd, .inl (cB, 1300, .inl (az (up h i 0))))] := hD
          refine lv_iinc (k := 1) (v := (iz (i - 1))) hx hb d_Mo_more_29 hl rfl (by show iz _ + iz (-1) = _; rw [← iz_add]; try rfl) (by decide) rfl (fun ls hl => ?_)
          have hl : lv_has ls 3 [(1, .int (iz (i - 1))), (0, .ref cu)] := hl
          refine lv_goto (tgt := 7) hx hb d_Mo_more_32 rfl ?_
          exact ih7 (up h i 0) (i - 1) _ _ _ hP hD hS (lv_sub hl [1, 0] rfl) (hM.step (by omega) hc19) (by omega)
  refine lv_aload_n hx hb d_Mo_more_0 rfl (lv_at hl 0 rfl) ?_
  refine va_get (D := D) (ci := 4) (v := .int (iz nc)) (C := R_4) (T := T_4) (N := 3) hx hb hts in_4 hown hK hP 6 rfl rfl 1 (by decide) (hts _ tw_383) (fun _ h9 => h9) rfl d_Mo_more_1 ?_
  refine lv_iconst (v := iz 1) hx hb d_Mo_more_4 rfl ?_
  refine z_isub hx hb d_Mo_more_5 ?_
  refine lv_istore_n hx hb d_Mo_more_6 rfl hl (by decide) rfl (fun ls hl => ?_)
  have hl : lv_has ls 3 [(1, .int (iz (nc - 1))), (0, .ref cu)] := hl
  exact L7 _ fc (nc - 1) _ _ _ hP hD hS (lv_sub hl [1, 0] rfl) (MoreI.start fc hn0) (Nat.lt_succ_self _)
