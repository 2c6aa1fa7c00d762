theorem d_EN_present1_0 : decode b_EN_present 0 = .ok (.aload_n 0, 1) := by decide +kernel
theorem d_EN_present1_1 : decode b_EN_present 1 = .ok (.getfield 19, 3) := by decide +kernel
theorem d_EN_present1_4 : decode b_EN_present 4 = .ok (.invokevirtual 62, 3) := by decide +kernel
theorem d_EN_present1_7 : decode b_EN_present 7 = .ok (.aload 7, 2) := by decide +kernel
theorem d_EN_present1_9 : decode b_EN_present 9 = .ok (.lload 5, 2) := by decide +kernel
theorem d_EN_present1_11 : decode b_EN_present 11 = .ok (.invokevirtual 65, 3) := by decide +kernel
theorem d_EN_present1_14 : decode b_EN_present 14 = .ok (.ifCond .ne (35), 3) := by decide +kernel
theorem d_EN_present1_17 : decode b_EN_present 17 = .ok (.aload_n 0, 1) := by decide +kernel
theorem d_EN_present1_18 : decode b_EN_present 18 = .ok (.getfield 19, 3) := by decide +kernel
theorem d_EN_present1_21 : decode b_EN_present 21 = .ok (.aload 7, 2) := by decide +kernel
theorem d_EN_present1_23 : decode b_EN_present 23 = .ok (.lload 5, 2) := by decide +kernel
theorem d_EN_present1_25 : decode b_EN_present 25 = .ok (.invokevirtual 69, 3) := by decide +kernel
theorem d_EN_present1_28 : decode b_EN_present 28 = .ok (.ifCond .eq (8), 3) := by decide +kernel
theorem d_EN_present1_31 : decode b_EN_present 31 = .ok (.ldc 72, 2) := by decide +kernel
theorem d_EN_present1_33 : decode b_EN_present 33 = .ok (.goto (5), 3) := by decide +kernel
theorem d_EN_present1_36 : decode b_EN_present 36 = .ok (.ldc 74, 2) := by decide +kernel
theorem d_EN_present1_38 : decode b_EN_present 38 = .ok (.invokevirtual 76, 3) := by decide +kernel
theorem d_EN_present1_41 : decode b_EN_present 41 = .ok (.aload_n 0, 1) := by decide +kernel
theorem d_EN_present1_42 : decode b_EN_present 42 = .ok (.getfield 19, 3) := by decide +kernel
theorem d_EN_present1_45 : decode b_EN_present 45 = .ok (.invokevirtual 40, 3) := by decide +kernel
theorem d_EN_present1_48 : decode b_EN_present 48 = .ok (.ireturn, 1) := by decide +kernel
theorem d_EN_present1_49 : decode b_EN_present 49 = .ok (.aload_n 0, 1) := by decide +kernel
theorem d_EN_present1_50 : decode b_EN_present 50 = .ok (.getfield 10, 3) := by decide +kernel
theorem d_EN_present1_53 : decode b_EN_present 53 = .ok (.aload 7, 2) := by decide +kernel
theorem d_EN_present1_55 : decode b_EN_present 55 = .ok (.lload 5, 2) := by decide +kernel
theorem d_EN_present1_57 : decode b_EN_present 57 = .ok (.invokevirtual 79, 3) := by decide +kernel
theorem d_EN_present1_60 : decode b_EN_present 60 = .ok (.aload 7, 2) := by decide +kernel
theorem d_EN_present1_62 : decode b_EN_present 62 = .ok (.lload 5, 2) := by decide +kernel
theorem d_EN_present1_64 : decode b_EN_present 64 = .ok (.invokevirtual 83, 3) := by decide +kernel
theorem d_EN_present1_67 : decode b_EN_present 67 = .ok (.invokevirtual 87, 3) := by decide +kernel
theorem d_EN_present1_70 : decode b_EN_present 70 = .ok (.iload_n 1, 1) := by decide +kernel
theorem d_EN_present1_71 : decode b_EN_present 71 = .ok (.ifCond .ne (29), 3) := by decide +kernel
theorem d_EN_present1_74 : decode b_EN_present 74 = .ok (.aload_n 0, 1) := by decide +kernel
theorem d_EN_present1_75 : decode b_EN_present 75 = .ok (.getfield 10, 3) := by decide +kernel
theorem d_EN_present1_78 : decode b_EN_present 78 = .ok (.aload_n 0, 1) := by decide +kernel
theorem d_EN_present1_79 : decode b_EN_present 79 = .ok (.getfield 10, 3) := by decide +kernel
theorem d_EN_present1_82 : decode b_EN_present 82 = .ok (.invokevirtual 91, 3) := by decide +kernel
theorem d_EN_present1_85 : decode b_EN_present 85 = .ok (.iload_n 2, 1) := by decide +kernel
theorem d_EN_present1_86 : decode b_EN_present 86 = .ok (.isub, 1) := by decide +kernel
theorem d_EN_present1_87 : decode b_EN_present 87 = .ok (.invokevirtual 94, 3) := by decide +kernel
theorem d_EN_present1_90 : decode b_EN_present 90 = .ok (.aload_n 0, 1) := by decide +kernel
theorem d_EN_present1_91 : decode b_EN_present 91 = .ok (.iload_n 2, 1) := by decide +kernel
theorem d_EN_present1_92 : decode b_EN_present 92 = .ok (.iload 4, 2) := by decide +kernel
theorem d_EN_present1_94 : decode b_EN_present 94 = .ok (.invokevirtual 98, 3) := by decide +kernel
theorem d_EN_present1_97 : decode b_EN_present 97 = .ok (.goto (38), 3) := by decide +kernel
theorem d_EN_present1_100 : decode b_EN_present 100 = .ok (.iload_n 1, 1) := by decide +kernel
theorem d_EN_present1_101 : decode b_EN_present 101 = .ok (.iconst 1, 1) := by decide +kernel
theorem d_EN_present1_102 : decode b_EN_present 102 = .ok (.if_icmp .ne (23), 3) := by decide +kernel
theorem d_EN_present1_105 : decode b_EN_present 105 = .ok (.aload_n 0, 1) := by decide +kernel
theorem d_EN_present1_106 : decode b_EN_present 106 = .ok (.getfield 10, 3) := by decide +kernel
theorem d_EN_present1_109 : decode b_EN_present 109 = .ok (.iload_n 2, 1) := by decide +kernel
theorem d_EN_present1_110 : decode b_EN_present 110 = .ok (.ineg, 1) := by decide +kernel
theorem d_EN_present1_111 : decode b_EN_present 111 = .ok (.invokevirtual 94, 3) := by decide +kernel
theorem d_EN_present1_114 : decode b_EN_present 114 = .ok (.aload_n 0, 1) := by decide +kernel
theorem d_EN_present1_115 : decode b_EN_present 115 = .ok (.iload_n 2, 1) := by decide +kernel
theorem d_EN_present1_116 : decode b_EN_present 116 = .ok (.iload_n 3, 1) := by decide +kernel
theorem d_EN_present1_117 : decode b_EN_present 117 = .ok (.iload 4, 2) := by decide +kernel
theorem d_EN_present1_119 : decode b_EN_present 119 = .ok (.invokevirtual 102, 3) := by decide +kernel
theorem d_EN_present1_122 : decode b_EN_present 122 = .ok (.goto (13), 3) := by decide +kernel
theorem d_EN_present1_125 : decode b_EN_present 125 = .ok (.aload_n 0, 1) := by decide +kernel
theorem d_EN_present1_126 : decode b_EN_present 126 = .ok (.iload_n 2, 1) := by decide +kernel
theorem d_EN_present1_127 : decode b_EN_present 127 = .ok (.iconst 1, 1) := by decide +kernel
theorem d_EN_present1_128 : decode b_EN_present 128 = .ok (.invokestatic 106, 3) := by decide +kernel
theorem d_EN_present1_131 : decode b_EN_present 131 = .ok (.iload_n 3, 1) := by decide +kernel
theorem d_EN_present1_132 : decode b_EN_present 132 = .ok (.invokevirtual 112, 3) := by decide +kernel
theorem d_EN_present1_135 : decode b_EN_present 135 = .ok (.aload_n 0, 1) := by decide +kernel
theorem d_EN_present1_136 : decode b_EN_present 136 = .ok (.getfield 19, 3) := by decide +kernel
theorem d_EN_present1_139 : decode b_EN_present 139 = .ok (.invokevirtual 40, 3) := by decide +kernel
theorem d_EN_present1_142 : decode b_EN_present 142 = .ok (.ireturn, 1) := by decide +kernel
set_option maxHeartbeats 4000000 in
set_option maxRecDepth 100000 in
theorem c_EN_present1 (l : Launch) (D : va_G) (cI cB : ClassId) (x d la t ba tt : Nat) (ad : Nat → Nat) (V : Int) (tx : List Int) (kI vI kN vN : Nat) (kd : Int) (pr : Nat) (gr pt : Int) (B : Int64) (hkd : 0 ≤ kd ∧ kd ≤ 2) (hpr : pr ≤ 1200) (hgr : gr = 0 ∨ gr = 1) (hpt : pt = 0 ∨ pt = 1) : Ct l y_EN_present (ws_EN_present) 6 (AX x d la t ba) [.ref x, .int (iz kd), .int (iz (pr : Int)), .int (iz gr), .int (iz pt), .long B, .ref (ad 1)] (fun U H => XW D cI cB x d la t ba tt ad V tx U H ∧ SX (AX x d la t ba) kI vI kN vN U H) (zR (some (.int (iz ((outT 23 255 (-149) kd pr gr pt B).length : Int)))) (XO D cI cB x d la t ba tt ad (outT 23 255 (-149) kd pr gr pt B))) := by
  refine z_body (zSt_and zSt_XW zSt_SX) (by decide +kernel) rfl (Nat.le_of_ble_eq_true rfl) ?_
  intro p e s m args below meth c ls hx hb hml hr hlk hts0 hown hpre0 H locs hpre hS hl
  have hts : ∀ w ∈ TBL, w.before args s = true := fun w hw => hts0 w (List.mem_cons_of_mem _ hw)
  have hl : lv_has ls 8 [(0, .ref x), (1, .int (iz kd)), (2, .int (iz (pr : Int))), (3, .int (iz gr)), (4, .int (iz pt)), (5, .long B), (7, .ref (ad 1))] := hl
  have hw := hpre.1
  have hst0 := hpre0.1.st
  have hsx := hpre0.2
  obtain ⟨Vw, hVw⟩ : ∃ v, v = Wd (cfB 23 256 B) (-149 + max (exB 23 256 B - 1) 0) := ⟨_, rfl⟩
  refine lv_aload_n hx hb d_EN_present1_0 rfl (lv_at hl 0 rfl) ?_
  have hw9 := hw
  obtain ⟨lt, f, fi, g, n, ⟨hK, hP, hD⟩, hdec, htx, -⟩ := hw9
  have hdr := hdec.1
  have htn := htx.1
  have htl := htx.2.1
  have hP : va_P D vwCl [(x, .inr (0, [.ref d, .ref t])), (d, .inr (1, [.ref la, .int (iz fi), .int (iz lt)])), (la, .inl (cI, 155, .inl (az f))), (t, .inr (2, [.ref ba, .int (iz n)])), (ba, .inl (cB, 1612, .inl (az g)))] H := hP
  have hD : va_D (AX x d la t ba) [(x, .inr (0, [.ref d, .ref t])), (d, .inr (1, [.ref la, .int (iz fi), .int (iz lt)])), (la, .inl (cI, 155, .inl (az f))), (t, .inr (2, [.ref ba, .int (iz n)])), (ba, .inl (cB, 1612, .inl (az g)))] := hD
  refine va_get (D := D) (ci := 0) (v := .ref t) (C := R_0) (T := T_0) (N := 2) hx hb hts in_0 hown hK hP 0 rfl rfl 1 (by decide) (hts _ tw_59) (fun _ h9 => h9) rfl d_EN_present1_1 ?_
  have hct := c_Tx_clear l D cI cB x d la t ba tt ad V tx
  refine z_go (va_runV (As := []) (rest := []) ⟨hx, hb, hml, hown, hts⟩ hct.2 (z_cwV hts w_Tx_clear tw_149 (by decide)) (z_preV hct.1 (va_recv hK hP (ci := 2) (q0 := 3) rfl rfl) hw) rfl rfl hl.1 rfl (lv_room (Nat.le_of_ble_eq_true rfl)) d_EN_present1_4 ⟨Nat.zero_le _, Nat.zero_le _⟩) hS (fun _ h9 => h9) (fun v9 t9 H locs hv9 hp9 hz9 hk9 hS => ?_)
  obtain ⟨rfl, hw⟩ := hp9
  have hw := XW.moved hv9.symm hw
  refine W.eq (g2 := F0 m 7 ls []) rfl ?_
  refine lv_aload hx hb d_EN_present1_7 (lv_at hl 6 rfl) ?_
  refine lv_lload hx hb d_EN_present1_9 (lv_at hl 5 rfl) ?_
  have hct := c_Fm_fin1 l D cI cB x d la t ba tt ad V [] B
  refine z_go (va_runV (As := [.long B]) (rest := []) ⟨hx, hb, hml, hown, hts⟩ hct.2 (z_cwV hts w_Fm_isFinite tw_153 (by decide)) (z_preV hct.1 (va_recvE hst0.2.2 (i := 1) (by decide) hS) hw) rfl rfl hl.1 rfl (lv_room (Nat.le_of_ble_eq_true rfl)) d_EN_present1_11 ⟨Nat.zero_le _, Nat.zero_le _⟩) hS (fun _ h9 => h9) (fun v9 t9 H locs hv9 hp9 hz9 hk9 hS => ?_)
  obtain ⟨rfl, hw⟩ := hp9
  have hw := XW.moved hv9.symm hw
  refine W.eq (g2 := F0 m 14 ls [.int (iz (if exB 23 256 B = 255 then 0 else 1))]) rfl ?_
  refine z_if_ne (tgt := 49) hx hb d_EN_present1_14 rfl (by split <;> exact ⟨by omega, by omega⟩) (fun hc14 => ?_) (fun hc14 => ?_)
  · have hex8 : ¬ exB 23 256 B = 255 := fun h8 => hc14 (if_pos h8)
    have hfb := fin_b1 hex8
    have hW0 : 0 ≤ Vw := by rw [hVw]; exact Wd_nn hfb.1.1
    have hWlt : Vw < 10 ^ 1389 := by rw [hVw]; exact Wd_lt hfb.1 hfb.2
    have hWl2 : Vw < 10 ^ 1388 * 2 := by rw [hVw]; exact Wd_lt2 hfb.1 hfb.2
    have hle : -324 ≤ lead Vw ∧ lead Vw ≤ 308 := ⟨by rw [hVw]; exact Wd_lead hfb.1.1 hfb.2.1, by have := lead_lt hW0 hWlt (by decide); omega⟩
    have hcf8 := hfb.1
    have hq8 := hfb.2
    refine lv_aload_n hx hb d_EN_present1_49 rfl (lv_at hl 0 rfl) ?_
    have hw9 := hw
    obtain ⟨lt, f, fi, g, n, ⟨hK, hP, hD⟩, hdec, htx, -⟩ := hw9
    have hdr := hdec.1
    have htn := htx.1
    have htl := htx.2.1
    have hP : va_P D vwCl [(x, .inr (0, [.ref d, .ref t])), (d, .inr (1, [.ref la, .int (iz fi), .int (iz lt)])), (la, .inl (cI, 155, .inl (az f))), (t, .inr (2, [.ref ba, .int (iz n)])), (ba, .inl (cB, 1612, .inl (az g)))] H := hP
    have hD : va_D (AX x d la t ba) [(x, .inr (0, [.ref d, .ref t])), (d, .inr (1, [.ref la, .int (iz fi), .int (iz lt)])), (la, .inl (cI, 155, .inl (az f))), (t, .inr (2, [.ref ba, .int (iz n)])), (ba, .inl (cB, 1612, .inl (az g)))] := hD
    refine va_get (D := D) (ci := 0) (v := .ref d) (C := R_0) (T := T_0) (N := 2) hx hb hts in_0 hown hK hP 0 rfl rfl 0 (by decide) (hts _ tw_58) (fun _ h9 => h9) rfl d_EN_present1_50 ?_
    refine lv_aload hx hb d_EN_present1_53 (lv_at hl 6 rfl) ?_
    refine lv_lload hx hb d_EN_present1_55 (lv_at hl 5 rfl) ?_
    have hct := c_Fm_coef1 l D cI cB x d la t ba tt ad V [] B
    refine z_go (va_runV (As := [.long B]) (rest := [.ref d]) ⟨hx, hb, hml, hown, hts⟩ hct.2 (z_cwV hts w_Fm_coefficient tw_233 (by decide)) (z_preV hct.1 (va_recvE hst0.2.2 (i := 1) (by decide) hS) hw) rfl rfl hl.1 rfl (lv_room (Nat.le_of_ble_eq_true rfl)) d_EN_present1_57 ⟨Nat.zero_le _, Nat.zero_le _⟩) hS (fun _ h9 => h9) (fun v9 t9 H locs hv9 hp9 hz9 hk9 hS => ?_)
    obtain ⟨rfl, hw⟩ := hp9
    have hw := XW.moved hv9.symm hw
    refine W.eq (g2 := F0 m 60 ls [.long (lz (cfB 23 256 B)), .ref d]) rfl ?_
    refine lv_aload hx hb d_EN_present1_60 (lv_at hl 6 rfl) ?_
    refine lv_lload hx hb d_EN_present1_62 (lv_at hl 5 rfl) ?_
    have hct := c_Fm_pow1 l D cI cB x d la t ba tt ad V [] B
    refine z_go (va_runV (As := [.long B]) (rest := [.long (lz (cfB 23 256 B)), .ref d]) ⟨hx, hb, hml, hown, hts⟩ hct.2 (z_cwV hts w_Fm_power tw_237 (by decide)) (z_preV hct.1 (va_recvE hst0.2.2 (i := 1) (by decide) hS) hw) rfl rfl hl.1 rfl (lv_room (Nat.le_of_ble_eq_true rfl)) d_EN_present1_64 ⟨Nat.zero_le _, Nat.zero_le _⟩) hS (fun _ h9 => h9) (fun v9 t9 H locs hv9 hp9 hz9 hk9 hS => ?_)
    obtain ⟨rfl, hw⟩ := hp9
    have hw := XW.moved hv9.symm hw
    refine W.eq (g2 := F0 m 67 ls [.int (iz (-149 + max (exB 23 256 B - 1) 0)), .long (lz (cfB 23 256 B)), .ref d]) rfl ?_
    have hct := c_Dc_assign l D cI cB x d la t ba tt ad V [] (cfB 23 256 B) (-149 + max (exB 23 256 B - 1) 0) Vw ⟨by omega, by omega⟩ ⟨by omega, by omega⟩ hW0 (by rw [hVw]; exact Wd_eq (by omega)) (fun _ => by rw [hVw]; exact Wd_lt155 hfb.1 hfb.2)
    have hw9 := hw
    obtain ⟨lt, f, fi, g, n, ⟨hK, hP, hD⟩, hdec, htx, -⟩ := hw9
    have hdr := hdec.1
    have htn := htx.1
    have htl := htx.2.1
    have hP : va_P D vwCl [(x, .inr (0, [.ref d, .ref t])), (d, .inr (1, [.ref la, .int (iz fi), .int (iz lt)])), (la, .inl (cI, 155, .inl (az f))), (t, .inr (2, [.ref ba, .int (iz n)])), (ba, .inl (cB, 1612, .inl (az g)))] H := hP
    have hD : va_D (AX x d la t ba) [(x, .inr (0, [.ref d, .ref t])), (d, .inr (1, [.ref la, .int (iz fi), .int (iz lt)])), (la, .inl (cI, 155, .inl (az f))), (t, .inr (2, [.ref ba, .int (iz n)])), (ba, .inl (cB, 1612, .inl (az g)))] := hD
    refine z_go (va_runV (As := [.long (lz (cfB 23 256 B)), .int (iz (-149 + max (exB 23 256 B - 1) 0))]) (rest := []) ⟨hx, hb, hml, hown, hts⟩ hct.2 (z_cwV hts w_Dc_assign tw_244 (by decide)) (z_preV hct.1 (va_recv hK hP (ci := 1) (q0 := 1) rfl rfl) hw) rfl rfl hl.1 rfl (lv_room (Nat.le_of_ble_eq_true rfl)) d_EN_present1_67 ⟨Nat.zero_le _, Nat.zero_le _⟩) hS (fun _ h9 => h9) (fun v9 t9 H locs hv9 hp9 hz9 hk9 hS => ?_)
    obtain ⟨rfl, hw⟩ := hp9
    have hw := XW.moved hv9.symm hw
    refine W.eq (g2 := F0 m 70 ls []) rfl ?_
    refine lv_iload_n hx hb d_EN_present1_70 rfl (lv_at hl 1 rfl) ?_
    refine z_if_ne (tgt := 100) hx hb d_EN_present1_71 rfl ⟨by omega, by omega⟩ (fun hc71 => ?_) (fun hc71 => ?_)
    · refine lv_iload_n hx hb d_EN_present1_100 rfl (lv_at hl 1 rfl) ?_
      refine lv_iconst (v := iz 1) hx hb d_EN_present1_101 rfl ?_
      refine z_icmp_ne (tgt := 125) hx hb d_EN_present1_102 rfl ⟨by omega, by omega⟩ ⟨by omega, by omega⟩ (fun hc102 => ?_) (fun hc102 => ?_)
      · have hr8 := lead_rup (t := lead Vw + 1 - ((max pr 1 : Nat) : Int)) hW0 hWl2 (Or.inl (by omega))
        have hr9 := lead_up (t := lead Vw + 1 - ((max pr 1 : Nat) : Int)) hW0
        refine lv_aload_n hx hb d_EN_present1_125 rfl (lv_at hl 0 rfl) ?_
        refine lv_iload_n hx hb d_EN_present1_126 rfl (lv_at hl 2 rfl) ?_
        refine lv_iconst (v := iz 1) hx hb d_EN_present1_127 rfl ?_
        refine z_mmax hx hb (hml.trans hl.1.symm) hown (hts _ tw_327) (hts _ tw_242) (hts _ tw_16) (hts _ twm_max) (Nat.le_of_ble_eq_true rfl) (Nat.le_of_ble_eq_true rfl) (Nat.zero_le _) (Nat.zero_le _) ⟨by omega, by omega⟩ ⟨by omega, by omega⟩ d_EN_present1_128 ?_
        refine z_ri (b := ((max pr 1 : Nat) : Int)) (by omega) ?_
        refine lv_iload_n hx hb d_EN_present1_131 rfl (lv_at hl 3 rfl) ?_
        have hct := c_EN_short l D cI cB x d la t ba tt ad Vw [] (max pr 1) gr ⟨by omega, by omega⟩ hgr hW0 hWlt ⟨by omega, by omega⟩ ⟨by omega, by omega⟩ rfl
        have hw9 := hw
        obtain ⟨lt, f, fi, g, n, ⟨hK, hP, hD⟩, hdec, htx, -⟩ := hw9
        have hdr := hdec.1
        have htn := htx.1
        have htl := htx.2.1
        have hP : va_P D vwCl [(x, .inr (0, [.ref d, .ref t])), (d, .inr (1, [.ref la, .int (iz fi), .int (iz lt)])), (la, .inl (cI, 155, .inl (az f))), (t, .inr (2, [.ref ba, .int (iz n)])), (ba, .inl (cB, 1612, .inl (az g)))] H := hP
        have hD : va_D (AX x d la t ba) [(x, .inr (0, [.ref d, .ref t])), (d, .inr (1, [.ref la, .int (iz fi), .int (iz lt)])), (la, .inl (cI, 155, .inl (az f))), (t, .inr (2, [.ref ba, .int (iz n)])), (ba, .inl (cB, 1612, .inl (az g)))] := hD
        refine z_go (va_runV (As := [.int (iz ((max pr 1 : Nat) : Int)), .int (iz gr)]) (rest := []) ⟨hx, hb, hml, hown, hts⟩ hct.2 (z_cwV hts w_EN_writeShorter tw_328 (by decide)) (z_preV hct.1 (va_recv hK hP (ci := 0) (q0 := 0) rfl rfl) hw) rfl rfl hl.1 rfl (lv_room (Nat.le_of_ble_eq_true rfl)) d_EN_present1_132 ⟨Nat.zero_le _, Nat.zero_le _⟩) hS (fun _ h9 => h9) (fun v9 t9 H locs hv9 hp9 hz9 hk9 hS => ?_)
        obtain ⟨rfl, hw⟩ := hp9
        have hw := XW.moved hv9.symm hw
        refine W.eq (g2 := F0 m 135 ls []) rfl ?_
        refine lv_aload_n hx hb d_EN_present1_135 rfl (lv_at hl 0 rfl) ?_
        have hw9 := hw
        obtain ⟨lt, f, fi, g, n, ⟨hK, hP, hD⟩, hdec, htx, -⟩ := hw9
        have hdr := hdec.1
        have htn := htx.1
        have htl := htx.2.1
        have hP : va_P D vwCl [(x, .inr (0, [.ref d, .ref t])), (d, .inr (1, [.ref la, .int (iz fi), .int (iz lt)])), (la, .inl (cI, 155, .inl (az f))), (t, .inr (2, [.ref ba, .int (iz n)])), (ba, .inl (cB, 1612, .inl (az g)))] H := hP
        have hD : va_D (AX x d la t ba) [(x, .inr (0, [.ref d, .ref t])), (d, .inr (1, [.ref la, .int (iz fi), .int (iz lt)])), (la, .inl (cI, 155, .inl (az f))), (t, .inr (2, [.ref ba, .int (iz n)])), (ba, .inl (cB, 1612, .inl (az g)))] := hD
        refine va_get (D := D) (ci := 0) (v := .ref t) (C := R_0) (T := T_0) (N := 2) hx hb hts in_0 hown hK hP 0 rfl rfl 1 (by decide) (hts _ tw_59) (fun _ h9 => h9) rfl d_EN_present1_136 ?_
        have hct := c_Tx_length l D cI cB x d la t ba tt ad ((rup Vw (lead Vw + 1 - ((max pr 1 : Nat) : Int)))) (([] ++ genL (rnd Vw (lead Vw + 1 - ((max pr 1 : Nat) : Int))) (max pr 1) gr))
        refine z_go (va_runV (As := []) (rest := []) ⟨hx, hb, hml, hown, hts⟩ hct.2 (z_cwV hts w_Tx_length tw_229 (by decide)) (z_preV hct.1 (va_recv hK hP (ci := 2) (q0 := 3) rfl rfl) hw) rfl rfl hl.1 rfl (lv_room (Nat.le_of_ble_eq_true rfl)) d_EN_present1_139 ⟨Nat.zero_le _, Nat.zero_le _⟩) hS (fun _ h9 => h9) (fun v9 t9 H locs hv9 hp9 hz9 hk9 hS => ?_)
        obtain ⟨rfl, hw⟩ := hp9
        have hw := XW.moved hv9.symm hw
        refine W.eq (g2 := F0 m 142 ls [.int (iz ((([] ++ genL (rnd Vw (lead Vw + 1 - ((max pr 1 : Nat) : Int))) (max pr 1) gr)).length : Int))]) rfl ?_
        have hO : outT 23 255 (-149) kd pr gr pt B = ([] ++ genL (rnd Vw (lead Vw + 1 - ((max pr 1 : Nat) : Int))) (max pr 1) gr) := by
          rw [outT1_fin hex8, ← hVw]
          unfold fmt
          rw [if_neg hc71, if_neg hc102]
          rfl
        exact z_iret hx hb hr hlk hS (zR_st (zSt_of zSa_XO)) ⟨by rw [hO], _, by rw [hO]; exact hw⟩ d_EN_present1_142
      · have hr8 := lead_rup (t := -(pr : Int)) hW0 hWl2 (Or.inr (by omega))
        have hr9 := lead_up (t := -(pr : Int)) hW0
        refine lv_aload_n hx hb d_EN_present1_105 rfl (lv_at hl 0 rfl) ?_
        have hw9 := hw
        obtain ⟨lt, f, fi, g, n, ⟨hK, hP, hD⟩, hdec, htx, -⟩ := hw9
        have hdr := hdec.1
        have htn := htx.1
        have htl := htx.2.1
        have hP : va_P D vwCl [(x, .inr (0, [.ref d, .ref t])), (d, .inr (1, [.ref la, .int (iz fi), .int (iz lt)])), (la, .inl (cI, 155, .inl (az f))), (t, .inr (2, [.ref ba, .int (iz n)])), (ba, .inl (cB, 1612, .inl (az g)))] H := hP
        have hD : va_D (AX x d la t ba) [(x, .inr (0, [.ref d, .ref t])), (d, .inr (1, [.ref la, .int (iz fi), .int (iz lt)])), (la, .inl (cI, 155, .inl (az f))), (t, .inr (2, [.ref ba, .int (iz n)])), (ba, .inl (cB, 1612, .inl (az g)))] := hD
        refine va_get (D := D) (ci := 0) (v := .ref d) (C := R_0) (T := T_0) (N := 2) hx hb hts in_0 hown hK hP 0 rfl rfl 0 (by decide) (hts _ tw_58) (fun _ h9 => h9) rfl d_EN_present1_106 ?_
        refine lv_iload_n hx hb d_EN_present1_109 rfl (lv_at hl 2 rfl) ?_
        refine z_ineg hx hb d_EN_present1_110 ?_
        have hct := c_Dc_roundAt l D cI cB x d la t ba tt ad Vw [] (-(pr : Int)) ⟨by omega, by omega⟩ hW0 hWlt
        refine z_go (va_runV (As := [.int (iz (-(pr : Int)))]) (rest := []) ⟨hx, hb, hml, hown, hts⟩ hct.2 (z_cwV hts w_Dc_roundAt tw_277 (by decide)) (z_preV hct.1 (va_recv hK hP (ci := 1) (q0 := 1) rfl rfl) hw) rfl rfl hl.1 rfl (lv_room (Nat.le_of_ble_eq_true rfl)) d_EN_present1_111 ⟨Nat.zero_le _, Nat.zero_le _⟩) hS (fun _ h9 => h9) (fun v9 t9 H locs hv9 hp9 hz9 hk9 hS => ?_)
        obtain ⟨rfl, hw⟩ := hp9
        have hw := XW.moved hv9.symm hw
        refine W.eq (g2 := F0 m 114 ls []) rfl ?_
        refine lv_aload_n hx hb d_EN_present1_114 rfl (lv_at hl 0 rfl) ?_
        refine lv_iload_n hx hb d_EN_present1_115 rfl (lv_at hl 2 rfl) ?_
        refine lv_iload_n hx hb d_EN_present1_116 rfl (lv_at hl 3 rfl) ?_
        refine lv_iload hx hb d_EN_present1_117 (lv_at hl 4 rfl) ?_
        have hct := c_EN_fix l D cI cB x d la t ba tt ad (rup Vw (-(pr : Int))) [] (lead (rup Vw (-(pr : Int)))) pr gr pt (lead_is (rup_nn hW0)) ⟨by omega, by omega⟩ (by omega) hgr hpt (by have h8 := ipR_len (rup Vw (-(pr : Int))) gr (k := max (lead (rup Vw (-(pr : Int)))) 0) (by omega); show 0 + _ + pr + 1 ≤ 1612; omega)
        have hw9 := hw
        obtain ⟨lt, f, fi, g, n, ⟨hK, hP, hD⟩, hdec, htx, -⟩ := hw9
        have hdr := hdec.1
        have htn := htx.1
        have htl := htx.2.1
        have hP : va_P D vwCl [(x, .inr (0, [.ref d, .ref t])), (d, .inr (1, [.ref la, .int (iz fi), .int (iz lt)])), (la, .inl (cI, 155, .inl (az f))), (t, .inr (2, [.ref ba, .int (iz n)])), (ba, .inl (cB, 1612, .inl (az g)))] H := hP
        have hD : va_D (AX x d la t ba) [(x, .inr (0, [.ref d, .ref t])), (d, .inr (1, [.ref la, .int (iz fi), .int (iz lt)])), (la, .inl (cI, 155, .inl (az f))), (t, .inr (2, [.ref ba, .int (iz n)])), (ba, .inl (cB, 1612, .inl (az g)))] := hD
        refine z_go (va_runV (As := [.int (iz (pr : Int)), .int (iz gr), .int (iz pt)]) (rest := []) ⟨hx, hb, hml, hown, hts⟩ hct.2 (z_cwV hts w_EN_writeFixed tw_323 (by decide)) (z_preV hct.1 (va_recv hK hP (ci := 0) (q0 := 0) rfl rfl) hw) rfl rfl hl.1 rfl (lv_room (Nat.le_of_ble_eq_true rfl)) d_EN_present1_119 ⟨Nat.zero_le _, Nat.zero_le _⟩) hS (fun _ h9 => h9) (fun v9 t9 H locs hv9 hp9 hz9 hk9 hS => ?_)
        obtain ⟨rfl, hw⟩ := hp9
        have hw := XW.moved hv9.symm hw
        refine W.eq (g2 := F0 m 122 ls []) rfl ?_
        refine lv_goto (tgt := 135) hx hb d_EN_present1_122 rfl ?_
        refine lv_aload_n hx hb d_EN_present1_135 rfl (lv_at hl 0 rfl) ?_
        have hw9 := hw
        obtain ⟨lt, f, fi, g, n, ⟨hK, hP, hD⟩, hdec, htx, -⟩ := hw9
        have hdr := hdec.1
        have htn := htx.1
        have htl := htx.2.1
        have hP : va_P D vwCl [(x, .inr (0, [.ref d, .ref t])), (d, .inr (1, [.ref la, .int (iz fi), .int (iz lt)])), (la, .inl (cI, 155, .inl (az f))), (t, .inr (2, [.ref ba, .int (iz n)])), (ba, .inl (cB, 1612, .inl (az g)))] H := hP
        have hD : va_D (AX x d la t ba) [(x, .inr (0, [.ref d, .ref t])), (d, .inr (1, [.ref la, .int (iz fi), .int (iz lt)])), (la, .inl (cI, 155, .inl (az f))), (t, .inr (2, [.ref ba, .int (iz n)])), (ba, .inl (cB, 1612, .inl (az g)))] := hD
        refine va_get (D := D) (ci := 0) (v := .ref t) (C := R_0) (T := T_0) (N := 2) hx hb hts in_0 hown hK hP 0 rfl rfl 1 (by decide) (hts _ tw_59) (fun _ h9 => h9) rfl d_EN_present1_136 ?_
        have hct := c_Tx_length l D cI cB x d la t ba tt ad ((rup Vw (-(pr : Int)))) (([] ++ fixL (rup Vw (-(pr : Int))) (lead (rup Vw (-(pr : Int)))) pr gr pt))
        refine z_go (va_runV (As := []) (rest := []) ⟨hx, hb, hml, hown, hts⟩ hct.2 (z_cwV hts w_Tx_length tw_229 (by decide)) (z_preV hct.1 (va_recv hK hP (ci := 2) (q0 := 3) rfl rfl) hw) rfl rfl hl.1 rfl (lv_room (Nat.le_of_ble_eq_true rfl)) d_EN_present1_139 ⟨Nat.zero_le _, Nat.zero_le _⟩) hS (fun _ h9 => h9) (fun v9 t9 H locs hv9 hp9 hz9 hk9 hS => ?_)
        obtain ⟨rfl, hw⟩ := hp9
        have hw := XW.moved hv9.symm hw
        refine W.eq (g2 := F0 m 142 ls [.int (iz ((([] ++ fixL (rup Vw (-(pr : Int))) (lead (rup Vw (-(pr : Int)))) pr gr pt)).length : Int))]) rfl ?_
        have hO : outT 23 255 (-149) kd pr gr pt B = ([] ++ fixL (rup Vw (-(pr : Int))) (lead (rup Vw (-(pr : Int)))) pr gr pt) := by
          rw [outT1_fin hex8, ← hVw]
          unfold fmt
          rw [if_neg hc71, if_pos hc102]
          rw [← fix_same hW0 (Int.le_refl _)]
          rfl
        exact z_iret hx hb hr hlk hS (zR_st (zSt_of zSa_XO)) ⟨by rw [hO], _, by rw [hO]; exact hw⟩ d_EN_present1_142
    · have hr8 := lead_rup (t := lead Vw - (pr : Int)) hW0 hWl2 (Or.inl (by omega))
      have hr9 := lead_up (t := lead Vw - (pr : Int)) hW0
      refine lv_aload_n hx hb d_EN_present1_74 rfl (lv_at hl 0 rfl) ?_
      have hw9 := hw
      obtain ⟨lt, f, fi, g, n, ⟨hK, hP, hD⟩, hdec, htx, -⟩ := hw9
      have hdr := hdec.1
      have htn := htx.1
      have htl := htx.2.1
      have hP : va_P D vwCl [(x, .inr (0, [.ref d, .ref t])), (d, .inr (1, [.ref la, .int (iz fi), .int (iz lt)])), (la, .inl (cI, 155, .inl (az f))), (t, .inr (2, [.ref ba, .int (iz n)])), (ba, .inl (cB, 1612, .inl (az g)))] H := hP
      have hD : va_D (AX x d la t ba) [(x, .inr (0, [.ref d, .ref t])), (d, .inr (1, [.ref la, .int (iz fi), .int (iz lt)])), (la, .inl (cI, 155, .inl (az f))), (t, .inr (2, [.ref ba, .int (iz n)])), (ba, .inl (cB, 1612, .inl (az g)))] := hD
      refine va_get (D := D) (ci := 0) (v := .ref d) (C := R_0) (T := T_0) (N := 2) hx hb hts in_0 hown hK hP 0 rfl rfl 0 (by decide) (hts _ tw_58) (fun _ h9 => h9) rfl d_EN_present1_75 ?_
      refine lv_aload_n hx hb d_EN_present1_78 rfl (lv_at hl 0 rfl) ?_
      refine va_get (D := D) (ci := 0) (v := .ref d) (C := R_0) (T := T_0) (N := 2) hx hb hts in_0 hown hK hP 0 rfl rfl 0 (by decide) (hts _ tw_58) (fun _ h9 => h9) rfl d_EN_present1_79 ?_
      have hct := c_Dc_lead l D cI cB x d la t ba tt ad Vw [] (lead Vw) (lead_is hW0)
      refine z_go (va_runV (As := []) (rest := [.ref d]) ⟨hx, hb, hml, hown, hts⟩ hct.2 (z_cwV hts w_Dc_leadingPlace tw_271 (by decide)) (z_preV hct.1 (va_recv hK hP (ci := 1) (q0 := 1) rfl rfl) hw) rfl rfl hl.1 rfl (lv_room (Nat.le_of_ble_eq_true rfl)) d_EN_present1_82 ⟨Nat.zero_le _, Nat.zero_le _⟩) hS (fun _ h9 => h9) (fun v9 t9 H locs hv9 hp9 hz9 hk9 hS => ?_)
      obtain ⟨rfl, hw⟩ := hp9
      have hw := XW.moved hv9.symm hw
      refine W.eq (g2 := F0 m 85 ls [.int (iz (lead Vw)), .ref d]) rfl ?_
      refine lv_iload_n hx hb d_EN_present1_85 rfl (lv_at hl 2 rfl) ?_
      refine z_isub hx hb d_EN_present1_86 ?_
      have hct := c_Dc_roundAt l D cI cB x d la t ba tt ad Vw [] (lead Vw - (pr : Int)) ⟨by omega, by omega⟩ hW0 hWlt
      have hw9 := hw
      obtain ⟨lt, f, fi, g, n, ⟨hK, hP, hD⟩, hdec, htx, -⟩ := hw9
      have hdr := hdec.1
      have htn := htx.1
      have htl := htx.2.1
      have hP : va_P D vwCl [(x, .inr (0, [.ref d, .ref t])), (d, .inr (1, [.ref la, .int (iz fi), .int (iz lt)])), (la, .inl (cI, 155, .inl (az f))), (t, .inr (2, [.ref ba, .int (iz n)])), (ba, .inl (cB, 1612, .inl (az g)))] H := hP
      have hD : va_D (AX x d la t ba) [(x, .inr (0, [.ref d, .ref t])), (d, .inr (1, [.ref la, .int (iz fi), .int (iz lt)])), (la, .inl (cI, 155, .inl (az f))), (t, .inr (2, [.ref ba, .int (iz n)])), (ba, .inl (cB, 1612, .inl (az g)))] := hD
      refine z_go (va_runV (As := [.int (iz ((lead Vw) - (pr : Int)))]) (rest := []) ⟨hx, hb, hml, hown, hts⟩ hct.2 (z_cwV hts w_Dc_roundAt tw_277 (by decide)) (z_preV hct.1 (va_recv hK hP (ci := 1) (q0 := 1) rfl rfl) hw) rfl rfl hl.1 rfl (lv_room (Nat.le_of_ble_eq_true rfl)) d_EN_present1_87 ⟨Nat.zero_le _, Nat.zero_le _⟩) hS (fun _ h9 => h9) (fun v9 t9 H locs hv9 hp9 hz9 hk9 hS => ?_)
      obtain ⟨rfl, hw⟩ := hp9
      have hw := XW.moved hv9.symm hw
      refine W.eq (g2 := F0 m 90 ls []) rfl ?_
      refine lv_aload_n hx hb d_EN_present1_90 rfl (lv_at hl 0 rfl) ?_
      refine lv_iload_n hx hb d_EN_present1_91 rfl (lv_at hl 2 rfl) ?_
      refine lv_iload hx hb d_EN_present1_92 (lv_at hl 4 rfl) ?_
      have hct := c_EN_sci l D cI cB x d la t ba tt ad (rup Vw (lead Vw - (pr : Int))) [] (lead (rup Vw (lead Vw - (pr : Int)))) pr pt (lead_is (rup_nn hW0)) ⟨by omega, by omega⟩ (by omega) hpt (by show 0 + pr + 7 ≤ 1612; omega)
      have hw9 := hw
      obtain ⟨lt, f, fi, g, n, ⟨hK, hP, hD⟩, hdec, htx, -⟩ := hw9
      have hdr := hdec.1
      have htn := htx.1
      have htl := htx.2.1
      have hP : va_P D vwCl [(x, .inr (0, [.ref d, .ref t])), (d, .inr (1, [.ref la, .int (iz fi), .int (iz lt)])), (la, .inl (cI, 155, .inl (az f))), (t, .inr (2, [.ref ba, .int (iz n)])), (ba, .inl (cB, 1612, .inl (az g)))] H := hP
      have hD : va_D (AX x d la t ba) [(x, .inr (0, [.ref d, .ref t])), (d, .inr (1, [.ref la, .int (iz fi), .int (iz lt)])), (la, .inl (cI, 155, .inl (az f))), (t, .inr (2, [.ref ba, .int (iz n)])), (ba, .inl (cB, 1612, .inl (az g)))] := hD
      refine z_go (va_runV (As := [.int (iz (pr : Int)), .int (iz pt)]) (rest := []) ⟨hx, hb, hml, hown, hts⟩ hct.2 (z_cwV hts w_EN_writeScientific tw_302 (by decide)) (z_preV hct.1 (va_recv hK hP (ci := 0) (q0 := 0) rfl rfl) hw) rfl rfl hl.1 rfl (lv_room (Nat.le_of_ble_eq_true rfl)) d_EN_present1_94 ⟨Nat.zero_le _, Nat.zero_le _⟩) hS (fun _ h9 => h9) (fun v9 t9 H locs hv9 hp9 hz9 hk9 hS => ?_)
      obtain ⟨rfl, hw⟩ := hp9
      have hw := XW.moved hv9.symm hw
      refine W.eq (g2 := F0 m 97 ls []) rfl ?_
      refine lv_goto (tgt := 135) hx hb d_EN_present1_97 rfl ?_
      refine lv_aload_n hx hb d_EN_present1_135 rfl (lv_at hl 0 rfl) ?_
      have hw9 := hw
      obtain ⟨lt, f, fi, g, n, ⟨hK, hP, hD⟩, hdec, htx, -⟩ := hw9
      have hdr := hdec.1
      have htn := htx.1
      have htl := htx.2.1
      have hP : va_P D vwCl [(x, .inr (0, [.ref d, .ref t])), (d, .inr (1, [.ref la, .int (iz fi), .int (iz lt)])), (la, .inl (cI, 155, .inl (az f))), (t, .inr (2, [.ref ba, .int (iz n)])), (ba, .inl (cB, 1612, .inl (az g)))] H := hP
      have hD : va_D (AX x d la t ba) [(x, .inr (0, [.ref d, .ref t])), (d, .inr (1, [.ref la, .int (iz fi), .int (iz lt)])), (la, .inl (cI, 155, .inl (az f))), (t, .inr (2, [.ref ba, .int (iz n)])), (ba, .inl (cB, 1612, .inl (az g)))] := hD
      refine va_get (D := D) (ci := 0) (v := .ref t) (C := R_0) (T := T_0) (N := 2) hx hb hts in_0 hown hK hP 0 rfl rfl 1 (by decide) (hts _ tw_59) (fun _ h9 => h9) rfl d_EN_present1_136 ?_
      have hct := c_Tx_length l D cI cB x d la t ba tt ad ((rup Vw (lead Vw - (pr : Int)))) (([] ++ sciL (rup Vw (lead Vw - (pr : Int))) (lead (rup Vw (lead Vw - (pr : Int)))) pr pt))
      refine z_go (va_runV (As := []) (rest := []) ⟨hx, hb, hml, hown, hts⟩ hct.2 (z_cwV hts w_Tx_length tw_229 (by decide)) (z_preV hct.1 (va_recv hK hP (ci := 2) (q0 := 3) rfl rfl) hw) rfl rfl hl.1 rfl (lv_room (Nat.le_of_ble_eq_true rfl)) d_EN_present1_139 ⟨Nat.zero_le _, Nat.zero_le _⟩) hS (fun _ h9 => h9) (fun v9 t9 H locs hv9 hp9 hz9 hk9 hS => ?_)
      obtain ⟨rfl, hw⟩ := hp9
      have hw := XW.moved hv9.symm hw
      refine W.eq (g2 := F0 m 142 ls [.int (iz ((([] ++ sciL (rup Vw (lead Vw - (pr : Int))) (lead (rup Vw (lead Vw - (pr : Int)))) pr pt)).length : Int))]) rfl ?_
      have hO : outT 23 255 (-149) kd pr gr pt B = ([] ++ sciL (rup Vw (lead Vw - (pr : Int))) (lead (rup Vw (lead Vw - (pr : Int)))) pr pt) := by
        rw [outT1_fin hex8, ← hVw]
        unfold fmt
        rw [if_pos hc71]
        rw [← sci_same hW0 (by omega)]
        rfl
      exact z_iret hx hb hr hlk hS (zR_st (zSt_of zSa_XO)) ⟨by rw [hO], _, by rw [hO]; exact hw⟩ d_EN_present1_142
  · have hex8 : exB 23 256 B = 255 := by
      by_cases h8 : exB 23 256 B = 255
      · exact h8
      · rw [if_neg h8] at hc14
        omega
    refine lv_aload_n hx hb d_EN_present1_17 rfl (lv_at hl 0 rfl) ?_
    have hw9 := hw
    obtain ⟨lt, f, fi, g, n, ⟨hK, hP, hD⟩, hdec, htx, -⟩ := hw9
    have hdr := hdec.1
    have htn := htx.1
    have htl := htx.2.1
    have hP : va_P D vwCl [(x, .inr (0, [.ref d, .ref t])), (d, .inr (1, [.ref la, .int (iz fi), .int (iz lt)])), (la, .inl (cI, 155, .inl (az f))), (t, .inr (2, [.ref ba, .int (iz n)])), (ba, .inl (cB, 1612, .inl (az g)))] H := hP
    have hD : va_D (AX x d la t ba) [(x, .inr (0, [.ref d, .ref t])), (d, .inr (1, [.ref la, .int (iz fi), .int (iz lt)])), (la, .inl (cI, 155, .inl (az f))), (t, .inr (2, [.ref ba, .int (iz n)])), (ba, .inl (cB, 1612, .inl (az g)))] := hD
    refine va_get (D := D) (ci := 0) (v := .ref t) (C := R_0) (T := T_0) (N := 2) hx hb hts in_0 hown hK hP 0 rfl rfl 1 (by decide) (hts _ tw_59) (fun _ h9 => h9) rfl d_EN_present1_18 ?_
    refine lv_aload hx hb d_EN_present1_21 (lv_at hl 6 rfl) ?_
    refine lv_lload hx hb d_EN_present1_23 (lv_at hl 5 rfl) ?_
    have hct := c_Fm_inf1 l D cI cB x d la t ba tt ad V [] B
    refine z_go (va_runV (As := [.long B]) (rest := [.ref t]) ⟨hx, hb, hml, hown, hts⟩ hct.2 (z_cwV hts w_Fm_isInfinity tw_162 (by decide)) (z_preV hct.1 (va_recvE hst0.2.2 (i := 1) (by decide) hS) hw) rfl rfl hl.1 rfl (lv_room (Nat.le_of_ble_eq_true rfl)) d_EN_present1_25 ⟨Nat.zero_le _, Nat.zero_le _⟩) hS (fun _ h9 => h9) (fun v9 t9 H locs hv9 hp9 hz9 hk9 hS => ?_)
    obtain ⟨rfl, hw⟩ := hp9
    have hw := XW.moved hv9.symm hw
    refine W.eq (g2 := F0 m 28 ls [.int (iz (if exB 23 256 B = 255 ∧ frB 23 B = 0 then 1 else 0)), .ref t]) rfl ?_
    refine z_if_eq (tgt := 36) hx hb d_EN_present1_28 rfl (by split <;> exact ⟨by omega, by omega⟩) (fun hc28 => ?_) (fun hc28 => ?_)
    · have hc28n : ¬ frB 23 B = 0 := fun h8 => by
        rw [if_pos ⟨hex8, h8⟩] at hc28
        omega
      refine va_ldcS hx hb hown hsx.2.2.2 d_EN_present1_36 ?_
      have hct := c_Tx_addAll l D cI cB x d la t ba tt ad V [] kN vN nanL (by decide) (by decide)
      have hw9 := hw
      obtain ⟨lt, f, fi, g, n, ⟨hK, hP, hD⟩, hdec, htx, -⟩ := hw9
      have hdr := hdec.1
      have htn := htx.1
      have htl := htx.2.1
      have hP : va_P D vwCl [(x, .inr (0, [.ref d, .ref t])), (d, .inr (1, [.ref la, .int (iz fi), .int (iz lt)])), (la, .inl (cI, 155, .inl (az f))), (t, .inr (2, [.ref ba, .int (iz n)])), (ba, .inl (cB, 1612, .inl (az g)))] H := hP
      have hD : va_D (AX x d la t ba) [(x, .inr (0, [.ref d, .ref t])), (d, .inr (1, [.ref la, .int (iz fi), .int (iz lt)])), (la, .inl (cI, 155, .inl (az f))), (t, .inr (2, [.ref ba, .int (iz n)])), (ba, .inl (cB, 1612, .inl (az g)))] := hD
      refine z_go (va_runV (As := [.ref kN]) (rest := []) ⟨hx, hb, hml, hown, hts⟩ hct.2 (z_cwV hts w_Tx_addAll tw_173 (by decide)) (z_preV hct.1 (va_recv hK hP (ci := 2) (q0 := 3) rfl rfl) ⟨hw, (hsx.2.1).kept hS.2.1⟩) rfl rfl hl.1 rfl (lv_room (Nat.le_of_ble_eq_true rfl)) d_EN_present1_38 ⟨Nat.zero_le _, Nat.zero_le _⟩) hS (fun _ h9 => h9) (fun v9 t9 H locs hv9 hp9 hz9 hk9 hS => ?_)
      obtain ⟨rfl, hw⟩ := hp9
      have hw := XW.moved hv9.symm hw
      refine W.eq (g2 := F0 m 41 ls []) rfl ?_
      refine lv_aload_n hx hb d_EN_present1_41 rfl (lv_at hl 0 rfl) ?_
      have hw9 := hw
      obtain ⟨lt, f, fi, g, n, ⟨hK, hP, hD⟩, hdec, htx, -⟩ := hw9
      have hdr := hdec.1
      have htn := htx.1
      have htl := htx.2.1
      have hP : va_P D vwCl [(x, .inr (0, [.ref d, .ref t])), (d, .inr (1, [.ref la, .int (iz fi), .int (iz lt)])), (la, .inl (cI, 155, .inl (az f))), (t, .inr (2, [.ref ba, .int (iz n)])), (ba, .inl (cB, 1612, .inl (az g)))] H := hP
      have hD : va_D (AX x d la t ba) [(x, .inr (0, [.ref d, .ref t])), (d, .inr (1, [.ref la, .int (iz fi), .int (iz lt)])), (la, .inl (cI, 155, .inl (az f))), (t, .inr (2, [.ref ba, .int (iz n)])), (ba, .inl (cB, 1612, .inl (az g)))] := hD
      refine va_get (D := D) (ci := 0) (v := .ref t) (C := R_0) (T := T_0) (N := 2) hx hb hts in_0 hown hK hP 0 rfl rfl 1 (by decide) (hts _ tw_59) (fun _ h9 => h9) rfl d_EN_present1_42 ?_
      have hct := c_Tx_length l D cI cB x d la t ba tt ad V (([] ++ nanL))
      refine z_go (va_runV (As := []) (rest := []) ⟨hx, hb, hml, hown, hts⟩ hct.2 (z_cwV hts w_Tx_length tw_229 (by decide)) (z_preV hct.1 (va_recv hK hP (ci := 2) (q0 := 3) rfl rfl) hw) rfl rfl hl.1 rfl (lv_room (Nat.le_of_ble_eq_true rfl)) d_EN_present1_45 ⟨Nat.zero_le _, Nat.zero_le _⟩) hS (fun _ h9 => h9) (fun v9 t9 H locs hv9 hp9 hz9 hk9 hS => ?_)
      obtain ⟨rfl, hw⟩ := hp9
      have hw := XW.moved hv9.symm hw
      refine W.eq (g2 := F0 m 48 ls [.int (iz ((([] ++ nanL)).length : Int))]) rfl ?_
      have hO : outT 23 255 (-149) kd pr gr pt B = ([] ++ nanL) := outT1_nan hex8 hc28n
      exact z_iret hx hb hr hlk hS (zR_st (zSt_of zSa_XO)) ⟨by rw [hO], _, by rw [hO]; exact hw⟩ d_EN_present1_48
    · have hc28p : frB 23 B = 0 := by
        by_cases h8 : frB 23 B = 0
        · exact h8
        · exact absurd (if_neg (fun h9 => h8 h9.2)) hc28
      refine va_ldcS hx hb hown hsx.2.2.1 d_EN_present1_31 ?_
      refine lv_goto (tgt := 38) hx hb d_EN_present1_33 rfl ?_
      have hct := c_Tx_addAll l D cI cB x d la t ba tt ad V [] kI vI infL (by decide) (by decide)
      have hw9 := hw
      obtain ⟨lt, f, fi, g, n, ⟨hK, hP, hD⟩, hdec, htx, -⟩ := hw9
      have hdr := hdec.1
      have htn := htx.1
      have htl := htx.2.1
      have hP : va_P D vwCl [(x, .inr (0, [.ref d, .ref t])), (d, .inr (1, [.ref la, .int (iz fi), .int (iz lt)])), (la, .inl (cI, 155, .inl (az f))), (t, .inr (2, [.ref ba, .int (iz n)])), (ba, .inl (cB, 1612, .inl (az g)))] H := hP
      have hD : va_D (AX x d la t ba) [(x, .inr (0, [.ref d, .ref t])), (d, .inr (1, [.ref la, .int (iz fi), .int (iz lt)])), (la, .inl (cI, 155, .inl (az f))), (t, .inr (2, [.ref ba, .int (iz n)])), (ba, .inl (cB, 1612, .inl (az g)))] := hD
      refine z_go (va_runV (As := [.ref kI]) (rest := []) ⟨hx, hb, hml, hown, hts⟩ hct.2 (z_cwV hts w_Tx_addAll tw_173 (by decide)) (z_preV hct.1 (va_recv hK hP (ci := 2) (q0 := 3) rfl rfl) ⟨hw, (hsx.1).kept hS.2.1⟩) rfl rfl hl.1 rfl (lv_room (Nat.le_of_ble_eq_true rfl)) d_EN_present1_38 ⟨Nat.zero_le _, Nat.zero_le _⟩) hS (fun _ h9 => h9) (fun v9 t9 H locs hv9 hp9 hz9 hk9 hS => ?_)
      obtain ⟨rfl, hw⟩ := hp9
      have hw := XW.moved hv9.symm hw
      refine W.eq (g2 := F0 m 41 ls []) rfl ?_
      refine lv_aload_n hx hb d_EN_present1_41 rfl (lv_at hl 0 rfl) ?_
      have hw9 := hw
      obtain ⟨lt, f, fi, g, n, ⟨hK, hP, hD⟩, hdec, htx, -⟩ := hw9
      have hdr := hdec.1
      have htn := htx.1
      have htl := htx.2.1
      have hP : va_P D vwCl [(x, .inr (0, [.ref d, .ref t])), (d, .inr (1, [.ref la, .int (iz fi), .int (iz lt)])), (la, .inl (cI, 155, .inl (az f))), (t, .inr (2, [.ref ba, .int (iz n)])), (ba, .inl (cB, 1612, .inl (az g)))] H := hP
      have hD : va_D (AX x d la t ba) [(x, .inr (0, [.ref d, .ref t])), (d, .inr (1, [.ref la, .int (iz fi), .int (iz lt)])), (la, .inl (cI, 155, .inl (az f))), (t, .inr (2, [.ref ba, .int (iz n)])), (ba, .inl (cB, 1612, .inl (az g)))] := hD
      refine va_get (D := D) (ci := 0) (v := .ref t) (C := R_0) (T := T_0) (N := 2) hx hb hts in_0 hown hK hP 0 rfl rfl 1 (by decide) (hts _ tw_59) (fun _ h9 => h9) rfl d_EN_present1_42 ?_
      have hct := c_Tx_length l D cI cB x d la t ba tt ad V (([] ++ infL))
      refine z_go (va_runV (As := []) (rest := []) ⟨hx, hb, hml, hown, hts⟩ hct.2 (z_cwV hts w_Tx_length tw_229 (by decide)) (z_preV hct.1 (va_recv hK hP (ci := 2) (q0 := 3) rfl rfl) hw) rfl rfl hl.1 rfl (lv_room (Nat.le_of_ble_eq_true rfl)) d_EN_present1_45 ⟨Nat.zero_le _, Nat.zero_le _⟩) hS (fun _ h9 => h9) (fun v9 t9 H locs hv9 hp9 hz9 hk9 hS => ?_)
      obtain ⟨rfl, hw⟩ := hp9
      have hw := XW.moved hv9.symm hw
      refine W.eq (g2 := F0 m 48 ls [.int (iz ((([] ++ infL)).length : Int))]) rfl ?_
      have hO : outT 23 255 (-149) kd pr gr pt B = ([] ++ infL) := outT1_inf hex8 hc28p
      exact z_iret hx hb hr hlk hS (zR_st (zSt_of zSa_XO)) ⟨by rw [hO], _, by rw [hO]; exact hw⟩ d_EN_present1_48
