theorem d_EN_refuse_0 : decode b_EN_refuseOutOfRange 0 = .ok (.iload_n 0, 1) := by decide +kernel
theorem d_EN_refuse_1 : decode b_EN_refuseOutOfRange 1 = .ok (.ifCond .lt (8), 3) := by decide +kernel
theorem d_EN_refuse_4 : decode b_EN_refuseOutOfRange 4 = .ok (.iload_n 0, 1) := by decide +kernel
theorem d_EN_refuse_5 : decode b_EN_refuseOutOfRange 5 = .ok (.iconst 2, 1) := by decide +kernel
theorem d_EN_refuse_6 : decode b_EN_refuseOutOfRange 6 = .ok (.if_icmp .le (13), 3) := by decide +kernel
theorem d_EN_refuse_19 : decode b_EN_refuseOutOfRange 19 = .ok (.iload_n 1, 1) := by decide +kernel
theorem d_EN_refuse_20 : decode b_EN_refuseOutOfRange 20 = .ok (.ifCond .lt (10), 3) := by decide +kernel
theorem d_EN_refuse_23 : decode b_EN_refuseOutOfRange 23 = .ok (.iload_n 1, 1) := by decide +kernel
theorem d_EN_refuse_24 : decode b_EN_refuseOutOfRange 24 = .ok (.sipush (1200), 3) := by decide +kernel
theorem d_EN_refuse_27 : decode b_EN_refuseOutOfRange 27 = .ok (.if_icmp .le (13), 3) := by decide +kernel
theorem d_EN_refuse_40 : decode b_EN_refuseOutOfRange 40 = .ok (.return_, 1) := by decide +kernel
set_option maxHeartbeats 4000000 in
set_option maxRecDepth 100000 in
theorem c_EN_refuse (l : Launch) (D : va_G) (cI cB : ClassId) (x d la t ba tt : Nat) (ad : Nat → Nat) (V : Int) (tx : List Int) (kd pr : Int) (hkd : 0 ≤ kd ∧ kd ≤ 2) (hpr : 0 ≤ pr ∧ pr ≤ 1200) : Ct l y_EN_refuseOutOfRange (ws_EN_refuseOutOfRange) 0 (AX x d la t ba) [.int (iz kd), .int (iz pr)] (XW D cI cB x d la t ba tt ad V tx) (zR none (XW D cI cB x d la t ba tt ad V tx)) := by
  refine z_body zSt_XW (by decide +kernel) rfl (Nat.le_of_ble_eq_true rfl) ?_
  intro p e s m args below meth c ls hx hb hml hr hlk hts0 hown hpre0 H locs hpre hS hl
  have hts : ∀ w ∈ TBL, w.before args s = true := fun w hw => hts0 w (List.mem_cons_of_mem _ hw)
  have hl : lv_has ls 2 [(0, .int (iz kd)), (1, .int (iz pr))] := hl
  have hw := hpre
  have hst0 := hpre0.st
  refine lv_iload_n hx hb d_EN_refuse_0 rfl (lv_at hl 0 rfl) ?_
  refine z_if_lt (tgt := 9) hx hb d_EN_refuse_1 rfl ⟨by omega, by omega⟩ (fun hc1 => ?_) (fun hc1 => ?_)
  · exfalso
    omega
  · refine lv_iload_n hx hb d_EN_refuse_4 rfl (lv_at hl 0 rfl) ?_
    refine lv_iconst (v := iz 2) hx hb d_EN_refuse_5 rfl ?_
    refine z_icmp_le (tgt := 19) hx hb d_EN_refuse_6 rfl ⟨by omega, by omega⟩ ⟨by omega, by omega⟩ (fun hc6 => ?_) (fun hc6 => ?_)
    · refine lv_iload_n hx hb d_EN_refuse_19 rfl (lv_at hl 1 rfl) ?_
      refine z_if_lt (tgt := 30) hx hb d_EN_refuse_20 rfl ⟨by omega, by omega⟩ (fun hc20 => ?_) (fun hc20 => ?_)
      · exfalso
        omega
      · refine lv_iload_n hx hb d_EN_refuse_23 rfl (lv_at hl 1 rfl) ?_
        refine lv_sipush (v := iz 1200) hx hb d_EN_refuse_24 (by decide) ?_
        refine z_icmp_le (tgt := 40) hx hb d_EN_refuse_27 rfl ⟨by omega, by omega⟩ ⟨by omega, by omega⟩ (fun hc27 => ?_) (fun hc27 => ?_)
        · exact z_vret hx hb hr hlk hS (zR_st zSt_XW) ⟨rfl, hw⟩ d_EN_refuse_40
        · exfalso
          omega
    · exfalso
      omega
theorem d_EN_show_0 : decode b_EN_show 0 = .ok (.iload_n 1, 1) := by decide +kernel
theorem d_EN_show_1 : decode b_EN_show 1 = .ok (.iload_n 2, 1) := by decide +kernel
theorem d_EN_show_2 : decode b_EN_show 2 = .ok (.invokestatic 23, 3) := by decide +kernel
theorem d_EN_show_5 : decode b_EN_show 5 = .ok (.aload_n 0, 1) := by decide +kernel
theorem d_EN_show_6 : decode b_EN_show 6 = .ok (.iload_n 1, 1) := by decide +kernel
theorem d_EN_show_7 : decode b_EN_show 7 = .ok (.iload_n 2, 1) := by decide +kernel
theorem d_EN_show_8 : decode b_EN_show 8 = .ok (.iload_n 3, 1) := by decide +kernel
theorem d_EN_show_9 : decode b_EN_show 9 = .ok (.iload 4, 2) := by decide +kernel
theorem d_EN_show_11 : decode b_EN_show 11 = .ok (.lload 5, 2) := by decide +kernel
theorem d_EN_show_13 : decode b_EN_show 13 = .ok (.getstatic 27, 3) := by decide +kernel
theorem d_EN_show_16 : decode b_EN_show 16 = .ok (.invokevirtual 33, 3) := by decide +kernel
theorem d_EN_show_19 : decode b_EN_show 19 = .ok (.ireturn, 1) := by decide +kernel
set_option maxHeartbeats 4000000 in
set_option maxRecDepth 100000 in
theorem c_EN_show (l : Launch) (D : va_G) (cI cB : ClassId) (x d la t ba tt : Nat) (ad : Nat → Nat) (V : Int) (tx : List Int) (kI vI kN vN : Nat) (kd : Int) (pr : Nat) (gr pt : Int) (B : Int64) (hkd : 0 ≤ kd ∧ kd ≤ 2) (hpr : pr ≤ 1200) (hgr : gr = 0 ∨ gr = 1) (hpt : pt = 0 ∨ pt = 1) : Ct l y_EN_show (ws_EN_show) 7 (AX x d la t ba) [.ref x, .int (iz kd), .int (iz (pr : Int)), .int (iz gr), .int (iz pt), .long B] (fun U H => XW D cI cB x d la t ba tt ad V tx U H ∧ SX (AX x d la t ba) kI vI kN vN U H) (zR (some (.int (iz ((outT 52 2047 (-1074) kd pr gr pt B).length : Int)))) (XO D cI cB x d la t ba tt ad (outT 52 2047 (-1074) kd pr gr pt B))) := by
  refine z_body (zSt_and zSt_XW zSt_SX) (by decide +kernel) rfl (Nat.le_of_ble_eq_true rfl) ?_
  intro p e s m args below meth c ls hx hb hml hr hlk hts0 hown hpre0 H locs hpre hS hl
  have hts : ∀ w ∈ TBL, w.before args s = true := fun w hw => hts0 w (List.mem_cons_of_mem _ hw)
  have hl : lv_has ls 7 [(0, .ref x), (1, .int (iz kd)), (2, .int (iz (pr : Int))), (3, .int (iz gr)), (4, .int (iz pt)), (5, .long B)] := hl
  have hw := hpre.1
  have hst0 := hpre0.1.st
  have hsx := hpre0.2
  refine lv_iload_n hx hb d_EN_show_0 rfl (lv_at hl 1 rfl) ?_
  refine lv_iload_n hx hb d_EN_show_1 rfl (lv_at hl 2 rfl) ?_
  have hct := c_EN_refuse l D cI cB x d la t ba tt ad V tx kd (pr : Int) hkd ⟨by omega, by omega⟩
  refine z_go (va_runS (As := [.int (iz kd), .int (iz (pr : Int))]) (rest := []) ⟨hx, hb, hml, hown, hts⟩ hct.2 (z_cwS hts w_EN_refuseOutOfRange tw_73 (by decide)) (z_preS hct.1 hw) rfl rfl hl.1 rfl (lv_room (Nat.le_of_ble_eq_true rfl)) d_EN_show_2 ⟨Nat.zero_le _, Nat.zero_le _⟩) hS (fun _ h9 => h9) (fun v9 t9 H locs hv9 hp9 hz9 hk9 hS => ?_)
  obtain ⟨rfl, hw⟩ := hp9
  have hw := XW.moved hv9.symm hw
  refine W.eq (g2 := F0 m 5 ls []) rfl ?_
  refine lv_aload_n hx hb d_EN_show_5 rfl (lv_at hl 0 rfl) ?_
  refine lv_iload_n hx hb d_EN_show_6 rfl (lv_at hl 1 rfl) ?_
  refine lv_iload_n hx hb d_EN_show_7 rfl (lv_at hl 2 rfl) ?_
  refine lv_iload_n hx hb d_EN_show_8 rfl (lv_at hl 3 rfl) ?_
  refine lv_iload hx hb d_EN_show_9 (lv_at hl 4 rfl) ?_
  refine lv_lload hx hb d_EN_show_11 (lv_at hl 5 rfl) ?_
  refine va_gets hx hb (hst0.2.2.1 0 (by decide)).1 hS hown (hts _ tw_143) (fun _ h9 => h9) d_EN_show_13 ?_
  have hct := c_EN_present0 l D cI cB x d la t ba tt ad V tx kI vI kN vN kd pr gr pt B hkd hpr hgr hpt
  have hw9 := hw
  obtain ⟨lt, f, fi, g, n, ⟨hK, hP, hD⟩, hdec, htx, -⟩ := hw9
  have hdr := hdec.1
  have htn := htx.1
  have htl := htx.2.1
  have hP : va_P D vwCl [(x, .inr (0, [.ref d, .ref t])), (d, .inr (1, [.ref la, .int (iz fi), .int (iz lt)])), (la, .inl (cI, 155, .inl (az f))), (t, .inr (2, [.ref ba, .int (iz n)])), (ba, .inl (cB, 1612, .inl (az g)))] H := hP
  have hD : va_D (AX x d la t ba) [(x, .inr (0, [.ref d, .ref t])), (d, .inr (1, [.ref la, .int (iz fi), .int (iz lt)])), (la, .inl (cI, 155, .inl (az f))), (t, .inr (2, [.ref ba, .int (iz n)])), (ba, .inl (cB, 1612, .inl (az g)))] := hD
  refine z_go (va_runV (As := [.int (iz kd), .int (iz (pr : Int)), .int (iz gr), .int (iz pt), .long B, .ref (ad 0)]) (rest := []) ⟨hx, hb, hml, hown, hts⟩ hct.2 (z_cwV hts w_EN_present tw_145 (by decide)) (z_preV hct.1 (va_recv hK hP (ci := 0) (q0 := 0) rfl rfl) ⟨hw, hsx.1.kept hS.2.1, hsx.2.1.kept hS.2.1, hsx.2.2⟩) rfl rfl hl.1 rfl (lv_room (Nat.le_of_ble_eq_true rfl)) d_EN_show_16 ⟨Nat.zero_le _, Nat.zero_le _⟩) hS (fun _ h9 => h9) (fun v9 t9 H locs hv9 hp9 hz9 hk9 hS => ?_)
  obtain ⟨rfl, hw⟩ := hp9
  have hw := zSa_XO _ s _ hv9.symm hw
  refine W.eq (g2 := F0 m 19 ls [.int (iz ((outT 52 2047 (-1074) kd pr gr pt B).length : Int))]) rfl ?_
  exact z_iret hx hb hr hlk hS (zR_st (zSt_of zSa_XO)) ⟨rfl, hw⟩ d_EN_show_19
theorem d_EN_showFloat_0 : decode b_EN_showFloat 0 = .ok (.iload_n 1, 1) := by decide +kernel
theorem d_EN_showFloat_1 : decode b_EN_showFloat 1 = .ok (.iload_n 2, 1) := by decide +kernel
theorem d_EN_showFloat_2 : decode b_EN_showFloat 2 = .ok (.invokestatic 23, 3) := by decide +kernel
theorem d_EN_showFloat_5 : decode b_EN_showFloat 5 = .ok (.aload_n 0, 1) := by decide +kernel
theorem d_EN_showFloat_6 : decode b_EN_showFloat 6 = .ok (.iload_n 1, 1) := by decide +kernel
theorem d_EN_showFloat_7 : decode b_EN_showFloat 7 = .ok (.iload_n 2, 1) := by decide +kernel
theorem d_EN_showFloat_8 : decode b_EN_showFloat 8 = .ok (.iload_n 3, 1) := by decide +kernel
theorem d_EN_showFloat_9 : decode b_EN_showFloat 9 = .ok (.iload 4, 2) := by decide +kernel
theorem d_EN_showFloat_11 : decode b_EN_showFloat 11 = .ok (.iload 5, 2) := by decide +kernel
theorem d_EN_showFloat_13 : decode b_EN_showFloat 13 = .ok (.i2l, 1) := by decide +kernel
theorem d_EN_showFloat_14 : decode b_EN_showFloat 14 = .ok (.getstatic 37, 3) := by decide +kernel
theorem d_EN_showFloat_17 : decode b_EN_showFloat 17 = .ok (.invokevirtual 33, 3) := by decide +kernel
theorem d_EN_showFloat_20 : decode b_EN_showFloat 20 = .ok (.ireturn, 1) := by decide +kernel
set_option maxHeartbeats 4000000 in
set_option maxRecDepth 100000 in
theorem c_EN_showFloat (l : Launch) (D : va_G) (cI cB : ClassId) (x d la t ba tt : Nat) (ad : Nat → Nat) (V : Int) (tx : List Int) (kI vI kN vN : Nat) (kd : Int) (pr : Nat) (gr pt : Int) (B : Int32) (hkd : 0 ≤ kd ∧ kd ≤ 2) (hpr : pr ≤ 1200) (hgr : gr = 0 ∨ gr = 1) (hpt : pt = 0 ∨ pt = 1) : Ct l y_EN_showFloat (ws_EN_showFloat) 7 (AX x d la t ba) [.ref x, .int (iz kd), .int (iz (pr : Int)), .int (iz gr), .int (iz pt), .int B] (fun U H => XW D cI cB x d la t ba tt ad V tx U H ∧ SX (AX x d la t ba) kI vI kN vN U H) (zR (some (.int (iz ((outT 23 255 (-149) kd pr gr pt B.toInt64).length : Int)))) (XO D cI cB x d la t ba tt ad (outT 23 255 (-149) kd pr gr pt B.toInt64))) := by
  refine z_body (zSt_and zSt_XW zSt_SX) (by decide +kernel) rfl (Nat.le_of_ble_eq_true rfl) ?_
  intro p e s m args below meth c ls hx hb hml hr hlk hts0 hown hpre0 H locs hpre hS hl
  have hts : ∀ w ∈ TBL, w.before args s = true := fun w hw => hts0 w (List.mem_cons_of_mem _ hw)
  have hl : lv_has ls 6 [(0, .ref x), (1, .int (iz kd)), (2, .int (iz (pr : Int))), (3, .int (iz gr)), (4, .int (iz pt)), (5, .int B)] := hl
  have hw := hpre.1
  have hst0 := hpre0.1.st
  have hsx := hpre0.2
  refine lv_iload_n hx hb d_EN_showFloat_0 rfl (lv_at hl 1 rfl) ?_
  refine lv_iload_n hx hb d_EN_showFloat_1 rfl (lv_at hl 2 rfl) ?_
  have hct := c_EN_refuse l D cI cB x d la t ba tt ad V tx kd (pr : Int) hkd ⟨by omega, by omega⟩
  refine z_go (va_runS (As := [.int (iz kd), .int (iz (pr : Int))]) (rest := []) ⟨hx, hb, hml, hown, hts⟩ hct.2 (z_cwS hts w_EN_refuseOutOfRange tw_73 (by decide)) (z_preS hct.1 hw) rfl rfl hl.1 rfl (lv_room (Nat.le_of_ble_eq_true rfl)) d_EN_showFloat_2 ⟨Nat.zero_le _, Nat.zero_le _⟩) hS (fun _ h9 => h9) (fun v9 t9 H locs hv9 hp9 hz9 hk9 hS => ?_)
  obtain ⟨rfl, hw⟩ := hp9
  have hw := XW.moved hv9.symm hw
  refine W.eq (g2 := F0 m 5 ls []) rfl ?_
  refine lv_aload_n hx hb d_EN_showFloat_5 rfl (lv_at hl 0 rfl) ?_
  refine lv_iload_n hx hb d_EN_showFloat_6 rfl (lv_at hl 1 rfl) ?_
  refine lv_iload_n hx hb d_EN_showFloat_7 rfl (lv_at hl 2 rfl) ?_
  refine lv_iload_n hx hb d_EN_showFloat_8 rfl (lv_at hl 3 rfl) ?_
  refine lv_iload hx hb d_EN_showFloat_9 (lv_at hl 4 rfl) ?_
  refine lv_iload hx hb d_EN_showFloat_11 (lv_at hl 5 rfl) ?_
  refine lv_i2l hx hb d_EN_showFloat_13 rfl ?_
  refine va_gets hx hb (hst0.2.2.1 1 (by decide)).1 hS hown (hts _ tw_339) (fun _ h9 => h9) d_EN_showFloat_14 ?_
  have hct := c_EN_present1 l D cI cB x d la t ba tt ad V tx kI vI kN vN kd pr gr pt B.toInt64 hkd hpr hgr hpt
  have hw9 := hw
  obtain ⟨lt, f, fi, g, n, ⟨hK, hP, hD⟩, hdec, htx, -⟩ := hw9
  have hdr := hdec.1
  have htn := htx.1
  have htl := htx.2.1
  have hP : va_P D vwCl [(x, .inr (0, [.ref d, .ref t])), (d, .inr (1, [.ref la, .int (iz fi), .int (iz lt)])), (la, .inl (cI, 155, .inl (az f))), (t, .inr (2, [.ref ba, .int (iz n)])), (ba, .inl (cB, 1612, .inl (az g)))] H := hP
  have hD : va_D (AX x d la t ba) [(x, .inr (0, [.ref d, .ref t])), (d, .inr (1, [.ref la, .int (iz fi), .int (iz lt)])), (la, .inl (cI, 155, .inl (az f))), (t, .inr (2, [.ref ba, .int (iz n)])), (ba, .inl (cB, 1612, .inl (az g)))] := hD
  refine z_go (va_runV (As := [.int (iz kd), .int (iz (pr : Int)), .int (iz gr), .int (iz pt), .long B.toInt64, .ref (ad 1)]) (rest := []) ⟨hx, hb, hml, hown, hts⟩ hct.2 (z_cwV hts w_EN_present tw_145 (by decide)) (z_preV hct.1 (va_recv hK hP (ci := 0) (q0 := 0) rfl rfl) ⟨hw, hsx.1.kept hS.2.1, hsx.2.1.kept hS.2.1, hsx.2.2⟩) rfl rfl hl.1 rfl (lv_room (Nat.le_of_ble_eq_true rfl)) d_EN_showFloat_17 ⟨Nat.zero_le _, Nat.zero_le _⟩) hS (fun _ h9 => h9) (fun v9 t9 H locs hv9 hp9 hz9 hk9 hS => ?_)
  obtain ⟨rfl, hw⟩ := hp9
  have hw := zSa_XO _ s _ hv9.symm hw
  refine W.eq (g2 := F0 m 20 ls [.int (iz ((outT 23 255 (-149) kd pr gr pt B.toInt64).length : Int))]) rfl ?_
  exact z_iret hx hb hr hlk hS (zR_st (zSt_of zSa_XO)) ⟨rfl, hw⟩ d_EN_showFloat_20
theorem d_EN_word_0 : decode b_EN_word 0 = .ok (.iload_n 1, 1) := by decide +kernel
theorem d_EN_word_1 : decode b_EN_word 1 = .ok (.ifCond .lt (14), 3) := by decide +kernel
theorem d_EN_word_4 : decode b_EN_word 4 = .ok (.iload_n 1, 1) := by decide +kernel
theorem d_EN_word_5 : decode b_EN_word 5 = .ok (.aload_n 0, 1) := by decide +kernel
theorem d_EN_word_6 : decode b_EN_word 6 = .ok (.getfield 19, 3) := by decide +kernel
theorem d_EN_word_9 : decode b_EN_word 9 = .ok (.invokevirtual 40, 3) := by decide +kernel
theorem d_EN_word_12 : decode b_EN_word 12 = .ok (.if_icmp .lt (13), 3) := by decide +kernel
theorem d_EN_word_25 : decode b_EN_word 25 = .ok (.aload_n 0, 1) := by decide +kernel
theorem d_EN_word_26 : decode b_EN_word 26 = .ok (.getfield 19, 3) := by decide +kernel
theorem d_EN_word_29 : decode b_EN_word 29 = .ok (.iload_n 1, 1) := by decide +kernel
theorem d_EN_word_30 : decode b_EN_word 30 = .ok (.invokevirtual 51, 3) := by decide +kernel
theorem d_EN_word_33 : decode b_EN_word 33 = .ok (.lreturn, 1) := by decide +kernel
set_option maxHeartbeats 4000000 in
set_option maxRecDepth 100000 in
theorem c_EN_word (l : Launch) (D : va_G) (cI cB : ClassId) (x d la t ba tt : Nat) (ad : Nat → Nat) (V : Int) (tx : List Int) (st : Nat) (hst : st < tx.length) : Ct l y_EN_word (ws_EN_word) 1 (AX x d la t ba) [.ref x, .int (iz (st : Int))] (XW D cI cB x d la t ba tt ad V tx) (zR (some (.long (lz (w8 tx st 8)))) (XW D cI cB x d la t ba tt ad V tx)) := by
  refine z_body zSt_XW (by decide +kernel) rfl (Nat.le_of_ble_eq_true rfl) ?_
  intro p e s m args below meth c ls hx hb hml hr hlk hts0 hown hpre0 H locs hpre hS hl
  have hts : ∀ w ∈ TBL, w.before args s = true := fun w hw => hts0 w (List.mem_cons_of_mem _ hw)
  have hl : lv_has ls 2 [(0, .ref x), (1, .int (iz (st : Int)))] := hl
  have hw := hpre
  have hst0 := hpre0.st
  have hpre1 := hpre0
  obtain ⟨_, _, _, _, _, _, _, htx0, _⟩ := hpre1
  have htl0 := htx0.2.1
  refine lv_iload_n hx hb d_EN_word_0 rfl (lv_at hl 1 rfl) ?_
  refine z_if_lt (tgt := 15) hx hb d_EN_word_1 rfl ⟨by omega, by omega⟩ (fun hc1 => ?_) (fun hc1 => ?_)
  · exfalso
    omega
  · refine lv_iload_n hx hb d_EN_word_4 rfl (lv_at hl 1 rfl) ?_
    refine lv_aload_n hx hb d_EN_word_5 rfl (lv_at hl 0 rfl) ?_
    have hw9 := hw
    obtain ⟨lt, f, fi, g, n, ⟨hK, hP, hD⟩, hdec, htx, -⟩ := hw9
    have hdr := hdec.1
    have htn := htx.1
    have htl := htx.2.1
    have hP : va_P D vwCl [(x, .inr (0, [.ref d, .ref t])), (d, .inr (1, [.ref la, .int (iz fi), .int (iz lt)])), (la, .inl (cI, 155, .inl (az f))), (t, .inr (2, [.ref ba, .int (iz n)])), (ba, .inl (cB, 1612, .inl (az g)))] H := hP
    have hD : va_D (AX x d la t ba) [(x, .inr (0, [.ref d, .ref t])), (d, .inr (1, [.ref la, .int (iz fi), .int (iz lt)])), (la, .inl (cI, 155, .inl (az f))), (t, .inr (2, [.ref ba, .int (iz n)])), (ba, .inl (cB, 1612, .inl (az g)))] := hD
    refine va_get (D := D) (ci := 0) (v := .ref t) (C := R_0) (T := T_0) (N := 2) hx hb hts in_0 hown hK hP 0 rfl rfl 1 (by decide) (hts _ tw_59) (fun _ h9 => h9) rfl d_EN_word_6 ?_
    have hct := c_Tx_length l D cI cB x d la t ba tt ad V tx
    refine z_go (va_runV (As := []) (rest := [.int (iz (st : Int))]) ⟨hx, hb, hml, hown, hts⟩ hct.2 (z_cwV hts w_Tx_length tw_229 (by decide)) (z_preV hct.1 (va_recv hK hP (ci := 2) (q0 := 3) rfl rfl) hw) rfl rfl hl.1 rfl (lv_room (Nat.le_of_ble_eq_true rfl)) d_EN_word_9 ⟨Nat.zero_le _, Nat.zero_le _⟩) hS (fun _ h9 => h9) (fun v9 t9 H locs hv9 hp9 hz9 hk9 hS => ?_)
    obtain ⟨rfl, hw⟩ := hp9
    have hw := XW.moved hv9.symm hw
    refine W.eq (g2 := F0 m 12 ls [.int (iz (tx.length : Int)), .int (iz (st : Int))]) rfl ?_
    refine z_icmp_lt (tgt := 25) hx hb d_EN_word_12 rfl ⟨by omega, by omega⟩ ⟨by omega, by omega⟩ (fun hc12 => ?_) (fun hc12 => ?_)
    · refine lv_aload_n hx hb d_EN_word_25 rfl (lv_at hl 0 rfl) ?_
      have hw9 := hw
      obtain ⟨lt, f, fi, g, n, ⟨hK, hP, hD⟩, hdec, htx, -⟩ := hw9
      have hdr := hdec.1
      have htn := htx.1
      have htl := htx.2.1
      have hP : va_P D vwCl [(x, .inr (0, [.ref d, .ref t])), (d, .inr (1, [.ref la, .int (iz fi), .int (iz lt)])), (la, .inl (cI, 155, .inl (az f))), (t, .inr (2, [.ref ba, .int (iz n)])), (ba, .inl (cB, 1612, .inl (az g)))] H := hP
      have hD : va_D (AX x d la t ba) [(x, .inr (0, [.ref d, .ref t])), (d, .inr (1, [.ref la, .int (iz fi), .int (iz lt)])), (la, .inl (cI, 155, .inl (az f))), (t, .inr (2, [.ref ba, .int (iz n)])), (ba, .inl (cB, 1612, .inl (az g)))] := hD
      refine va_get (D := D) (ci := 0) (v := .ref t) (C := R_0) (T := T_0) (N := 2) hx hb hts in_0 hown hK hP 0 rfl rfl 1 (by decide) (hts _ tw_59) (fun _ h9 => h9) rfl d_EN_word_26 ?_
      refine lv_iload_n hx hb d_EN_word_29 rfl (lv_at hl 1 rfl) ?_
      have hct := c_Tx_eight l D cI cB x d la t ba tt ad V tx st hst
      refine z_go (va_runV (As := [.int (iz (st : Int))]) (rest := []) ⟨hx, hb, hml, hown, hts⟩ hct.2 (z_cwV hts w_Tx_eightFrom tw_365 (by decide)) (z_preV hct.1 (va_recv hK hP (ci := 2) (q0 := 3) rfl rfl) hw) rfl rfl hl.1 rfl (lv_room (Nat.le_of_ble_eq_true rfl)) d_EN_word_30 ⟨Nat.zero_le _, Nat.zero_le _⟩) hS (fun _ h9 => h9) (fun v9 t9 H locs hv9 hp9 hz9 hk9 hS => ?_)
      obtain ⟨rfl, hw⟩ := hp9
      have hw := XW.moved hv9.symm hw
      refine W.eq (g2 := F0 m 33 ls [.long (lz (w8 tx st 8))]) rfl ?_
      exact z_lret hx hb hr hlk hS (zR_st zSt_XW) ⟨rfl, hw⟩ d_EN_word_33
    · exfalso
      omega
