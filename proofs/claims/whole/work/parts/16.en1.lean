theorem d_EN_digit_0 : decode b_EN_writeDigit 0 = .ok (.aload_n 0, 1) := by decide +kernel
theorem d_EN_digit_1 : decode b_EN_writeDigit 1 = .ok (.getfield 19, 3) := by decide +kernel
theorem d_EN_digit_4 : decode b_EN_writeDigit 4 = .ok (.bipush (48), 2) := by decide +kernel
theorem d_EN_digit_6 : decode b_EN_writeDigit 6 = .ok (.iload_n 1, 1) := by decide +kernel
theorem d_EN_digit_7 : decode b_EN_writeDigit 7 = .ok (.iadd, 1) := by decide +kernel
theorem d_EN_digit_8 : decode b_EN_writeDigit 8 = .ok (.i2c, 1) := by decide +kernel
theorem d_EN_digit_9 : decode b_EN_writeDigit 9 = .ok (.invokevirtual 122, 3) := by decide +kernel
theorem d_EN_digit_12 : decode b_EN_writeDigit 12 = .ok (.return_, 1) := by decide +kernel
set_option maxHeartbeats 4000000 in
set_option maxRecDepth 100000 in
theorem c_EN_digit (l : Launch) (D : va_G) (cI cB : ClassId) (x d la t ba tt : Nat) (ad : Nat → Nat) (V : Int) (tx : List Int) (dg : Int) (hdg : 0 ≤ dg ∧ dg ≤ 9) (hlen : tx.length < 1612) : Ct l y_EN_writeDigit (ws_EN_writeDigit) 1 (AX x d la t ba) [.ref x, .int (iz dg)] (XW D cI cB x d la t ba tt ad V tx) (zR none (XW D cI cB x d la t ba tt ad V (tx ++ [48 + dg]))) := by
  refine z_body zSt_XW (by decide +kernel) rfl (Nat.le_of_ble_eq_true rfl) ?_
  intro p e s m args below meth c ls hx hb hml hr hlk hts0 hown hpre0 H locs hpre hS hl
  have hts : ∀ w ∈ TBL, w.before args s = true := fun w hw => hts0 w (List.mem_cons_of_mem _ hw)
  have hl : lv_has ls 2 [(0, .ref x), (1, .int (iz dg))] := hl
  have hw := hpre
  have hst0 := hpre0.st
  refine lv_aload_n hx hb d_EN_digit_0 rfl (lv_at hl 0 rfl) ?_
  have hw9 := hw
  obtain ⟨lt, f, fi, g, n, ⟨hK, hP, hD⟩, hdec, htx, -⟩ := hw9
  have hdr := hdec.1
  have htn := htx.1
  have htl := htx.2.1
  have hP : va_P D vwCl [(x, .inr (0, [.ref d, .ref t])), (d, .inr (1, [.ref la, .int (iz fi), .int (iz lt)])), (la, .inl (cI, 155, .inl (az f))), (t, .inr (2, [.ref ba, .int (iz n)])), (ba, .inl (cB, 1612, .inl (az g)))] H := hP
  have hD : va_D (AX x d la t ba) [(x, .inr (0, [.ref d, .ref t])), (d, .inr (1, [.ref la, .int (iz fi), .int (iz lt)])), (la, .inl (cI, 155, .inl (az f))), (t, .inr (2, [.ref ba, .int (iz n)])), (ba, .inl (cB, 1612, .inl (az g)))] := hD
  refine va_get (D := D) (ci := 0) (v := .ref t) (C := R_0) (T := T_0) (N := 2) hx hb hts in_0 hown hK hP 0 rfl rfl 1 (by decide) (hts _ tw_59) (fun _ h9 => h9) rfl d_EN_digit_1 ?_
  refine lv_bipush (v := iz 48) hx hb d_EN_digit_4 (by decide) ?_
  refine lv_iload_n hx hb d_EN_digit_6 rfl (lv_at hl 1 rfl) ?_
  refine z_iadd hx hb d_EN_digit_7 ?_
  refine z_i2c hx hb d_EN_digit_8 ⟨by omega, by omega⟩ ?_
  have hct := c_Tx_add l D cI cB x d la t ba tt ad V tx (48 + dg) ⟨by omega, by omega⟩ hlen
  refine z_go (va_runV (As := [.int (iz (48 + dg))]) (rest := []) ⟨hx, hb, hml, hown, hts⟩ hct.2 (z_cwV hts w_Tx_add tw_311 (by decide)) (z_preV hct.1 (va_recv hK hP (ci := 2) (q0 := 3) rfl rfl) hw) rfl rfl hl.1 rfl (lv_room (Nat.le_of_ble_eq_true rfl)) d_EN_digit_9 ⟨Nat.zero_le _, Nat.zero_le _⟩) hS (fun _ h9 => h9) (fun v9 t9 H locs hv9 hp9 hz9 hk9 hS => ?_)
  obtain ⟨rfl, hw⟩ := hp9
  have hw := XW.moved hv9.symm hw
  refine W.eq (g2 := F0 m 12 ls []) rfl ?_
  exact z_vret hx hb hr hlk hS (zR_st zSt_XW) ⟨rfl, hw⟩ d_EN_digit_12
theorem d_EN_exp_0 : decode b_EN_writeExponent 0 = .ok (.iload_n 1, 1) := by decide +kernel
theorem d_EN_exp_1 : decode b_EN_writeExponent 1 = .ok (.invokestatic 133, 3) := by decide +kernel
theorem d_EN_exp_4 : decode b_EN_writeExponent 4 = .ok (.istore_n 2, 1) := by decide +kernel
theorem d_EN_exp_5 : decode b_EN_writeExponent 5 = .ok (.aload_n 0, 1) := by decide +kernel
theorem d_EN_exp_6 : decode b_EN_writeExponent 6 = .ok (.getfield 19, 3) := by decide +kernel
theorem d_EN_exp_9 : decode b_EN_writeExponent 9 = .ok (.bipush (101), 2) := by decide +kernel
theorem d_EN_exp_11 : decode b_EN_writeExponent 11 = .ok (.invokevirtual 122, 3) := by decide +kernel
theorem d_EN_exp_14 : decode b_EN_writeExponent 14 = .ok (.aload_n 0, 1) := by decide +kernel
theorem d_EN_exp_15 : decode b_EN_writeExponent 15 = .ok (.getfield 19, 3) := by decide +kernel
theorem d_EN_exp_18 : decode b_EN_writeExponent 18 = .ok (.iload_n 1, 1) := by decide +kernel
theorem d_EN_exp_19 : decode b_EN_writeExponent 19 = .ok (.ifCond .ge (8), 3) := by decide +kernel
theorem d_EN_exp_22 : decode b_EN_writeExponent 22 = .ok (.bipush (45), 2) := by decide +kernel
theorem d_EN_exp_24 : decode b_EN_writeExponent 24 = .ok (.goto (5), 3) := by decide +kernel
theorem d_EN_exp_27 : decode b_EN_writeExponent 27 = .ok (.bipush (43), 2) := by decide +kernel
theorem d_EN_exp_29 : decode b_EN_writeExponent 29 = .ok (.invokevirtual 122, 3) := by decide +kernel
theorem d_EN_exp_32 : decode b_EN_writeExponent 32 = .ok (.iload_n 2, 1) := by decide +kernel
theorem d_EN_exp_33 : decode b_EN_writeExponent 33 = .ok (.bipush (100), 2) := by decide +kernel
theorem d_EN_exp_35 : decode b_EN_writeExponent 35 = .ok (.if_icmp .lt (11), 3) := by decide +kernel
theorem d_EN_exp_38 : decode b_EN_writeExponent 38 = .ok (.aload_n 0, 1) := by decide +kernel
theorem d_EN_exp_39 : decode b_EN_writeExponent 39 = .ok (.iload_n 2, 1) := by decide +kernel
theorem d_EN_exp_40 : decode b_EN_writeExponent 40 = .ok (.bipush (100), 2) := by decide +kernel
theorem d_EN_exp_42 : decode b_EN_writeExponent 42 = .ok (.idiv, 1) := by decide +kernel
theorem d_EN_exp_43 : decode b_EN_writeExponent 43 = .ok (.invokevirtual 119, 3) := by decide +kernel
theorem d_EN_exp_46 : decode b_EN_writeExponent 46 = .ok (.aload_n 0, 1) := by decide +kernel
theorem d_EN_exp_47 : decode b_EN_writeExponent 47 = .ok (.iload_n 2, 1) := by decide +kernel
theorem d_EN_exp_48 : decode b_EN_writeExponent 48 = .ok (.bipush (10), 2) := by decide +kernel
theorem d_EN_exp_50 : decode b_EN_writeExponent 50 = .ok (.idiv, 1) := by decide +kernel
theorem d_EN_exp_51 : decode b_EN_writeExponent 51 = .ok (.bipush (10), 2) := by decide +kernel
theorem d_EN_exp_53 : decode b_EN_writeExponent 53 = .ok (.irem, 1) := by decide +kernel
theorem d_EN_exp_54 : decode b_EN_writeExponent 54 = .ok (.invokevirtual 119, 3) := by decide +kernel
theorem d_EN_exp_57 : decode b_EN_writeExponent 57 = .ok (.aload_n 0, 1) := by decide +kernel
theorem d_EN_exp_58 : decode b_EN_writeExponent 58 = .ok (.iload_n 2, 1) := by decide +kernel
theorem d_EN_exp_59 : decode b_EN_writeExponent 59 = .ok (.bipush (10), 2) := by decide +kernel
theorem d_EN_exp_61 : decode b_EN_writeExponent 61 = .ok (.irem, 1) := by decide +kernel
theorem d_EN_exp_62 : decode b_EN_writeExponent 62 = .ok (.invokevirtual 119, 3) := by decide +kernel
theorem d_EN_exp_65 : decode b_EN_writeExponent 65 = .ok (.return_, 1) := by decide +kernel
set_option maxHeartbeats 4000000 in
set_option maxRecDepth 100000 in
theorem c_EN_exp (l : Launch) (D : va_G) (cI cB : ClassId) (x d la t ba tt : Nat) (ad : Nat → Nat) (V : Int) (tx : List Int) (r : Int) (hr0 : -1100 ≤ r ∧ r ≤ 999) (hr1 : -999 ≤ r) (hlen : tx.length + 5 ≤ 1612) : Ct l y_EN_writeExponent (ws_EN_writeExponent) 2 (AX x d la t ba) [.ref x, .int (iz r)] (XW D cI cB x d la t ba tt ad V tx) (zR none (XW D cI cB x d la t ba tt ad V (tx ++ expL r))) := by
  refine z_body zSt_XW (by decide +kernel) rfl (Nat.le_of_ble_eq_true rfl) ?_
  intro p e s m args below meth c ls hx hb hml hr hlk hts0 hown hpre0 H locs hpre hS hl
  have hts : ∀ w ∈ TBL, w.before args s = true := fun w hw => hts0 w (List.mem_cons_of_mem _ hw)
  have hl : lv_has ls 3 [(0, .ref x), (1, .int (iz r))] := hl
  have hw := hpre
  have hst0 := hpre0.st
  refine lv_iload_n hx hb d_EN_exp_0 rfl (lv_at hl 1 rfl) ?_
  refine z_mabs hx hb (hml.trans hl.1.symm) hown (hts _ tw_320) (hts _ tw_321) (hts _ tw_16) (hts _ twm_abs) (Nat.le_of_ble_eq_true rfl) (Nat.le_of_ble_eq_true rfl) (Nat.zero_le _) (Nat.zero_le _) ⟨by omega, by omega⟩ d_EN_exp_1 ?_
  refine lv_istore_n hx hb d_EN_exp_4 rfl hl (by decide) rfl (fun ls hl => ?_)
  have hl : lv_has ls 3 [(2, .int (iz (max r (-r)))), (0, .ref x), (1, .int (iz r))] := hl
  refine lv_aload_n hx hb d_EN_exp_5 rfl (lv_at hl 1 rfl) ?_
  have hw9 := hw
  obtain ⟨lt, f, fi, g, n, ⟨hK, hP, hD⟩, hdec, htx, -⟩ := hw9
  have hdr := hdec.1
  have htn := htx.1
  have htl := htx.2.1
  have hP : va_P D vwCl [(x, .inr (0, [.ref d, .ref t])), (d, .inr (1, [.ref la, .int (iz fi), .int (iz lt)])), (la, .inl (cI, 155, .inl (az f))), (t, .inr (2, [.ref ba, .int (iz n)])), (ba, .inl (cB, 1612, .inl (az g)))] H := hP
  have hD : va_D (AX x d la t ba) [(x, .inr (0, [.ref d, .ref t])), (d, .inr (1, [.ref la, .int (iz fi), .int (iz lt)])), (la, .inl (cI, 155, .inl (az f))), (t, .inr (2, [.ref ba, .int (iz n)])), (ba, .inl (cB, 1612, .inl (az g)))] := hD
  refine va_get (D := D) (ci := 0) (v := .ref t) (C := R_0) (T := T_0) (N := 2) hx hb hts in_0 hown hK hP 0 rfl rfl 1 (by decide) (hts _ tw_59) (fun _ h9 => h9) rfl d_EN_exp_6 ?_
  refine lv_bipush (v := iz 101) hx hb d_EN_exp_9 (by decide) ?_
  have hct := c_Tx_add l D cI cB x d la t ba tt ad V (tx) (101) ⟨by omega, by omega⟩ (by (try simp only [List.length_append, List.length_cons, List.length_nil]); omega)
  refine z_go (va_runV (As := [.int (iz 101)]) (rest := []) ⟨hx, hb, hml, hown, hts⟩ hct.2 (z_cwV hts w_Tx_add tw_311 (by decide)) (z_preV hct.1 (va_recv hK hP (ci := 2) (q0 := 3) rfl rfl) hw) rfl rfl hl.1 rfl (lv_room (Nat.le_of_ble_eq_true rfl)) d_EN_exp_11 ⟨Nat.zero_le _, Nat.zero_le _⟩) hS (fun _ h9 => h9) (fun v9 t9 H locs hv9 hp9 hz9 hk9 hS => ?_)
  obtain ⟨rfl, hw⟩ := hp9
  have hw := XW.moved hv9.symm hw
  refine W.eq (g2 := F0 m 14 ls []) rfl ?_
  refine lv_aload_n hx hb d_EN_exp_14 rfl (lv_at hl 1 rfl) ?_
  have hw9 := hw
  obtain ⟨lt, f, fi, g, n, ⟨hK, hP, hD⟩, hdec, htx, -⟩ := hw9
  have hdr := hdec.1
  have htn := htx.1
  have htl := htx.2.1
  have hP : va_P D vwCl [(x, .inr (0, [.ref d, .ref t])), (d, .inr (1, [.ref la, .int (iz fi), .int (iz lt)])), (la, .inl (cI, 155, .inl (az f))), (t, .inr (2, [.ref ba, .int (iz n)])), (ba, .inl (cB, 1612, .inl (az g)))] H := hP
  have hD : va_D (AX x d la t ba) [(x, .inr (0, [.ref d, .ref t])), (d, .inr (1, [.ref la, .int (iz fi), .int (iz lt)])), (la, .inl (cI, 155, .inl (az f))), (t, .inr (2, [.ref ba, .int (iz n)])), (ba, .inl (cB, 1612, .inl (az g)))] := hD
  refine va_get (D := D) (ci := 0) (v := .ref t) (C := R_0) (T := T_0) (N := 2) hx hb hts in_0 hown hK hP 0 rfl rfl 1 (by decide) (hts _ tw_59) (fun _ h9 => h9) rfl d_EN_exp_15 ?_
  refine lv_iload_n hx hb d_EN_exp_18 rfl (lv_at hl 2 rfl) ?_
  refine z_if_ge (tgt := 27) hx hb d_EN_exp_19 rfl ⟨by omega, by omega⟩ (fun hc19 => ?_) (fun hc19 => ?_)
  · refine lv_bipush (v := iz 43) hx hb d_EN_exp_27 (by decide) ?_
    have hct := c_Tx_add l D cI cB x d la t ba tt ad V (tx ++ [101]) (43) ⟨by omega, by omega⟩ (by (try simp only [List.length_append, List.length_cons, List.length_nil]); omega)
    refine z_go (va_runV (As := [.int (iz 43)]) (rest := []) ⟨hx, hb, hml, hown, hts⟩ hct.2 (z_cwV hts w_Tx_add tw_311 (by decide)) (z_preV hct.1 (va_recv hK hP (ci := 2) (q0 := 3) rfl rfl) hw) rfl rfl hl.1 rfl (lv_room (Nat.le_of_ble_eq_true rfl)) d_EN_exp_29 ⟨Nat.zero_le _, Nat.zero_le _⟩) hS (fun _ h9 => h9) (fun v9 t9 H locs hv9 hp9 hz9 hk9 hS => ?_)
    obtain ⟨rfl, hw⟩ := hp9
    have hw := XW.moved hv9.symm hw
    refine W.eq (g2 := F0 m 32 ls []) rfl ?_
    refine lv_iload_n hx hb d_EN_exp_32 rfl (lv_at hl 0 rfl) ?_
    refine lv_bipush (v := iz 100) hx hb d_EN_exp_33 (by decide) ?_
    refine z_icmp_lt (tgt := 46) hx hb d_EN_exp_35 rfl ⟨by omega, by omega⟩ ⟨by omega, by omega⟩ (fun hc35 => ?_) (fun hc35 => ?_)
    · refine lv_aload_n hx hb d_EN_exp_46 rfl (lv_at hl 1 rfl) ?_
      refine lv_iload_n hx hb d_EN_exp_47 rfl (lv_at hl 0 rfl) ?_
      refine lv_bipush (v := iz 10) hx hb d_EN_exp_48 (by decide) ?_
      refine z_idiv hx hb d_EN_exp_50 ⟨by omega, by omega⟩ ⟨by omega, by omega⟩ ?_
      refine lv_bipush (v := iz 10) hx hb d_EN_exp_51 (by decide) ?_
      refine z_irem hx hb d_EN_exp_53 ⟨by omega, by omega⟩ ⟨by omega, by omega⟩ ?_
      have hct := c_EN_digit l D cI cB x d la t ba tt ad V ((tx ++ [101] ++ [43])) (((max r (-r)) / 10) % 10) ⟨by omega, by omega⟩ (by (try simp only [List.length_append, List.length_cons, List.length_nil]); omega)
      have hw9 := hw
      obtain ⟨lt, f, fi, g, n, ⟨hK, hP, hD⟩, hdec, htx, -⟩ := hw9
      have hdr := hdec.1
      have htn := htx.1
      have htl := htx.2.1
      have hP : va_P D vwCl [(x, .inr (0, [.ref d, .ref t])), (d, .inr (1, [.ref la, .int (iz fi), .int (iz lt)])), (la, .inl (cI, 155, .inl (az f))), (t, .inr (2, [.ref ba, .int (iz n)])), (ba, .inl (cB, 1612, .inl (az g)))] H := hP
      have hD : va_D (AX x d la t ba) [(x, .inr (0, [.ref d, .ref t])), (d, .inr (1, [.ref la, .int (iz fi), .int (iz lt)])), (la, .inl (cI, 155, .inl (az f))), (t, .inr (2, [.ref ba, .int (iz n)])), (ba, .inl (cB, 1612, .inl (az g)))] := hD
      refine z_go (va_runV (As := [.int (iz (((max r (-r)) / 10) % 10))]) (rest := []) ⟨hx, hb, hml, hown, hts⟩ hct.2 (z_cwV hts w_EN_writeDigit tw_307 (by decide)) (z_preV hct.1 (va_recv hK hP (ci := 0) (q0 := 0) rfl rfl) hw) rfl rfl hl.1 rfl (lv_room (Nat.le_of_ble_eq_true rfl)) d_EN_exp_54 ⟨Nat.zero_le _, Nat.zero_le _⟩) hS (fun _ h9 => h9) (fun v9 t9 H locs hv9 hp9 hz9 hk9 hS => ?_)
      obtain ⟨rfl, hw⟩ := hp9
      have hw := XW.moved hv9.symm hw
      refine W.eq (g2 := F0 m 57 ls []) rfl ?_
      refine lv_aload_n hx hb d_EN_exp_57 rfl (lv_at hl 1 rfl) ?_
      refine lv_iload_n hx hb d_EN_exp_58 rfl (lv_at hl 0 rfl) ?_
      refine lv_bipush (v := iz 10) hx hb d_EN_exp_59 (by decide) ?_
      refine z_irem hx hb d_EN_exp_61 ⟨by omega, by omega⟩ ⟨by omega, by omega⟩ ?_
      have hct := c_EN_digit l D cI cB x d la t ba tt ad V (((tx ++ [101] ++ [43]) ++ [48 + (((max r (-r)) / 10) % 10)])) ((max r (-r)) % 10) ⟨by omega, by omega⟩ (by (try simp only [List.length_append, List.length_cons, List.length_nil]); omega)
      have hw9 := hw
      obtain ⟨lt, f, fi, g, n, ⟨hK, hP, hD⟩, hdec, htx, -⟩ := hw9
      have hdr := hdec.1
      have htn := htx.1
      have htl := htx.2.1
      have hP : va_P D vwCl [(x, .inr (0, [.ref d, .ref t])), (d, .inr (1, [.ref la, .int (iz fi), .int (iz lt)])), (la, .inl (cI, 155, .inl (az f))), (t, .inr (2, [.ref ba, .int (iz n)])), (ba, .inl (cB, 1612, .inl (az g)))] H := hP
      have hD : va_D (AX x d la t ba) [(x, .inr (0, [.ref d, .ref t])), (d, .inr (1, [.ref la, .int (iz fi), .int (iz lt)])), (la, .inl (cI, 155, .inl (az f))), (t, .inr (2, [.ref ba, .int (iz n)])), (ba, .inl (cB, 1612, .inl (az g)))] := hD
      refine z_go (va_runV (As := [.int (iz ((max r (-r)) % 10))]) (rest := []) ⟨hx, hb, hml, hown, hts⟩ hct.2 (z_cwV hts w_EN_writeDigit tw_307 (by decide)) (z_preV hct.1 (va_recv hK hP (ci := 0) (q0 := 0) rfl rfl) hw) rfl rfl hl.1 rfl (lv_room (Nat.le_of_ble_eq_true rfl)) d_EN_exp_62 ⟨Nat.zero_le _, Nat.zero_le _⟩) hS (fun _ h9 => h9) (fun v9 t9 H locs hv9 hp9 hz9 hk9 hS => ?_)
      obtain ⟨rfl, hw⟩ := hp9
      have hw := XW.moved hv9.symm hw
      refine W.eq (g2 := F0 m 65 ls []) rfl ?_
      exact z_vret hx hb hr hlk hS (zR_st zSt_XW) ⟨rfl, by
          unfold expL
          first
            | rw [if_pos (show r < 0 by omega)]
            | rw [if_neg (show ¬ r < 0 by omega)]
          first
            | rw [if_pos (show 100 ≤ max r (-r) by omega)]
            | rw [if_neg (show ¬ 100 ≤ max r (-r) by omega)]
          simpa [List.append_assoc] using hw⟩ d_EN_exp_65
    · refine lv_aload_n hx hb d_EN_exp_38 rfl (lv_at hl 1 rfl) ?_
      refine lv_iload_n hx hb d_EN_exp_39 rfl (lv_at hl 0 rfl) ?_
      refine lv_bipush (v := iz 100) hx hb d_EN_exp_40 (by decide) ?_
      refine z_idiv hx hb d_EN_exp_42 ⟨by omega, by omega⟩ ⟨by omega, by omega⟩ ?_
      have hct := c_EN_digit l D cI cB x d la t ba tt ad V ((tx ++ [101] ++ [43])) ((max r (-r)) / 100) ⟨by omega, by omega⟩ (by (try simp only [List.length_append, List.length_cons, List.length_nil]); omega)
      have hw9 := hw
      obtain ⟨lt, f, fi, g, n, ⟨hK, hP, hD⟩, hdec, htx, -⟩ := hw9
      have hdr := hdec.1
      have htn := htx.1
      have htl := htx.2.1
      have hP : va_P D vwCl [(x, .inr (0, [.ref d, .ref t])), (d, .inr (1, [.ref la, .int (iz fi), .int (iz lt)])), (la, .inl (cI, 155, .inl (az f))), (t, .inr (2, [.ref ba, .int (iz n)])), (ba, .inl (cB, 1612, .inl (az g)))] H := hP
      have hD : va_D (AX x d la t ba) [(x, .inr (0, [.ref d, .ref t])), (d, .inr (1, [.ref la, .int (iz fi), .int (iz lt)])), (la, .inl (cI, 155, .inl (az f))), (t, .inr (2, [.ref ba, .int (iz n)])), (ba, .inl (cB, 1612, .inl (az g)))] := hD
      refine z_go (va_runV (As := [.int (iz ((max r (-r)) / 100))]) (rest := []) ⟨hx, hb, hml, hown, hts⟩ hct.2 (z_cwV hts w_EN_writeDigit tw_307 (by decide)) (z_preV hct.1 (va_recv hK hP (ci := 0) (q0 := 0) rfl rfl) hw) rfl rfl hl.1 rfl (lv_room (Nat.le_of_ble_eq_true rfl)) d_EN_exp_43 ⟨Nat.zero_le _, Nat.zero_le _⟩) hS (fun _ h9 => h9) (fun v9 t9 H locs hv9 hp9 hz9 hk9 hS => ?_)
      obtain ⟨rfl, hw⟩ := hp9
      have hw := XW.moved hv9.symm hw
      refine W.eq (g2 := F0 m 46 ls []) rfl ?_
      refine lv_aload_n hx hb d_EN_exp_46 rfl (lv_at hl 1 rfl) ?_
      refine lv_iload_n hx hb d_EN_exp_47 rfl (lv_at hl 0 rfl) ?_
      refine lv_bipush (v := iz 10) hx hb d_EN_exp_48 (by decide) ?_
      refine z_idiv hx hb d_EN_exp_50 ⟨by omega, by omega⟩ ⟨by omega, by omega⟩ ?_
      refine lv_bipush (v := iz 10) hx hb d_EN_exp_51 (by decide) ?_
      refine z_irem hx hb d_EN_exp_53 ⟨by omega, by omega⟩ ⟨by omega, by omega⟩ ?_
      have hct := c_EN_digit l D cI cB x d la t ba tt ad V (((tx ++ [101] ++ [43]) ++ [48 + ((max r (-r)) / 100)])) (((max r (-r)) / 10) % 10) ⟨by omega, by omega⟩ (by (try simp only [List.length_append, List.length_cons, List.length_nil]); omega)
      have hw9 := hw
      obtain ⟨lt, f, fi, g, n, ⟨hK, hP, hD⟩, hdec, htx, -⟩ := hw9
      have hdr := hdec.1
      have htn := htx.1
      have htl := htx.2.1
      have hP : va_P D vwCl [(x, .inr (0, [.ref d, .ref t])), (d, .inr (1, [.ref la, .int (iz fi), .int (iz lt)])), (la, .inl (cI, 155, .inl (az f))), (t, .inr (2, [.ref ba, .int (iz n)])), (ba, .inl (cB, 1612, .inl (az g)))] H := hP
      have hD : va_D (AX x d la t ba) [(x, .inr (0, [.ref d, .ref t])), (d, .inr (1, [.ref la, .int (iz fi), .int (iz lt)])), (la, .inl (cI, 155, .inl (az f))), (t, .inr (2, [.ref ba, .int (iz n)])), (ba, .inl (cB, 1612, .inl (az g)))] := hD
      refine z_go (va_runV (As := [.int (iz (((max r (-r)) / 10) % 10))]) (rest := []) ⟨hx, hb, hml, hown, hts⟩ hct.2 (z_cwV hts w_EN_writeDigit tw_307 (by decide)) (z_preV hct.1 (va_recv hK hP (ci := 0) (q0 := 0) rfl rfl) hw) rfl rfl hl.1 rfl (lv_room (Nat.le_of_ble_eq_true rfl)) d_EN_exp_54 ⟨Nat.zero_le _, Nat.zero_le _⟩) hS (fun _ h9 => h9) (fun v9 t9 H locs hv9 hp9 hz9 hk9 hS => ?_)
      obtain ⟨rfl, hw⟩ := hp9
      have hw := XW.moved hv9.symm hw
      refine W.eq (g2 := F0 m 57 ls []) rfl ?_
      refine lv_aload_n hx hb d_EN_exp_57 rfl (lv_at hl 1 rfl) ?_
      refine lv_iload_n hx hb d_EN_exp_58 rfl (lv_at hl 0 rfl) ?_
      refine lv_bipush (v := iz 10) hx hb d_EN_exp_59 (by decide) ?_
      refine z_irem hx hb d_EN_exp_61 ⟨by omega, by omega⟩ ⟨by omega, by omega⟩ ?_
      have hct := c_EN_digit l D cI cB x d la t ba tt ad V ((((tx ++ [101] ++ [43]) ++ [48 + ((max r (-r)) / 100)]) ++ [48 + (((max r (-r)) / 10) % 10)])) ((max r (-r)) % 10) ⟨by omega, by omega⟩ (by (try simp only [List.length_append, List.length_cons, List.length_nil]); omega)
      have hw9 := hw
      obtain ⟨lt, f, fi, g, n, ⟨hK, hP, hD⟩, hdec, htx, -⟩ := hw9
      have hdr := hdec.1
      have htn := htx.1
      have htl := htx.2.1
      have hP : va_P D vwCl [(x, .inr (0, [.ref d, .ref t])), (d, .inr (1, [.ref la, .int (iz fi), .int (iz lt)])), (la, .inl (cI, 155, .inl (az f))), (t, .inr (2, [.ref ba, .int (iz n)])), (ba, .inl (cB, 1612, .inl (az g)))] H := hP
      have hD : va_D (AX x d la t ba) [(x, .inr (0, [.ref d, .ref t])), (d, .inr (1, [.ref la, .int (iz fi), .int (iz lt)])), (la, .inl (cI, 155, .inl (az f))), (t, .inr (2, [.ref ba, .int (iz n)])), (ba, .inl (cB, 1612, .inl (az g)))] := hD
      refine z_go (va_runV (As := [.int (iz ((max r (-r)) % 10))]) (rest := []) ⟨hx, hb, hml, hown, hts⟩ hct.2 (z_cwV hts w_EN_writeDigit tw_307 (by decide)) (z_preV hct.1 (va_recv hK hP (ci := 0) (q0 := 0) rfl rfl) hw) rfl rfl hl.1 rfl (lv_room (Nat.le_of_ble_eq_true rfl)) d_EN_exp_62 ⟨Nat.zero_le _, Nat.zero_le _⟩) hS (fun _ h9 => h9) (fun v9 t9 H locs hv9 hp9 hz9 hk9 hS => ?_)
      obtain ⟨rfl, hw⟩ := hp9
      have hw := XW.moved hv9.symm hw
      refine W.eq (g2 := F0 m 65 ls []) rfl ?_
      exact z_vret hx hb hr hlk hS (zR_st zSt_XW) ⟨rfl, by
          unfold expL
          first
            | rw [if_pos (show r < 0 by omega)]
            | rw [if_neg (show ¬ r < 0 by omega)]
          first
            | rw [if_pos (show 100 ≤ max r (-r) by omega)]
            | rw [if_neg (show ¬ 100 ≤ max r (-r) by omega)]
          simpa [List.append_assoc] using hw⟩ d_EN_exp_65
  · refine lv_bipush (v := iz 45) hx hb d_EN_exp_22 (by decide) ?_
    refine lv_goto (tgt := 29) hx hb d_EN_exp_24 rfl ?_
    have hct := c_Tx_add l D cI cB x d la t ba tt ad V (tx ++ [101]) (45) ⟨by omega, by omega⟩ (by (try simp only [List.length_append, List.length_cons, List.length_nil]); omega)
    refine z_go (va_runV (As := [.int (iz 45)]) (rest := []) ⟨hx, hb, hml, hown, hts⟩ hct.2 (z_cwV hts w_Tx_add tw_311 (by decide)) (z_preV hct.1 (va_recv hK hP (ci := 2) (q0 := 3) rfl rfl) hw) rfl rfl hl.1 rfl (lv_room (Nat.le_of_ble_eq_true rfl)) d_EN_exp_29 ⟨Nat.zero_le _, Nat.zero_le _⟩) hS (fun _ h9 => h9) (fun v9 t9 H locs hv9 hp9 hz9 hk9 hS => ?_)
    obtain ⟨rfl, hw⟩ := hp9
    have hw := XW.moved hv9.symm hw
    refine W.eq (g2 := F0 m 32 ls []) rfl ?_
    refine lv_iload_n hx hb d_EN_exp_32 rfl (lv_at hl 0 rfl) ?_
    refine lv_bipush (v := iz 100) hx hb d_EN_exp_33 (by decide) ?_
    refine z_icmp_lt (tgt := 46) hx hb d_EN_exp_35 rfl ⟨by omega, by omega⟩ ⟨by omega, by omega⟩ (fun hc35 => ?_) (fun hc35 => ?_)
    · refine lv_aload_n hx hb d_EN_exp_46 rfl (lv_at hl 1 rfl) ?_
      refine lv_iload_n hx hb d_EN_exp_47 rfl (lv_at hl 0 rfl) ?_
      refine lv_bipush (v := iz 10) hx hb d_EN_exp_48 (by decide) ?_
      refine z_idiv hx hb d_EN_exp_50 ⟨by omega, by omega⟩ ⟨by omega, by omega⟩ ?_
      refine lv_bipush (v := iz 10) hx hb d_EN_exp_51 (by decide) ?_
      refine z_irem hx hb d_EN_exp_53 ⟨by omega, by omega⟩ ⟨by omega, by omega⟩ ?_
      have hct := c_EN_digit l D cI cB x d la t ba tt ad V ((tx ++ [101] ++ [45])) (((max r (-r)) / 10) % 10) ⟨by omega, by omega⟩ (by (try simp only [List.length_append, List.length_cons, List.length_nil]); omega)
      have hw9 := hw
      obtain ⟨lt, f, fi, g, n, ⟨hK, hP, hD⟩, hdec, htx, -⟩ := hw9
      have hdr := hdec.1
      have htn := htx.1
      have htl := htx.2.1
      have hP : va_P D vwCl [(x, .inr (0, [.ref d, .ref t])), (d, .inr (1, [.ref la, .int (iz fi), .int (iz lt)])), (la, .inl (cI, 155, .inl (az f))), (t, .inr (2, [.ref ba, .int (iz n)])), (ba, .inl (cB, 1612, .inl (az g)))] H := hP
      have hD : va_D (AX x d la t ba) [(x, .inr (0, [.ref d, .ref t])), (d, .inr (1, [.ref la, .int (iz fi), .int (iz lt)])), (la, .inl (cI, 155, .inl (az f))), (t, .inr (2, [.ref ba, .int (iz n)])), (ba, .inl (cB, 1612, .inl (az g)))] := hD
      refine z_go (va_runV (As := [.int (iz (((max r (-r)) / 10) % 10))]) (rest := []) ⟨hx, hb, hml, hown, hts⟩ hct.2 (z_cwV hts w_EN_writeDigit tw_307 (by decide)) (z_preV hct.1 (va_recv hK hP (ci := 0) (q0 := 0) rfl rfl) hw) rfl rfl hl.1 rfl (lv_room (Nat.le_of_ble_eq_true rfl)) d_EN_exp_54 ⟨Nat.zero_le _, Nat.zero_le _⟩) hS (fun _ h9 => h9) (fun v9 t9 H locs hv9 hp9 hz9 hk9 hS => ?_)
      obtain ⟨rfl, hw⟩ := hp9
      have hw := XW.moved hv9.symm hw
      refine W.eq (g2 := F0 m 57 ls []) rfl ?_
      refine lv_aload_n hx hb d_EN_exp_57 rfl (lv_at hl 1 rfl) ?_
      refine lv_iload_n hx hb d_EN_exp_58 rfl (lv_at hl 0 rfl) ?_
      refine lv_bipush (v := iz 10) hx hb d_EN_exp_59 (by decide) ?_
      refine z_irem hx hb d_EN_exp_61 ⟨by omega, by omega⟩ ⟨by omega, by omega⟩ ?_
      have hct := c_EN_digit l D cI cB x d la t ba tt ad V (((tx ++ [101] ++ [45]) ++ [48 + (((max r (-r)) / 10) % 10)])) ((max r (-r)) % 10) ⟨by omega, by omega⟩ (by (try simp only [List.length_append, List.length_cons, List.length_nil]); omega)
      have hw9 := hw
      obtain ⟨lt, f, fi, g, n, ⟨hK, hP, hD⟩, hdec, htx, -⟩ := hw9
      have hdr := hdec.1
      have htn := htx.1
      have htl := htx.2.1
      have hP : va_P D vwCl [(x, .inr (0, [.ref d, .ref t])), (d, .inr (1, [.ref la, .int (iz fi), .int (iz lt)])), (la, .inl (cI, 155, .inl (az f))), (t, .inr (2, [.ref ba, .int (iz n)])), (ba, .inl (cB, 1612, .inl (az g)))] H := hP
      have hD : va_D (AX x d la t ba) [(x, .inr (0, [.ref d, .ref t])), (d, .inr (1, [.ref la, .int (iz fi), .int (iz lt)])), (la, .inl (cI, 155, .inl (az f))), (t, .inr (2, [.ref ba, .int (iz n)])), (ba, .inl (cB, 1612, .inl (az g)))] := hD
      refine z_go (va_runV (As := [.int (iz ((max r (-r)) % 10))]) (rest := []) ⟨hx, hb, hml, hown, hts⟩ hct.2 (z_cwV hts w_EN_writeDigit tw_307 (by decide)) (z_preV hct.1 (va_recv hK hP (ci := 0) (q0 := 0) rfl rfl) hw) rfl rfl hl.1 rfl (lv_room (Nat.le_of_ble_eq_true rfl)) d_EN_exp_62 ⟨Nat.zero_le _, Nat.zero_le _⟩) hS (fun _ h9 => h9) (fun v9 t9 H locs hv9 hp9 hz9 hk9 hS => ?_)
      obtain ⟨rfl, hw⟩ := hp9
      have hw := XW.moved hv9.symm hw
      refine W.eq (g2 := F0 m 65 ls []) rfl ?_
      exact z_vret hx hb hr hlk hS (zR_st zSt_XW) ⟨rfl, by
          unfold expL
          first
            | rw [if_pos (show r < 0 by omega)]
            | rw [if_neg (show ¬ r < 0 by omega)]
          first
            | rw [if_pos (show 100 ≤ max r (-r) by omega)]
            | rw [if_neg (show ¬ 100 ≤ max r (-r) by omega)]
          simpa [List.append_assoc] using hw⟩ d_EN_exp_65
    · refine lv_aload_n hx hb d_EN_exp_38 rfl (lv_at hl 1 rfl) ?_
      refine lv_iload_n hx hb d_EN_exp_39 rfl (lv_at hl 0 rfl) ?_
      refine lv_bipush (v := iz 100) hx hb d_EN_exp_40 (by decide) ?_
      refine z_idiv hx hb d_EN_exp_42 ⟨by omega, by omega⟩ ⟨by omega, by omega⟩ ?_
      have hct := c_EN_digit l D cI cB x d la t ba tt ad V ((tx ++ [101] ++ [45])) ((max r (-r)) / 100) ⟨by omega, by omega⟩ (by (try simp only [List.length_append, List.length_cons, List.length_nil]); omega)
      have hw9 := hw
      obtain ⟨lt, f, fi, g, n, ⟨hK, hP, hD⟩, hdec, htx, -⟩ := hw9
      have hdr := hdec.1
      have htn := htx.1
      have htl := htx.2.1
      have hP : va_P D vwCl [(x, .inr (0, [.ref d, .ref t])), (d, .inr (1, [.ref la, .int (iz fi), .int (iz lt)])), (la, .inl (cI, 155, .inl (az f))), (t, .inr (2, [.ref ba, .int (iz n)])), (ba, .inl (cB, 1612, .inl (az g)))] H := hP
      have hD : va_D (AX x d la t ba) [(x, .inr (0, [.ref d, .ref t])), (d, .inr (1, [.ref la, .int (iz fi), .int (iz lt)])), (la, .inl (cI, 155, .inl (az f))), (t, .inr (2, [.ref ba, .int (iz n)])), (ba, .inl (cB, 1612, .inl (az g)))] := hD
      refine z_go (va_runV (As := [.int (iz ((max r (-r)) / 100))]) (rest := []) ⟨hx, hb, hml, hown, hts⟩ hct.2 (z_cwV hts w_EN_writeDigit tw_307 (by decide)) (z_preV hct.1 (va_recv hK hP (ci := 0) (q0 := 0) rfl rfl) hw) rfl rfl hl.1 rfl (lv_room (Nat.le_of_ble_eq_true rfl)) d_EN_exp_43 ⟨Nat.zero_le _, Nat.zero_le _⟩) hS (fun _ h9 => h9) (fun v9 t9 H locs hv9 hp9 hz9 hk9 hS => ?_)
      obtain ⟨rfl, hw⟩ := hp9
      have hw := XW.moved hv9.symm hw
      refine W.eq (g2 := F0 m 46 ls []) rfl ?_
      refine lv_aload_n hx hb d_EN_exp_46 rfl (lv_at hl 1 rfl) ?_
      refine lv_iload_n hx hb d_EN_exp_47 rfl (lv_at hl 0 rfl) ?_
      refine lv_bipush (v := iz 10) hx hb d_EN_exp_48 (by decide) ?_
      refine z_idiv hx hb d_EN_exp_50 ⟨by omega, by omega⟩ ⟨by omega, by omega⟩ ?_
      refine lv_bipush (v := iz 10) hx hb d_EN_exp_51 (by decide) ?_
      refine z_irem hx hb d_EN_exp_53 ⟨by omega, by omega⟩ ⟨by omega, by omega⟩ ?_
      have hct := c_EN_digit l D cI cB x d la t ba tt ad V (((tx ++ [101] ++ [45]) ++ [48 + ((max r (-r)) / 100)])) (((max r (-r)) / 10) % 10) ⟨by omega, by omega⟩ (by (try simp only [List.length_append, List.length_cons, List.length_nil]); omega)
      have hw9 := hw
      obtain ⟨lt, f, fi, g, n, ⟨hK, hP, hD⟩, hdec, htx, -⟩ := hw9
      have hdr := hdec.1
      have htn := htx.1
      have htl := htx.2.1
      have hP : va_P D vwCl [(x, .inr (0, [.ref d, .ref t])), (d, .inr (1, [.ref la, .int (iz fi), .int (iz lt)])), (la, .inl (cI, 155, .inl (az f))), (t, .inr (2, [.ref ba, .int (iz n)])), (ba, .inl (cB, 1612, .inl (az g)))] H := hP
      have hD : va_D (AX x d la t ba) [(x, .inr (0, [.ref d, .ref t])), (d, .inr (1, [.ref la, .int (iz fi), .int (iz lt)])), (la, .inl (cI, 155, .inl (az f))), (t, .inr (2, [.ref ba, .int (iz n)])), (ba, .inl (cB, 1612, .inl (az g)))] := hD
      refine z_go (va_runV (As := [.int (iz (((max r (-r)) / 10) % 10))]) (rest := []) ⟨hx, hb, hml, hown, hts⟩ hct.2 (z_cwV hts w_EN_writeDigit tw_307 (by decide)) (z_preV hct.1 (va_recv hK hP (ci := 0) (q0 := 0) rfl rfl) hw) rfl rfl hl.1 rfl (lv_room (Nat.le_of_ble_eq_true rfl)) d_EN_exp_54 ⟨Nat.zero_le _, Nat.zero_le _⟩) hS (fun _ h9 => h9) (fun v9 t9 H locs hv9 hp9 hz9 hk9 hS => ?_)
      obtain ⟨rfl, hw⟩ := hp9
      have hw := XW.moved hv9.symm hw
      refine W.eq (g2 := F0 m 57 ls []) rfl ?_
      refine lv_aload_n hx hb d_EN_exp_57 rfl (lv_at hl 1 rfl) ?_
      refine lv_iload_n hx hb d_EN_exp_58 rfl (lv_at hl 0 rfl) ?_
      refine lv_bipush (v := iz 10) hx hb d_EN_exp_59 (by decide) ?_
      refine z_irem hx hb d_EN_exp_61 ⟨by omega, by omega⟩ ⟨by omega, by omega⟩ ?_
      have hct := c_EN_digit l D cI cB x d la t ba tt ad V ((((tx ++ [101] ++ [45]) ++ [48 + ((max r (-r)) / 100)]) ++ [48 + (((max r (-r)) / 10) % 10)])) ((max r (-r)) % 10) ⟨by omega, by omega⟩ (by (try simp only [List.length_append, List.length_cons, List.length_nil]); omega)
      have hw9 := hw
      obtain ⟨lt, f, fi, g, n, ⟨hK, hP, hD⟩, hdec, htx, -⟩ := hw9
      have hdr := hdec.1
      have htn := htx.1
      have htl := htx.2.1
      have hP : va_P D vwCl [(x, .inr (0, [.ref d, .ref t])), (d, .inr (1, [.ref la, .int (iz fi), .int (iz lt)])), (la, .inl (cI, 155, .inl (az f))), (t, .inr (2, [.ref ba, .int (iz n)])), (ba, .inl (cB, 1612, .inl (az g)))] H := hP
      have hD : va_D (AX x d la t ba) [(x, .inr (0, [.ref d, .ref t])), (d, .inr (1, [.ref la, .int (iz fi), .int (iz lt)])), (la, .inl (cI, 155, .inl (az f))), (t, .inr (2, [.ref ba, .int (iz n)])), (ba, .inl (cB, 1612, .inl (az g)))] := hD
      refine z_go (va_runV (As := [.int (iz ((max r (-r)) % 10))]) (rest := []) ⟨hx, hb, hml, hown, hts⟩ hct.2 (z_cwV hts w_EN_writeDigit tw_307 (by decide)) (z_preV hct.1 (va_recv hK hP (ci := 0) (q0 := 0) rfl rfl) hw) rfl rfl hl.1 rfl (lv_room (Nat.le_of_ble_eq_true rfl)) d_EN_exp_62 ⟨Nat.zero_le _, Nat.zero_le _⟩) hS (fun _ h9 => h9) (fun v9 t9 H locs hv9 hp9 hz9 hk9 hS => ?_)
      obtain ⟨rfl, hw⟩ := hp9
      have hw := XW.moved hv9.symm hw
      refine W.eq (g2 := F0 m 65 ls []) rfl ?_
      exact z_vret hx hb hr hlk hS (zR_st zSt_XW) ⟨rfl, by
          unfold expL
          first
            | rw [if_pos (show r < 0 by omega)]
            | rw [if_neg (show ¬ r < 0 by omega)]
          first
            | rw [if_pos (show 100 ≤ max r (-r) by omega)]
            | rw [if_neg (show ¬ 100 ≤ max r (-r) by omega)]
          simpa [List.append_assoc] using hw⟩ d_EN_exp_65
theorem d_EN_behind_0 : decode b_EN_writeBehindPoint 0 = .ok (.iload_n 2, 1) := by decide +kernel
theorem d_EN_behind_1 : decode b_EN_writeBehindPoint 1 = .ok (.ifCond .gt (7), 3) := by decide +kernel
theorem d_EN_behind_4 : decode b_EN_writeBehindPoint 4 = .ok (.iload_n 3, 1) := by decide +kernel
theorem d_EN_behind_5 : decode b_EN_writeBehindPoint 5 = .ok (.ifCond .eq (12), 3) := by decide +kernel
theorem d_EN_behind_8 : decode b_EN_writeBehindPoint 8 = .ok (.aload_n 0, 1) := by decide +kernel
theorem d_EN_behind_9 : decode b_EN_writeBehindPoint 9 = .ok (.getfield 19, 3) := by decide +kernel
theorem d_EN_behind_12 : decode b_EN_writeBehindPoint 12 = .ok (.bipush (46), 2) := by decide +kernel
theorem d_EN_behind_14 : decode b_EN_writeBehindPoint 14 = .ok (.invokevirtual 122, 3) := by decide +kernel
theorem d_EN_behind_17 : decode b_EN_writeBehindPoint 17 = .ok (.iconst 0, 1) := by decide +kernel
theorem d_EN_behind_18 : decode b_EN_writeBehindPoint 18 = .ok (.istore 4, 2) := by decide +kernel
theorem d_EN_behind_20 : decode b_EN_writeBehindPoint 20 = .ok (.iload 4, 2) := by decide +kernel
theorem d_EN_behind_22 : decode b_EN_writeBehindPoint 22 = .ok (.iload_n 2, 1) := by decide +kernel
theorem d_EN_behind_23 : decode b_EN_writeBehindPoint 23 = .ok (.if_icmp .ge (24), 3) := by decide +kernel
theorem d_EN_behind_26 : decode b_EN_writeBehindPoint 26 = .ok (.aload_n 0, 1) := by decide +kernel
theorem d_EN_behind_27 : decode b_EN_writeBehindPoint 27 = .ok (.aload_n 0, 1) := by decide +kernel
theorem d_EN_behind_28 : decode b_EN_writeBehindPoint 28 = .ok (.getfield 10, 3) := by decide +kernel
theorem d_EN_behind_31 : decode b_EN_writeBehindPoint 31 = .ok (.iload_n 1, 1) := by decide +kernel
theorem d_EN_behind_32 : decode b_EN_writeBehindPoint 32 = .ok (.iload 4, 2) := by decide +kernel
theorem d_EN_behind_34 : decode b_EN_writeBehindPoint 34 = .ok (.isub, 1) := by decide +kernel
theorem d_EN_behind_35 : decode b_EN_writeBehindPoint 35 = .ok (.invokevirtual 115, 3) := by decide +kernel
theorem d_EN_behind_38 : decode b_EN_writeBehindPoint 38 = .ok (.invokevirtual 119, 3) := by decide +kernel
theorem d_EN_behind_41 : decode b_EN_writeBehindPoint 41 = .ok (.iinc 4 (1), 3) := by decide +kernel
theorem d_EN_behind_44 : decode b_EN_writeBehindPoint 44 = .ok (.goto (-24), 3) := by decide +kernel
theorem d_EN_behind_47 : decode b_EN_writeBehindPoint 47 = .ok (.return_, 1) := by decide +kernel
set_option maxHeartbeats 4000000 in
set_option maxRecDepth 100000 in
theorem c_EN_behind (l : Launch) (D : va_G) (cI cB : ClassId) (x d la t ba tt : Nat) (ad : Nat → Nat) (V : Int) (tx : List Int) (fp : Int) (cn : Nat) (pt : Int) (hfp : -2000 ≤ fp ∧ fp ≤ 2000) (hcn : cn ≤ 2000) (hpt : pt = 0 ∨ pt = 1) (hlen : tx.length + cn + 1 ≤ 1612) : Ct l y_EN_writeBehindPoint (ws_EN_writeBehindPoint) 3 (AX x d la t ba) [.ref x, .int (iz fp), .int (iz (cn : Int)), .int (iz pt)] (XW D cI cB x d la t ba tt ad V tx) (zR none (XW D cI cB x d la t ba tt ad V (tx ++ behL V fp cn pt))) := by
  refine z_body zSt_XW (by decide +kernel) rfl (Nat.le_of_ble_eq_true rfl) ?_
  intro p e s m args below meth c ls hx hb hml hr hlk hts0 hown hpre0 H locs hpre hS hl
  have hts : ∀ w ∈ TBL, w.before args s = true := fun w hw => hts0 w (List.mem_cons_of_mem _ hw)
  have hl : lv_has ls 5 [(0, .ref x), (1, .int (iz fp)), (2, .int (iz (cn : Int))), (3, .int (iz pt))] := hl
  have hw := hpre
  have hst0 := hpre0.st
  have L20 : ∀ (N20 : Nat) (tx0 : List Int) (i : Nat) (k : Int) (H : Heap) (locs : List Loc) (ls : Array Slot), XW D cI cB x d la t ba tt ad V (tx0 ++ dl V fp i) s H → va_S (AX x d la t ba) s.heap H locs → lv_has ls 5 [(0, .ref x), (1, .int (iz fp)), (2, .int (iz (cn : Int))), (4, .int (iz k))] → (k = (i : Int) ∧ i ≤ cn) → (tx0 = tx ++ dotL cn pt) → cn - i < N20 → W p l e (zrm 3) s m args below meth c H locs 0 0 (MQ below (zQ (AX x d la t ba) (zR none (XW D cI cB x d la t ba tt ad V (tx ++ behL V fp cn pt)))) args s 0 0 (AX x d la t ba)) (F0 m 20 ls []) := by
    intro N20
    induction N20 with
    | zero => intro tx0 i k H locs ls hw hS hl hk htx0 hN20; exact absurd hN20 (Nat.not_lt_zero _)
    | succ N20 ih20 =>
      intro tx0 i k H locs ls hw hS hl hk htx0 hN20
      have hl1 := dl_len V fp i
      have hl2 := dotL_len cn pt
      have hl3 : tx0.length = tx.length + (dotL cn pt).length := by rw [htx0, List.length_append]
      refine lv_iload hx hb d_EN_behind_20 (lv_at hl 3 rfl) ?_
      refine lv_iload_n hx hb d_EN_behind_22 rfl (lv_at hl 2 rfl) ?_
      refine z_icmp_ge (tgt := 47) hx hb d_EN_behind_23 rfl ⟨by omega, by omega⟩ ⟨by omega, by omega⟩ (fun hc23 => ?_) (fun hc23 => ?_)
      · exact z_vret hx hb hr hlk hS (zR_st zSt_XW) ⟨rfl, by
            have e8 : i = cn := by omega
            rw [e8, htx0, List.append_assoc] at hw
            exact hw⟩ d_EN_behind_47
      · refine lv_aload_n hx hb d_EN_behind_26 rfl (lv_at hl 0 rfl) ?_
        refine lv_aload_n hx hb d_EN_behind_27 rfl (lv_at hl 0 rfl) ?_
        have hw9 := hw
        obtain ⟨lt, f, fi, g, n, ⟨hK, hP, hD⟩, hdec, htx, -⟩ := hw9
        have hdr := hdec.1
        have htn := htx.1
        have htl := htx.2.1
        have hP : va_P D vwCl [(x, .inr (0, [.ref d, .ref t])), (d, .inr (1, [.ref la, .int (iz fi), .int (iz lt)])), (la, .inl (cI, 155, .inl (az f))), (t, .inr (2, [.ref ba, .int (iz n)])), (ba, .inl (cB, 1612, .inl (az g)))] H := hP
        have hD : va_D (AX x d la t ba) [(x, .inr (0, [.ref d, .ref t])), (d, .inr (1, [.ref la, .int (iz fi), .int (iz lt)])), (la, .inl (cI, 155, .inl (az f))), (t, .inr (2, [.ref ba, .int (iz n)])), (ba, .inl (cB, 1612, .inl (az g)))] := hD
        refine va_get (D := D) (ci := 0) (v := .ref d) (C := R_0) (T := T_0) (N := 2) hx hb hts in_0 hown hK hP 0 rfl rfl 0 (by decide) (hts _ tw_58) (fun _ h9 => h9) rfl d_EN_behind_28 ?_
        refine lv_iload_n hx hb d_EN_behind_31 rfl (lv_at hl 1 rfl) ?_
        refine lv_iload hx hb d_EN_behind_32 (lv_at hl 3 rfl) ?_
        refine z_isub hx hb d_EN_behind_34 ?_
        have hct := c_Dc_digitAt l D cI cB x d la t ba tt ad V (tx0 ++ dl V fp i) (fp - k) ⟨by omega, by omega⟩
        refine z_go (va_runV (As := [.int (iz (fp - k))]) (rest := [.ref x]) ⟨hx, hb, hml, hown, hts⟩ hct.2 (z_cwV hts w_Dc_digitAt tw_306 (by decide)) (z_preV hct.1 (va_recv hK hP (ci := 1) (q0 := 1) rfl rfl) hw) rfl rfl hl.1 rfl (lv_room (Nat.le_of_ble_eq_true rfl)) d_EN_behind_35 ⟨Nat.zero_le _, Nat.zero_le _⟩) hS (fun _ h9 => h9) (fun v9 t9 H locs hv9 hp9 hz9 hk9 hS => ?_)
        obtain ⟨rfl, hw⟩ := hp9
        have hw := XW.moved hv9.symm hw
        refine W.eq (g2 := F0 m 38 ls [.int (iz (dgt V (fp - k))), .ref x]) rfl ?_
        have hct := c_EN_digit l D cI cB x d la t ba tt ad V (tx0 ++ dl V fp i) (dgt V (fp - k)) (dgt_r _ _) (by (try simp only [List.length_append, List.length_cons, List.length_nil]); omega)
        have hw9 := hw
        obtain ⟨lt, f, fi, g, n, ⟨hK, hP, hD⟩, hdec, htx, -⟩ := hw9
        have hdr := hdec.1
        have htn := htx.1
        have htl := htx.2.1
        have hP : va_P D vwCl [(x, .inr (0, [.ref d, .ref t])), (d, .inr (1, [.ref la, .int (iz fi), .int (iz lt)])), (la, .inl (cI, 155, .inl (az f))), (t, .inr (2, [.ref ba, .int (iz n)])), (ba, .inl (cB, 1612, .inl (az g)))] H := hP
        have hD : va_D (AX x d la t ba) [(x, .inr (0, [.ref d, .ref t])), (d, .inr (1, [.ref la, .int (iz fi), .int (iz lt)])), (la, .inl (cI, 155, .inl (az f))), (t, .inr (2, [.ref ba, .int (iz n)])), (ba, .inl (cB, 1612, .inl (az g)))] := hD
        refine z_go (va_runV (As := [.int (iz (dgt V (fp - k)))]) (rest := []) ⟨hx, hb, hml, hown, hts⟩ hct.2 (z_cwV hts w_EN_writeDigit tw_307 (by decide)) (z_preV hct.1 (va_recv hK hP (ci := 0) (q0 := 0) rfl rfl) hw) rfl rfl hl.1 rfl (lv_room (Nat.le_of_ble_eq_true rfl)) d_EN_behind_38 ⟨Nat.zero_le _, Nat.zero_le _⟩) hS (fun _ h9 => h9) (fun v9 t9 H locs hv9 hp9 hz9 hk9 hS => ?_)
        obtain ⟨rfl, hw⟩ := hp9
        have hw := XW.moved hv9.symm hw
        refine W.eq (g2 := F0 m 41 ls []) rfl ?_
        refine lv_iinc (k := 3) (v := (iz (k + 1))) hx hb d_EN_behind_41 hl rfl (by show iz _ + iz (1) = _; rw [← iz_add]; try rfl) (by decide) rfl (fun ls hl => ?_)
        have hl : lv_has ls 5 [(4, .int (iz (k + 1))), (0, .ref x), (1, .int (iz fp)), (2, .int (iz (cn : Int)))] := hl
        refine lv_goto (tgt := 20) hx hb d_EN_behind_44 rfl ?_
        have hw : XW D cI cB x d la t ba tt ad V (tx0 ++ dl V fp (i + 1)) s H := by
          show XW _ _ _ _ _ _ _ _ _ _ _ (_ ++ (_ ++ _)) _ _
          rw [← List.append_assoc, ← hk.1]
          exact hw
        exact ih20 tx0 (i + 1) (k + 1) _ _ _ hw hS (lv_sub hl [1, 2, 3, 0] rfl) ⟨by omega, by omega⟩ htx0 (by omega)
  refine lv_iload_n hx hb d_EN_behind_0 rfl (lv_at hl 2 rfl) ?_
  refine z_if_gt (tgt := 8) hx hb d_EN_behind_1 rfl ⟨by omega, by omega⟩ (fun hc1 => ?_) (fun hc1 => ?_)
  · refine lv_aload_n hx hb d_EN_behind_8 rfl (lv_at hl 0 rfl) ?_
    have hw9 := hw
    obtain ⟨lt, f, fi, g, n, ⟨hK, hP, hD⟩, hdec, htx, -⟩ := hw9
    have hdr := hdec.1
    have htn := htx.1
    have htl := htx.2.1
    have hP : va_P D vwCl [(x, .inr (0, [.ref d, .ref t])), (d, .inr (1, [.ref la, .int (iz fi), .int (iz lt)])), (la, .inl (cI, 155, .inl (az f))), (t, .inr (2, [.ref ba, .int (iz n)])), (ba, .inl (cB, 1612, .inl (az g)))] H := hP
    have hD : va_D (AX x d la t ba) [(x, .inr (0, [.ref d, .ref t])), (d, .inr (1, [.ref la, .int (iz fi), .int (iz lt)])), (la, .inl (cI, 155, .inl (az f))), (t, .inr (2, [.ref ba, .int (iz n)])), (ba, .inl (cB, 1612, .inl (az g)))] := hD
    refine va_get (D := D) (ci := 0) (v := .ref t) (C := R_0) (T := T_0) (N := 2) hx hb hts in_0 hown hK hP 0 rfl rfl 1 (by decide) (hts _ tw_59) (fun _ h9 => h9) rfl d_EN_behind_9 ?_
    refine lv_bipush (v := iz 46) hx hb d_EN_behind_12 (by decide) ?_
    have hct := c_Tx_add l D cI cB x d la t ba tt ad V (tx) (46) ⟨by omega, by omega⟩ (by (try simp only [List.length_append, List.length_cons, List.length_nil]); omega)
    refine z_go (va_runV (As := [.int (iz 46)]) (rest := []) ⟨hx, hb, hml, hown, hts⟩ hct.2 (z_cwV hts w_Tx_add tw_311 (by decide)) (z_preV hct.1 (va_recv hK hP (ci := 2) (q0 := 3) rfl rfl) hw) rfl rfl hl.1 rfl (lv_room (Nat.le_of_ble_eq_true rfl)) d_EN_behind_14 ⟨Nat.zero_le _, Nat.zero_le _⟩) hS (fun _ h9 => h9) (fun v9 t9 H locs hv9 hp9 hz9 hk9 hS => ?_)
    obtain ⟨rfl, hw⟩ := hp9
    have hw := XW.moved hv9.symm hw
    refine W.eq (g2 := F0 m 17 ls []) rfl ?_
    refine lv_iconst (v := iz 0) hx hb d_EN_behind_17 rfl ?_
    refine lv_istore hx hb d_EN_behind_18 hl (by decide) rfl (fun ls hl => ?_)
    have hl : lv_has ls 5 [(4, .int (iz 0)), (0, .ref x), (1, .int (iz fp)), (2, .int (iz (cn : Int))), (3, .int (iz pt))] := hl
    have hw : XW D cI cB x d la t ba tt ad V ((tx ++ [46]) ++ dl V fp 0) s H := by
      show XW _ _ _ _ _ _ _ _ _ _ _ (_ ++ []) _ _
      rw [List.append_nil]
      exact hw
    exact L20 _ (tx ++ [46]) 0 0 _ _ _ hw hS (lv_sub hl [1, 2, 3, 0] rfl) ⟨rfl, Nat.zero_le _⟩ (by unfold dotL; first | rw [if_pos (by omega)] | (rw [if_neg (by omega), List.append_nil])) (Nat.lt_succ_self _)
  · refine lv_iload_n hx hb d_EN_behind_4 rfl (lv_at hl 3 rfl) ?_
    refine z_if_eq (tgt := 17) hx hb d_EN_behind_5 rfl ⟨by omega, by omega⟩ (fun hc5 => ?_) (fun hc5 => ?_)
    · refine lv_iconst (v := iz 0) hx hb d_EN_behind_17 rfl ?_
      refine lv_istore hx hb d_EN_behind_18 hl (by decide) rfl (fun ls hl => ?_)
      have hl : lv_has ls 5 [(4, .int (iz 0)), (0, .ref x), (1, .int (iz fp)), (2, .int (iz (cn : Int))), (3, .int (iz pt))] := hl
      have hw : XW D cI cB x d la t ba tt ad V (tx ++ dl V fp 0) s H := by
        show XW _ _ _ _ _ _ _ _ _ _ _ (_ ++ []) _ _
        rw [List.append_nil]
        exact hw
      exact L20 _ tx 0 0 _ _ _ hw hS (lv_sub hl [1, 2, 3, 0] rfl) ⟨rfl, Nat.zero_le _⟩ (by unfold dotL; first | rw [if_pos (by omega)] | (rw [if_neg (by omega), List.append_nil])) (Nat.lt_succ_self _)
    · refine lv_aload_n hx hb d_EN_behind_8 rfl (lv_at hl 0 rfl) ?_
      have hw9 := hw
      obtain ⟨lt, f, fi, g, n, ⟨hK, hP, hD⟩, hdec, htx, -⟩ := hw9
      have hdr := hdec.1
      have htn := htx.1
      have htl := htx.2.1
      have hP : va_P D vwCl [(x, .inr (0, [.ref d, .ref t])), (d, .inr (1, [.ref la, .int (iz fi), .int (iz lt)])), (la, .inl (cI, 155, .inl (az f))), (t, .inr (2, [.ref ba, .int (iz n)])), (ba, .inl (cB, 1612, .inl (az g)))] H := hP
      have hD : va_D (AX x d la t ba) [(x, .inr (0, [.ref d, .ref t])), (d, .inr (1, [.ref la, .int (iz fi), .int (iz lt)])), (la, .inl (cI, 155, .inl (az f))), (t, .inr (2, [.ref ba, .int (iz n)])), (ba, .inl (cB, 1612, .inl (az g)))] := hD
      refine va_get (D := D) (ci := 0) (v := .ref t) (C := R_0) (T := T_0) (N := 2) hx hb hts in_0 hown hK hP 0 rfl rfl 1 (by decide) (hts _ tw_59) (fun _ h9 => h9) rfl d_EN_behind_9 ?_
      refine lv_bipush (v := iz 46) hx hb d_EN_behind_12 (by decide) ?_
      have hct := c_Tx_add l D cI cB x d la t ba tt ad V (tx) (46) ⟨by omega, by omega⟩ (by (try simp only [List.length_append, List.length_cons, List.length_nil]); omega)
      refine z_go (va_runV (As := [.int (iz 46)]) (rest := []) ⟨hx, hb, hml, hown, hts⟩ hct.2 (z_cwV hts w_Tx_add tw_311 (by decide)) (z_preV hct.1 (va_recv hK hP (ci := 2) (q0 := 3) rfl rfl) hw) rfl rfl hl.1 rfl (lv_room (Nat.le_of_ble_eq_true rfl)) d_EN_behind_14 ⟨Nat.zero_le _, Nat.zero_le _⟩) hS (fun _ h9 => h9) (fun v9 t9 H locs hv9 hp9 hz9 hk9 hS => ?_)
      obtain ⟨rfl, hw⟩ := hp9
      have hw := XW.moved hv9.symm hw
      refine W.eq (g2 := F0 m 17 ls []) rfl ?_
      refine lv_iconst (v := iz 0) hx hb d_EN_behind_17 rfl ?_
      refine lv_istore hx hb d_EN_behind_18 hl (by decide) rfl (fun ls hl => ?_)
      have hl : lv_has ls 5 [(4, .int (iz 0)), (0, .ref x), (1, .int (iz fp)), (2, .int (iz (cn : Int))), (3, .int (iz pt))] := hl
      have hw : XW D cI cB x d la t ba tt ad V ((tx ++ [46]) ++ dl V fp 0) s H := by
        show XW _ _ _ _ _ _ _ _ _ _ _ (_ ++ []) _ _
        rw [List.append_nil]
        exact hw
      exact L20 _ (tx ++ [46]) 0 0 _ _ _ hw hS (lv_sub hl [1, 2, 3, 0] rfl) ⟨rfl, Nat.zero_le _⟩ (by unfold dotL; first | rw [if_pos (by omega)] | (rw [if_neg (by omega), List.append_nil])) (Nat.lt_succ_self _)
