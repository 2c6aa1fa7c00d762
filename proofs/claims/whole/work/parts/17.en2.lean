theorem d_EN_sci_0 : decode b_EN_writeScientific 0 = .ok (.aload_n 0, 1) := by decide +kernel
theorem d_EN_sci_1 : decode b_EN_writeScientific 1 = .ok (.getfield 10, 3) := by decide +kernel
theorem d_EN_sci_4 : decode b_EN_writeScientific 4 = .ok (.invokevirtual 91, 3) := by decide +kernel
theorem d_EN_sci_7 : decode b_EN_writeScientific 7 = .ok (.istore_n 3, 1) := by decide +kernel
theorem d_EN_sci_8 : decode b_EN_writeScientific 8 = .ok (.aload_n 0, 1) := by decide +kernel
theorem d_EN_sci_9 : decode b_EN_writeScientific 9 = .ok (.aload_n 0, 1) := by decide +kernel
theorem d_EN_sci_10 : decode b_EN_writeScientific 10 = .ok (.getfield 10, 3) := by decide +kernel
theorem d_EN_sci_13 : decode b_EN_writeScientific 13 = .ok (.iload_n 3, 1) := by decide +kernel
theorem d_EN_sci_14 : decode b_EN_writeScientific 14 = .ok (.invokevirtual 115, 3) := by decide +kernel
theorem d_EN_sci_17 : decode b_EN_writeScientific 17 = .ok (.invokevirtual 119, 3) := by decide +kernel
theorem d_EN_sci_20 : decode b_EN_writeScientific 20 = .ok (.aload_n 0, 1) := by decide +kernel
theorem d_EN_sci_21 : decode b_EN_writeScientific 21 = .ok (.iload_n 3, 1) := by decide +kernel
theorem d_EN_sci_22 : decode b_EN_writeScientific 22 = .ok (.iconst 1, 1) := by decide +kernel
theorem d_EN_sci_23 : decode b_EN_writeScientific 23 = .ok (.isub, 1) := by decide +kernel
theorem d_EN_sci_24 : decode b_EN_writeScientific 24 = .ok (.iload_n 1, 1) := by decide +kernel
theorem d_EN_sci_25 : decode b_EN_writeScientific 25 = .ok (.iload_n 2, 1) := by decide +kernel
theorem d_EN_sci_26 : decode b_EN_writeScientific 26 = .ok (.invokevirtual 126, 3) := by decide +kernel
theorem d_EN_sci_29 : decode b_EN_writeScientific 29 = .ok (.aload_n 0, 1) := by decide +kernel
theorem d_EN_sci_30 : decode b_EN_writeScientific 30 = .ok (.iload_n 3, 1) := by decide +kernel
theorem d_EN_sci_31 : decode b_EN_writeScientific 31 = .ok (.invokevirtual 130, 3) := by decide +kernel
theorem d_EN_sci_34 : decode b_EN_writeScientific 34 = .ok (.return_, 1) := by decide +kernel
set_option maxHeartbeats 4000000 in
set_option maxRecDepth 100000 in
theorem c_EN_sci (l : Launch) (D : va_G) (cI cB : ClassId) (x d la t ba tt : Nat) (ad : Nat → Nat) (V : Int) (tx : List Int) (r : Int) (cn : Nat) (pt : Int) (hlead : IsLead V r) (hr0 : -999 ≤ r ∧ r ≤ 999) (hcn : cn ≤ 2000) (hpt : pt = 0 ∨ pt = 1) (hlen : tx.length + cn + 7 ≤ 1612) : Ct l y_EN_writeScientific (ws_EN_writeScientific) 4 (AX x d la t ba) [.ref x, .int (iz (cn : Int)), .int (iz pt)] (XW D cI cB x d la t ba tt ad V tx) (zR none (XW D cI cB x d la t ba tt ad V (tx ++ sciL V r cn pt))) := by
  refine z_body zSt_XW (by decide +kernel) rfl (Nat.le_of_ble_eq_true rfl) ?_
  intro p e s m args below meth c ls hx hb hml hr hlk hts0 hown hpre0 H locs hpre hS hl
  have hts : ∀ w ∈ TBL, w.before args s = true := fun w hw => hts0 w (List.mem_cons_of_mem _ hw)
  have hl : lv_has ls 4 [(0, .ref x), (1, .int (iz (cn : Int))), (2, .int (iz pt))] := hl
  have hw := hpre
  have hst0 := hpre0.st
  refine lv_aload_n hx hb d_EN_sci_0 rfl (lv_at hl 0 rfl) ?_
  have hw9 := hw
  obtain ⟨lt, f, fi, g, n, ⟨hK, hP, hD⟩, hdec, htx, -⟩ := hw9
  have hdr := hdec.1
  have htn := htx.1
  have htl := htx.2.1
  have hP : va_P D vwCl [(x, .inr (0, [.ref d, .ref t])), (d, .inr (1, [.ref la, .int (iz fi), .int (iz lt)])), (la, .inl (cI, 155, .inl (az f))), (t, .inr (2, [.ref ba, .int (iz n)])), (ba, .inl (cB, 1612, .inl (az g)))] H := hP
  have hD : va_D (AX x d la t ba) [(x, .inr (0, [.ref d, .ref t])), (d, .inr (1, [.ref la, .int (iz fi), .int (iz lt)])), (la, .inl (cI, 155, .inl (az f))), (t, .inr (2, [.ref ba, .int (iz n)])), (ba, .inl (cB, 1612, .inl (az g)))] := hD
  refine va_get (D := D) (ci := 0) (v := .ref d) (C := R_0) (T := T_0) (N := 2) hx hb hts in_0 hown hK hP 0 rfl rfl 0 (by decide) (hts _ tw_58) (fun _ h9 => h9) rfl d_EN_sci_1 ?_
  have hct := c_Dc_lead l D cI cB x d la t ba tt ad V tx r hlead
  refine z_go (va_runV (As := []) (rest := []) ⟨hx, hb, hml, hown, hts⟩ hct.2 (z_cwV hts w_Dc_leadingPlace tw_271 (by decide)) (z_preV hct.1 (va_recv hK hP (ci := 1) (q0 := 1) rfl rfl) hw) rfl rfl hl.1 rfl (lv_room (Nat.le_of_ble_eq_true rfl)) d_EN_sci_4 ⟨Nat.zero_le _, Nat.zero_le _⟩) hS (fun _ h9 => h9) (fun v9 t9 H locs hv9 hp9 hz9 hk9 hS => ?_)
  obtain ⟨rfl, hw⟩ := hp9
  have hw := XW.moved hv9.symm hw
  refine W.eq (g2 := F0 m 7 ls [.int (iz r)]) rfl ?_
  refine lv_istore_n hx hb d_EN_sci_7 rfl hl (by decide) rfl (fun ls hl => ?_)
  have hl : lv_has ls 4 [(3, .int (iz r)), (0, .ref x), (1, .int (iz (cn : Int))), (2, .int (iz pt))] := hl
  refine lv_aload_n hx hb d_EN_sci_8 rfl (lv_at hl 1 rfl) ?_
  refine lv_aload_n hx hb d_EN_sci_9 rfl (lv_at hl 1 rfl) ?_
  have hw9 := hw
  obtain ⟨lt, f, fi, g, n, ⟨hK, hP, hD⟩, hdec, htx, -⟩ := hw9
  have hdr := hdec.1
  have htn := htx.1
  have htl := htx.2.1
  have hP : va_P D vwCl [(x, .inr (0, [.ref d, .ref t])), (d, .inr (1, [.ref la, .int (iz fi), .int (iz lt)])), (la, .inl (cI, 155, .inl (az f))), (t, .inr (2, [.ref ba, .int (iz n)])), (ba, .inl (cB, 1612, .inl (az g)))] H := hP
  have hD : va_D (AX x d la t ba) [(x, .inr (0, [.ref d, .ref t])), (d, .inr (1, [.ref la, .int (iz fi), .int (iz lt)])), (la, .inl (cI, 155, .inl (az f))), (t, .inr (2, [.ref ba, .int (iz n)])), (ba, .inl (cB, 1612, .inl (az g)))] := hD
  refine va_get (D := D) (ci := 0) (v := .ref d) (C := R_0) (T := T_0) (N := 2) hx hb hts in_0 hown hK hP 0 rfl rfl 0 (by decide) (hts _ tw_58) (fun _ h9 => h9) rfl d_EN_sci_10 ?_
  refine lv_iload_n hx hb d_EN_sci_13 rfl (lv_at hl 0 rfl) ?_
  have hct := c_Dc_digitAt l D cI cB x d la t ba tt ad V tx r ⟨by omega, by omega⟩
  refine z_go (va_runV (As := [.int (iz r)]) (rest := [.ref x]) ⟨hx, hb, hml, hown, hts⟩ hct.2 (z_cwV hts w_Dc_digitAt tw_306 (by decide)) (z_preV hct.1 (va_recv hK hP (ci := 1) (q0 := 1) rfl rfl) hw) rfl rfl hl.1 rfl (lv_room (Nat.le_of_ble_eq_true rfl)) d_EN_sci_14 ⟨Nat.zero_le _, Nat.zero_le _⟩) hS (fun _ h9 => h9) (fun v9 t9 H locs hv9 hp9 hz9 hk9 hS => ?_)
  obtain ⟨rfl, hw⟩ := hp9
  have hw := XW.moved hv9.symm hw
  refine W.eq (g2 := F0 m 17 ls [.int (iz (dgt V r)), .ref x]) rfl ?_
  have hct := c_EN_digit l D cI cB x d la t ba tt ad V (tx) (dgt V r) (dgt_r _ _) (by (try simp only [List.length_append, List.length_cons, List.length_nil]); omega)
  have hw9 := hw
  obtain ⟨lt, f, fi, g, n, ⟨hK, hP, hD⟩, hdec, htx, -⟩ := hw9
  have hdr := hdec.1
  have htn := htx.1
  have htl := htx.2.1
  have hP : va_P D vwCl [(x, .inr (0, [.ref d, .ref t])), (d, .inr (1, [.ref la, .int (iz fi), .int (iz lt)])), (la, .inl (cI, 155, .inl (az f))), (t, .inr (2, [.ref ba, .int (iz n)])), (ba, .inl (cB, 1612, .inl (az g)))] H := hP
  have hD : va_D (AX x d la t ba) [(x, .inr (0, [.ref d, .ref t])), (d, .inr (1, [.ref la, .int (iz fi), .int (iz lt)])), (la, .inl (cI, 155, .inl (az f))), (t, .inr (2, [.ref ba, .int (iz n)])), (ba, .inl (cB, 1612, .inl (az g)))] := hD
  refine z_go (va_runV (As := [.int (iz (dgt V r))]) (rest := []) ⟨hx, hb, hml, hown, hts⟩ hct.2 (z_cwV hts w_EN_writeDigit tw_307 (by decide)) (z_preV hct.1 (va_recv hK hP (ci := 0) (q0 := 0) rfl rfl) hw) rfl rfl hl.1 rfl (lv_room (Nat.le_of_ble_eq_true rfl)) d_EN_sci_17 ⟨Nat.zero_le _, Nat.zero_le _⟩) hS (fun _ h9 => h9) (fun v9 t9 H locs hv9 hp9 hz9 hk9 hS => ?_)
  obtain ⟨rfl, hw⟩ := hp9
  have hw := XW.moved hv9.symm hw
  refine W.eq (g2 := F0 m 20 ls []) rfl ?_
  refine lv_aload_n hx hb d_EN_sci_20 rfl (lv_at hl 1 rfl) ?_
  refine lv_iload_n hx hb d_EN_sci_21 rfl (lv_at hl 0 rfl) ?_
  refine lv_iconst (v := iz 1) hx hb d_EN_sci_22 rfl ?_
  refine z_isub hx hb d_EN_sci_23 ?_
  refine lv_iload_n hx hb d_EN_sci_24 rfl (lv_at hl 2 rfl) ?_
  refine lv_iload_n hx hb d_EN_sci_25 rfl (lv_at hl 3 rfl) ?_
  have hct := c_EN_behind l D cI cB x d la t ba tt ad V (tx ++ [48 + dgt V r]) (r - 1) cn pt ⟨by omega, by omega⟩ hcn hpt (by (try simp only [List.length_append, List.length_cons, List.length_nil]); omega)
  have hw9 := hw
  obtain ⟨lt, f, fi, g, n, ⟨hK, hP, hD⟩, hdec, htx, -⟩ := hw9
  have hdr := hdec.1
  have htn := htx.1
  have htl := htx.2.1
  have hP : va_P D vwCl [(x, .inr (0, [.ref d, .ref t])), (d, .inr (1, [.ref la, .int (iz fi), .int (iz lt)])), (la, .inl (cI, 155, .inl (az f))), (t, .inr (2, [.ref ba, .int (iz n)])), (ba, .inl (cB, 1612, .inl (az g)))] H := hP
  have hD : va_D (AX x d la t ba) [(x, .inr (0, [.ref d, .ref t])), (d, .inr (1, [.ref la, .int (iz fi), .int (iz lt)])), (la, .inl (cI, 155, .inl (az f))), (t, .inr (2, [.ref ba, .int (iz n)])), (ba, .inl (cB, 1612, .inl (az g)))] := hD
  refine z_go (va_runV (As := [.int (iz (r - 1)), .int (iz (cn : Int)), .int (iz pt)]) (rest := []) ⟨hx, hb, hml, hown, hts⟩ hct.2 (z_cwV hts w_EN_writeBehindPoint tw_312 (by decide)) (z_preV hct.1 (va_recv hK hP (ci := 0) (q0 := 0) rfl rfl) hw) rfl rfl hl.1 rfl (lv_room (Nat.le_of_ble_eq_true rfl)) d_EN_sci_26 ⟨Nat.zero_le _, Nat.zero_le _⟩) hS (fun _ h9 => h9) (fun v9 t9 H locs hv9 hp9 hz9 hk9 hS => ?_)
  obtain ⟨rfl, hw⟩ := hp9
  have hw := XW.moved hv9.symm hw
  refine W.eq (g2 := F0 m 29 ls []) rfl ?_
  refine lv_aload_n hx hb d_EN_sci_29 rfl (lv_at hl 1 rfl) ?_
  refine lv_iload_n hx hb d_EN_sci_30 rfl (lv_at hl 0 rfl) ?_
  have hct := c_EN_exp l D cI cB x d la t ba tt ad V ((tx ++ [48 + dgt V r]) ++ behL V (r - 1) cn pt) r ⟨by omega, by omega⟩ (by omega) (by have := behL_len V (r - 1) cn pt; (try simp only [List.length_append, List.length_cons, List.length_nil]); omega)
  have hw9 := hw
  obtain ⟨lt, f, fi, g, n, ⟨hK, hP, hD⟩, hdec, htx, -⟩ := hw9
  have hdr := hdec.1
  have htn := htx.1
  have htl := htx.2.1
  have hP : va_P D vwCl [(x, .inr (0, [.ref d, .ref t])), (d, .inr (1, [.ref la, .int (iz fi), .int (iz lt)])), (la, .inl (cI, 155, .inl (az f))), (t, .inr (2, [.ref ba, .int (iz n)])), (ba, .inl (cB, 1612, .inl (az g)))] H := hP
  have hD : va_D (AX x d la t ba) [(x, .inr (0, [.ref d, .ref t])), (d, .inr (1, [.ref la, .int (iz fi), .int (iz lt)])), (la, .inl (cI, 155, .inl (az f))), (t, .inr (2, [.ref ba, .int (iz n)])), (ba, .inl (cB, 1612, .inl (az g)))] := hD
  refine z_go (va_runV (As := [.int (iz r)]) (rest := []) ⟨hx, hb, hml, hown, hts⟩ hct.2 (z_cwV hts w_EN_writeExponent tw_316 (by decide)) (z_preV hct.1 (va_recv hK hP (ci := 0) (q0 := 0) rfl rfl) hw) rfl rfl hl.1 rfl (lv_room (Nat.le_of_ble_eq_true rfl)) d_EN_sci_31 ⟨Nat.zero_le _, Nat.zero_le _⟩) hS (fun _ h9 => h9) (fun v9 t9 H locs hv9 hp9 hz9 hk9 hS => ?_)
  obtain ⟨rfl, hw⟩ := hp9
  have hw := XW.moved hv9.symm hw
  refine W.eq (g2 := F0 m 34 ls []) rfl ?_
  exact z_vret hx hb hr hlk hS (zR_st zSt_XW) ⟨rfl, by
      unfold sciL
      simpa [List.append_assoc] using hw⟩ d_EN_sci_34
theorem d_EN_fix_0 : decode b_EN_writeFixed 0 = .ok (.aload_n 0, 1) := by decide +kernel
theorem d_EN_fix_1 : decode b_EN_writeFixed 1 = .ok (.getfield 10, 3) := by decide +kernel
theorem d_EN_fix_4 : decode b_EN_writeFixed 4 = .ok (.invokevirtual 91, 3) := by decide +kernel
theorem d_EN_fix_7 : decode b_EN_writeFixed 7 = .ok (.iconst 0, 1) := by decide +kernel
theorem d_EN_fix_8 : decode b_EN_writeFixed 8 = .ok (.invokestatic 106, 3) := by decide +kernel
theorem d_EN_fix_11 : decode b_EN_writeFixed 11 = .ok (.istore 4, 2) := by decide +kernel
theorem d_EN_fix_13 : decode b_EN_writeFixed 13 = .ok (.iload 4, 2) := by decide +kernel
theorem d_EN_fix_15 : decode b_EN_writeFixed 15 = .ok (.ifCond .lt (47), 3) := by decide +kernel
theorem d_EN_fix_18 : decode b_EN_writeFixed 18 = .ok (.aload_n 0, 1) := by decide +kernel
theorem d_EN_fix_19 : decode b_EN_writeFixed 19 = .ok (.aload_n 0, 1) := by decide +kernel
theorem d_EN_fix_20 : decode b_EN_writeFixed 20 = .ok (.getfield 10, 3) := by decide +kernel
theorem d_EN_fix_23 : decode b_EN_writeFixed 23 = .ok (.iload 4, 2) := by decide +kernel
theorem d_EN_fix_25 : decode b_EN_writeFixed 25 = .ok (.invokevirtual 115, 3) := by decide +kernel
theorem d_EN_fix_28 : decode b_EN_writeFixed 28 = .ok (.invokevirtual 119, 3) := by decide +kernel
theorem d_EN_fix_31 : decode b_EN_writeFixed 31 = .ok (.iload_n 2, 1) := by decide +kernel
theorem d_EN_fix_32 : decode b_EN_writeFixed 32 = .ok (.ifCond .eq (24), 3) := by decide +kernel
theorem d_EN_fix_35 : decode b_EN_writeFixed 35 = .ok (.iload 4, 2) := by decide +kernel
theorem d_EN_fix_37 : decode b_EN_writeFixed 37 = .ok (.ifCond .le (19), 3) := by decide +kernel
theorem d_EN_fix_40 : decode b_EN_writeFixed 40 = .ok (.iload 4, 2) := by decide +kernel
theorem d_EN_fix_42 : decode b_EN_writeFixed 42 = .ok (.iconst 3, 1) := by decide +kernel
theorem d_EN_fix_43 : decode b_EN_writeFixed 43 = .ok (.irem, 1) := by decide +kernel
theorem d_EN_fix_44 : decode b_EN_writeFixed 44 = .ok (.ifCond .ne (12), 3) := by decide +kernel
theorem d_EN_fix_47 : decode b_EN_writeFixed 47 = .ok (.aload_n 0, 1) := by decide +kernel
theorem d_EN_fix_48 : decode b_EN_writeFixed 48 = .ok (.getfield 19, 3) := by decide +kernel
theorem d_EN_fix_51 : decode b_EN_writeFixed 51 = .ok (.bipush (44), 2) := by decide +kernel
theorem d_EN_fix_53 : decode b_EN_writeFixed 53 = .ok (.invokevirtual 122, 3) := by decide +kernel
theorem d_EN_fix_56 : decode b_EN_writeFixed 56 = .ok (.iinc 4 (-1), 3) := by decide +kernel
theorem d_EN_fix_59 : decode b_EN_writeFixed 59 = .ok (.goto (-46), 3) := by decide +kernel
theorem d_EN_fix_62 : decode b_EN_writeFixed 62 = .ok (.aload_n 0, 1) := by decide +kernel
theorem d_EN_fix_63 : decode b_EN_writeFixed 63 = .ok (.iconst (-1), 1) := by decide +kernel
theorem d_EN_fix_64 : decode b_EN_writeFixed 64 = .ok (.iload_n 1, 1) := by decide +kernel
theorem d_EN_fix_65 : decode b_EN_writeFixed 65 = .ok (.iload_n 3, 1) := by decide +kernel
theorem d_EN_fix_66 : decode b_EN_writeFixed 66 = .ok (.invokevirtual 126, 3) := by decide +kernel
theorem d_EN_fix_69 : decode b_EN_writeFixed 69 = .ok (.return_, 1) := by decide +kernel
set_option maxHeartbeats 4000000 in
set_option maxRecDepth 100000 in
theorem c_EN_fix (l : Launch) (D : va_G) (cI cB : ClassId) (x d la t ba tt : Nat) (ad : Nat → Nat) (V : Int) (tx : List Int) (r : Int) (cn : Nat) (gr pt : Int) (hlead : IsLead V r) (hr0 : -1999 ≤ r ∧ r ≤ 999) (hcn : cn ≤ 2000) (hgr : gr = 0 ∨ gr = 1) (hpt : pt = 0 ∨ pt = 1) (hlen : tx.length + (ipR V gr (max r 0)).length + cn + 1 ≤ 1612) : Ct l y_EN_writeFixed (ws_EN_writeFixed) 4 (AX x d la t ba) [.ref x, .int (iz (cn : Int)), .int (iz gr), .int (iz pt)] (XW D cI cB x d la t ba tt ad V tx) (zR none (XW D cI cB x d la t ba tt ad V (tx ++ fixL V r cn gr pt))) := by
  refine z_body zSt_XW (by decide +kernel) rfl (Nat.le_of_ble_eq_true rfl) ?_
  intro p e s m args below meth c ls hx hb hml hr hlk hts0 hown hpre0 H locs hpre hS hl
  have hts : ∀ w ∈ TBL, w.before args s = true := fun w hw => hts0 w (List.mem_cons_of_mem _ hw)
  have hl : lv_has ls 5 [(0, .ref x), (1, .int (iz (cn : Int))), (2, .int (iz gr)), (3, .int (iz pt))] := hl
  have hw := hpre
  have hst0 := hpre0.st
  have L13 : ∀ (N13 : Nat) (tx0 : List Int) (k : Int) (H : Heap) (locs : List Loc) (ls : Array Slot), XW D cI cB x d la t ba tt ad V tx0 s H → va_S (AX x d la t ba) s.heap H locs → lv_has ls 5 [(0, .ref x), (1, .int (iz (cn : Int))), (2, .int (iz gr)), (3, .int (iz pt)), (4, .int (iz k))] → (-1 ≤ k ∧ k ≤ 999) → (tx0 ++ ipR V gr k = tx ++ ipR V gr (max r 0)) → (k + 1).toNat < N13 → W p l e (zrm 4) s m args below meth c H locs 0 0 (MQ below (zQ (AX x d la t ba) (zR none (XW D cI cB x d la t ba tt ad V (tx ++ fixL V r cn gr pt)))) args s 0 0 (AX x d la t ba)) (F0 m 13 ls []) := by
    intro N13
    induction N13 with
    | zero => intro tx0 k H locs ls hw hS hl hk htx0 hN13; exact absurd hN13 (Nat.not_lt_zero _)
    | succ N13 ih13 =>
      intro tx0 k H locs ls hw hS hl hk htx0 hN13
      refine lv_iload hx hb d_EN_fix_13 (lv_at hl 4 rfl) ?_
      refine z_if_lt (tgt := 62) hx hb d_EN_fix_15 rfl ⟨by omega, by omega⟩ (fun hc15 => ?_) (fun hc15 => ?_)
      · refine lv_aload_n hx hb d_EN_fix_62 rfl (lv_at hl 0 rfl) ?_
        refine lv_iconst (v := iz (-1)) hx hb d_EN_fix_63 rfl ?_
        refine lv_iload_n hx hb d_EN_fix_64 rfl (lv_at hl 1 rfl) ?_
        refine lv_iload_n hx hb d_EN_fix_65 rfl (lv_at hl 3 rfl) ?_
        have hct := c_EN_behind l D cI cB x d la t ba tt ad V tx0 (-1) cn pt ⟨by omega, by omega⟩ hcn hpt (by have h8 := congrArg List.length htx0; rw [ipR_neg V gr k (by omega), List.append_nil] at htx0; rw [htx0, List.length_append]; omega)
        have hw9 := hw
        obtain ⟨lt, f, fi, g, n, ⟨hK, hP, hD⟩, hdec, htx, -⟩ := hw9
        have hdr := hdec.1
        have htn := htx.1
        have htl := htx.2.1
        have hP : va_P D vwCl [(x, .inr (0, [.ref d, .ref t])), (d, .inr (1, [.ref la, .int (iz fi), .int (iz lt)])), (la, .inl (cI, 155, .inl (az f))), (t, .inr (2, [.ref ba, .int (iz n)])), (ba, .inl (cB, 1612, .inl (az g)))] H := hP
        have hD : va_D (AX x d la t ba) [(x, .inr (0, [.ref d, .ref t])), (d, .inr (1, [.ref la, .int (iz fi), .int (iz lt)])), (la, .inl (cI, 155, .inl (az f))), (t, .inr (2, [.ref ba, .int (iz n)])), (ba, .inl (cB, 1612, .inl (az g)))] := hD
        refine z_go (va_runV (As := [.int (iz (-1)), .int (iz (cn : Int)), .int (iz pt)]) (rest := []) ⟨hx, hb, hml, hown, hts⟩ hct.2 (z_cwV hts w_EN_writeBehindPoint tw_312 (by decide)) (z_preV hct.1 (va_recv hK hP (ci := 0) (q0 := 0) rfl rfl) hw) rfl rfl hl.1 rfl (lv_room (Nat.le_of_ble_eq_true rfl)) d_EN_fix_66 ⟨Nat.zero_le _, Nat.zero_le _⟩) hS (fun _ h9 => h9) (fun v9 t9 H locs hv9 hp9 hz9 hk9 hS => ?_)
        obtain ⟨rfl, hw⟩ := hp9
        have hw := XW.moved hv9.symm hw
        refine W.eq (g2 := F0 m 69 ls []) rfl ?_
        exact z_vret hx hb hr hlk hS (zR_st zSt_XW) ⟨rfl, by
            unfold fixL
            rw [ipR_neg V gr k (by omega), List.append_nil] at htx0
            rw [htx0, List.append_assoc] at hw
            exact hw⟩ d_EN_fix_69
      · have hl8 := congrArg List.length htx0
        rw [ipR_step V gr k (by omega)] at hl8
        simp only [List.length_append, List.length_cons, List.length_nil] at hl8
        refine lv_aload_n hx hb d_EN_fix_18 rfl (lv_at hl 0 rfl) ?_
        refine lv_aload_n hx hb d_EN_fix_19 rfl (lv_at hl 0 rfl) ?_
        have hw9 := hw
        obtain ⟨lt, f, fi, g, n, ⟨hK, hP, hD⟩, hdec, htx, -⟩ := hw9
        have hdr := hdec.1
        have htn := htx.1
        have htl := htx.2.1
        have hP : va_P D vwCl [(x, .inr (0, [.ref d, .ref t])), (d, .inr (1, [.ref la, .int (iz fi), .int (iz lt)])), (la, .inl (cI, 155, .inl (az f))), (t, .inr (2, [.ref ba, .int (iz n)])), (ba, .inl (cB, 1612, .inl (az g)))] H := hP
        have hD : va_D (AX x d la t ba) [(x, .inr (0, [.ref d, .ref t])), (d, .inr (1, [.ref la, .int (iz fi), .int (iz lt)])), (la, .inl (cI, 155, .inl (az f))), (t, .inr (2, [.ref ba, .int (iz n)])), (ba, .inl (cB, 1612, .inl (az g)))] := hD
        refine va_get (D := D) (ci := 0) (v := .ref d) (C := R_0) (T := T_0) (N := 2) hx hb hts in_0 hown hK hP 0 rfl rfl 0 (by decide) (hts _ tw_58) (fun _ h9 => h9) rfl d_EN_fix_20 ?_
        refine lv_iload hx hb d_EN_fix_23 (lv_at hl 4 rfl) ?_
        have hct := c_Dc_digitAt l D cI cB x d la t ba tt ad V tx0 k ⟨by omega, by omega⟩
        refine z_go (va_runV (As := [.int (iz k)]) (rest := [.ref x]) ⟨hx, hb, hml, hown, hts⟩ hct.2 (z_cwV hts w_Dc_digitAt tw_306 (by decide)) (z_preV hct.1 (va_recv hK hP (ci := 1) (q0 := 1) rfl rfl) hw) rfl rfl hl.1 rfl (lv_room (Nat.le_of_ble_eq_true rfl)) d_EN_fix_25 ⟨Nat.zero_le _, Nat.zero_le _⟩) hS (fun _ h9 => h9) (fun v9 t9 H locs hv9 hp9 hz9 hk9 hS => ?_)
        obtain ⟨rfl, hw⟩ := hp9
        have hw := XW.moved hv9.symm hw
        refine W.eq (g2 := F0 m 28 ls [.int (iz (dgt V k)), .ref x]) rfl ?_
        have hct := c_EN_digit l D cI cB x d la t ba tt ad V (tx0) (dgt V k) (dgt_r _ _) (by (try simp only [List.length_append, List.length_cons, List.length_nil]); omega)
        have hw9 := hw
        obtain ⟨lt, f, fi, g, n, ⟨hK, hP, hD⟩, hdec, htx, -⟩ := hw9
        have hdr := hdec.1
        have htn := htx.1
        have htl := htx.2.1
        have hP : va_P D vwCl [(x, .inr (0, [.ref d, .ref t])), (d, .inr (1, [.ref la, .int (iz fi), .int (iz lt)])), (la, .inl (cI, 155, .inl (az f))), (t, .inr (2, [.ref ba, .int (iz n)])), (ba, .inl (cB, 1612, .inl (az g)))] H := hP
        have hD : va_D (AX x d la t ba) [(x, .inr (0, [.ref d, .ref t])), (d, .inr (1, [.ref la, .int (iz fi), .int (iz lt)])), (la, .inl (cI, 155, .inl (az f))), (t, .inr (2, [.ref ba, .int (iz n)])), (ba, .inl (cB, 1612, .inl (az g)))] := hD
        refine z_go (va_runV (As := [.int (iz (dgt V k))]) (rest := []) ⟨hx, hb, hml, hown, hts⟩ hct.2 (z_cwV hts w_EN_writeDigit tw_307 (by decide)) (z_preV hct.1 (va_recv hK hP (ci := 0) (q0 := 0) rfl rfl) hw) rfl rfl hl.1 rfl (lv_room (Nat.le_of_ble_eq_true rfl)) d_EN_fix_28 ⟨Nat.zero_le _, Nat.zero_le _⟩) hS (fun _ h9 => h9) (fun v9 t9 H locs hv9 hp9 hz9 hk9 hS => ?_)
        obtain ⟨rfl, hw⟩ := hp9
        have hw := XW.moved hv9.symm hw
        refine W.eq (g2 := F0 m 31 ls []) rfl ?_
        refine lv_iload_n hx hb d_EN_fix_31 rfl (lv_at hl 2 rfl) ?_
        refine z_if_eq (tgt := 56) hx hb d_EN_fix_32 rfl ⟨by omega, by omega⟩ (fun hc32 => ?_) (fun hc32 => ?_)
        · refine lv_iinc (k := 4) (v := (iz (k - 1))) hx hb d_EN_fix_56 hl rfl (by show iz _ + iz (-1) = _; rw [← iz_add]; try rfl) (by decide) rfl (fun ls hl => ?_)
          have hl : lv_has ls 5 [(4, .int (iz (k - 1))), (0, .ref x), (1, .int (iz (cn : Int))), (2, .int (iz gr)), (3, .int (iz pt))] := hl
          refine lv_goto (tgt := 13) hx hb d_EN_fix_59 rfl ?_
          exact ih13 (tx0 ++ [48 + (dgt V k)]) (k - 1) _ _ _ hw hS (lv_sub hl [1, 2, 3, 4, 0] rfl) ⟨by omega, by omega⟩ (by
                rw [← htx0, ipR_step V gr k (by omega)]
                first
                  | rw [if_pos ⟨by omega, by omega, by omega⟩]
                  | rw [if_neg (by omega)]
                simp [List.append_assoc]) (by omega)
        · refine lv_iload hx hb d_EN_fix_35 (lv_at hl 4 rfl) ?_
          refine z_if_le (tgt := 56) hx hb d_EN_fix_37 rfl ⟨by omega, by omega⟩ (fun hc37 => ?_) (fun hc37 => ?_)
          · refine lv_iinc (k := 4) (v := (iz (k - 1))) hx hb d_EN_fix_56 hl rfl (by show iz _ + iz (-1) = _; rw [← iz_add]; try rfl) (by decide) rfl (fun ls hl => ?_)
            have hl : lv_has ls 5 [(4, .int (iz (k - 1))), (0, .ref x), (1, .int (iz (cn : Int))), (2, .int (iz gr)), (3, .int (iz pt))] := hl
            refine lv_goto (tgt := 13) hx hb d_EN_fix_59 rfl ?_
            exact ih13 (tx0 ++ [48 + (dgt V k)]) (k - 1) _ _ _ hw hS (lv_sub hl [1, 2, 3, 4, 0] rfl) ⟨by omega, by omega⟩ (by
                  rw [← htx0, ipR_step V gr k (by omega)]
                  first
                    | rw [if_pos ⟨by omega, by omega, by omega⟩]
                    | rw [if_neg (by omega)]
                  simp [List.append_assoc]) (by omega)
          · refine lv_iload hx hb d_EN_fix_40 (lv_at hl 4 rfl) ?_
            refine lv_iconst (v := iz 3) hx hb d_EN_fix_42 rfl ?_
            refine z_irem hx hb d_EN_fix_43 ⟨by omega, by omega⟩ ⟨by omega, by omega⟩ ?_
            refine z_if_ne (tgt := 56) hx hb d_EN_fix_44 rfl ⟨by omega, by omega⟩ (fun hc44 => ?_) (fun hc44 => ?_)
            · refine lv_iinc (k := 4) (v := (iz (k - 1))) hx hb d_EN_fix_56 hl rfl (by show iz _ + iz (-1) = _; rw [← iz_add]; try rfl) (by decide) rfl (fun ls hl => ?_)
              have hl : lv_has ls 5 [(4, .int (iz (k - 1))), (0, .ref x), (1, .int (iz (cn : Int))), (2, .int (iz gr)), (3, .int (iz pt))] := hl
              refine lv_goto (tgt := 13) hx hb d_EN_fix_59 rfl ?_
              exact ih13 (tx0 ++ [48 + (dgt V k)]) (k - 1) _ _ _ hw hS (lv_sub hl [1, 2, 3, 4, 0] rfl) ⟨by omega, by omega⟩ (by
                    rw [← htx0, ipR_step V gr k (by omega)]
                    first
                      | rw [if_pos ⟨by omega, by omega, by omega⟩]
                      | rw [if_neg (by omega)]
                    simp [List.append_assoc]) (by omega)
            · rw [if_pos ⟨by omega, by omega, by omega⟩] at hl8
              simp only [List.length_cons, List.length_nil] at hl8
              refine lv_aload_n hx hb d_EN_fix_47 rfl (lv_at hl 0 rfl) ?_
              have hw9 := hw
              obtain ⟨lt, f, fi, g, n, ⟨hK, hP, hD⟩, hdec, htx, -⟩ := hw9
              have hdr := hdec.1
              have htn := htx.1
              have htl := htx.2.1
              have hP : va_P D vwCl [(x, .inr (0, [.ref d, .ref t])), (d, .inr (1, [.ref la, .int (iz fi), .int (iz lt)])), (la, .inl (cI, 155, .inl (az f))), (t, .inr (2, [.ref ba, .int (iz n)])), (ba, .inl (cB, 1612, .inl (az g)))] H := hP
              have hD : va_D (AX x d la t ba) [(x, .inr (0, [.ref d, .ref t])), (d, .inr (1, [.ref la, .int (iz fi), .int (iz lt)])), (la, .inl (cI, 155, .inl (az f))), (t, .inr (2, [.ref ba, .int (iz n)])), (ba, .inl (cB, 1612, .inl (az g)))] := hD
              refine va_get (D := D) (ci := 0) (v := .ref t) (C := R_0) (T := T_0) (N := 2) hx hb hts in_0 hown hK hP 0 rfl rfl 1 (by decide) (hts _ tw_59) (fun _ h9 => h9) rfl d_EN_fix_48 ?_
              refine lv_bipush (v := iz 44) hx hb d_EN_fix_51 (by decide) ?_
              have hct := c_Tx_add l D cI cB x d la t ba tt ad V (tx0 ++ [48 + dgt V k]) (44) ⟨by omega, by omega⟩ (by (try simp only [List.length_append, List.length_cons, List.length_nil]); omega)
              refine z_go (va_runV (As := [.int (iz 44)]) (rest := []) ⟨hx, hb, hml, hown, hts⟩ hct.2 (z_cwV hts w_Tx_add tw_311 (by decide)) (z_preV hct.1 (va_recv hK hP (ci := 2) (q0 := 3) rfl rfl) hw) rfl rfl hl.1 rfl (lv_room (Nat.le_of_ble_eq_true rfl)) d_EN_fix_53 ⟨Nat.zero_le _, Nat.zero_le _⟩) hS (fun _ h9 => h9) (fun v9 t9 H locs hv9 hp9 hz9 hk9 hS => ?_)
              obtain ⟨rfl, hw⟩ := hp9
              have hw := XW.moved hv9.symm hw
              refine W.eq (g2 := F0 m 56 ls []) rfl ?_
              refine lv_iinc (k := 4) (v := (iz (k - 1))) hx hb d_EN_fix_56 hl rfl (by show iz _ + iz (-1) = _; rw [← iz_add]; try rfl) (by decide) rfl (fun ls hl => ?_)
              have hl : lv_has ls 5 [(4, .int (iz (k - 1))), (0, .ref x), (1, .int (iz (cn : Int))), (2, .int (iz gr)), (3, .int (iz pt))] := hl
              refine lv_goto (tgt := 13) hx hb d_EN_fix_59 rfl ?_
              exact ih13 (tx0 ++ [48 + dgt V k] ++ [44]) (k - 1) _ _ _ hw hS (lv_sub hl [1, 2, 3, 4, 0] rfl) ⟨by omega, by omega⟩ (by
                    rw [← htx0, ipR_step V gr k (by omega)]
                    first
                      | rw [if_pos ⟨by omega, by omega, by omega⟩]
                      | rw [if_neg (by omega)]
                    simp [List.append_assoc]) (by omega)
  refine lv_aload_n hx hb d_EN_fix_0 rfl (lv_at hl 0 rfl) ?_
  have hw9 := hw
  obtain ⟨lt, f, fi, g, n, ⟨hK, hP, hD⟩, hdec, htx, -⟩ := hw9
  have hdr := hdec.1
  have htn := htx.1
  have htl := htx.2.1
  have hP : va_P D vwCl [(x, .inr (0, [.ref d, .ref t])), (d, .inr (1, [.ref la, .int (iz fi), .int (iz lt)])), (la, .inl (cI, 155, .inl (az f))), (t, .inr (2, [.ref ba, .int (iz n)])), (ba, .inl (cB, 1612, .inl (az g)))] H := hP
  have hD : va_D (AX x d la t ba) [(x, .inr (0, [.ref d, .ref t])), (d, .inr (1, [.ref la, .int (iz fi), .int (iz lt)])), (la, .inl (cI, 155, .inl (az f))), (t, .inr (2, [.ref ba, .int (iz n)])), (ba, .inl (cB, 1612, .inl (az g)))] := hD
  refine va_get (D := D) (ci := 0) (v := .ref d) (C := R_0) (T := T_0) (N := 2) hx hb hts in_0 hown hK hP 0 rfl rfl 0 (by decide) (hts _ tw_58) (fun _ h9 => h9) rfl d_EN_fix_1 ?_
  have hct := c_Dc_lead l D cI cB x d la t ba tt ad V tx r hlead
  refine z_go (va_runV (As := []) (rest := []) ⟨hx, hb, hml, hown, hts⟩ hct.2 (z_cwV hts w_Dc_leadingPlace tw_271 (by decide)) (z_preV hct.1 (va_recv hK hP (ci := 1) (q0 := 1) rfl rfl) hw) rfl rfl hl.1 rfl (lv_room (Nat.le_of_ble_eq_true rfl)) d_EN_fix_4 ⟨Nat.zero_le _, Nat.zero_le _⟩) hS (fun _ h9 => h9) (fun v9 t9 H locs hv9 hp9 hz9 hk9 hS => ?_)
  obtain ⟨rfl, hw⟩ := hp9
  have hw := XW.moved hv9.symm hw
  refine W.eq (g2 := F0 m 7 ls [.int (iz r)]) rfl ?_
  refine lv_iconst (v := iz 0) hx hb d_EN_fix_7 rfl ?_
  refine z_mmax hx hb (hml.trans hl.1.symm) hown (hts _ tw_327) (hts _ tw_242) (hts _ tw_16) (hts _ twm_max) (Nat.le_of_ble_eq_true rfl) (Nat.le_of_ble_eq_true rfl) (Nat.zero_le _) (Nat.zero_le _) ⟨by omega, by omega⟩ ⟨by omega, by omega⟩ d_EN_fix_8 ?_
  refine lv_istore hx hb d_EN_fix_11 hl (by decide) rfl (fun ls hl => ?_)
  have hl : lv_has ls 5 [(4, .int (iz (max r 0))), (0, .ref x), (1, .int (iz (cn : Int))), (2, .int (iz gr)), (3, .int (iz pt))] := hl
  exact L13 _ tx (max r 0) _ _ _ hw hS (lv_sub hl [1, 2, 3, 4, 0] rfl) ⟨by omega, by omega⟩ rfl (Nat.lt_succ_self _)
